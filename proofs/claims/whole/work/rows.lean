section
-- ===== PART A: goes FIRST, ahead of the names: the tables' words, and 'selects' of the private methods out of them =====
/-- a private method of a class that the tables say can be made, by its rows of tables_1 -/
def lw_okq (q : MethodName × Nat) : Prop := (q.1.cls ≠ "java/lang/invoke/MethodHandle" ∧ q.1.cls ≠ "java/lang/invoke/VarHandle") ∧ Cond.instantiable q.1.cls q.2 ∈ tables_1 ∧ Cond.privateMethod q.1 ∈ tables_1 ∧ Cond.instanceMethod q.1 ∈ tables_1
theorem lw_p0 : lw_okq (⟨"PledgeHouse", "save", "()V"⟩, 9) := ⟨⟨by decide +kernel, by decide +kernel⟩, List.mem_of_getElem? (i := 19) (by decide +kernel), List.mem_of_getElem? (i := 230) (by decide +kernel), List.mem_of_getElem? (i := 231) (by decide +kernel)⟩
theorem lw_p1 : lw_okq (⟨"PledgeHouse", "saveBefore", "()V"⟩, 9) := ⟨⟨by decide +kernel, by decide +kernel⟩, List.mem_of_getElem? (i := 19) (by decide +kernel), List.mem_of_getElem? (i := 241) (by decide +kernel), List.mem_of_getElem? (i := 242) (by decide +kernel)⟩
theorem lw_p2 : lw_okq (⟨"PledgeHouse", "hashKind", "(JI)J"⟩, 9) := ⟨⟨by decide +kernel, by decide +kernel⟩, List.mem_of_getElem? (i := 19) (by decide +kernel), List.mem_of_getElem? (i := 441) (by decide +kernel), List.mem_of_getElem? (i := 442) (by decide +kernel)⟩
theorem lw_p3 : lw_okq (⟨"PledgeHouse", "hashPledges", "(JI)J"⟩, 9) := ⟨⟨by decide +kernel, by decide +kernel⟩, List.mem_of_getElem? (i := 19) (by decide +kernel), List.mem_of_getElem? (i := 453) (by decide +kernel), List.mem_of_getElem? (i := 454) (by decide +kernel)⟩
theorem lw_p4 : lw_okq (⟨"PledgeHouse", "hashOutlook", "(JI)J"⟩, 9) := ⟨⟨by decide +kernel, by decide +kernel⟩, List.mem_of_getElem? (i := 19) (by decide +kernel), List.mem_of_getElem? (i := 467) (by decide +kernel), List.mem_of_getElem? (i := 468) (by decide +kernel)⟩
theorem lw_p5 : lw_okq (⟨"PledgeHouse", "hashRules", "(J)J"⟩, 9) := ⟨⟨by decide +kernel, by decide +kernel⟩, List.mem_of_getElem? (i := 19) (by decide +kernel), List.mem_of_getElem? (i := 540) (by decide +kernel), List.mem_of_getElem? (i := 541) (by decide +kernel)⟩
theorem lw_p6 : lw_okq (⟨"PledgeHouse", "hashAccounts", "(J)J"⟩, 9) := ⟨⟨by decide +kernel, by decide +kernel⟩, List.mem_of_getElem? (i := 19) (by decide +kernel), List.mem_of_getElem? (i := 548) (by decide +kernel), List.mem_of_getElem? (i := 549) (by decide +kernel)⟩
theorem lw_p7 : lw_okq (⟨"PledgeHouse", "hashSlotsAndText", "(J)J"⟩, 9) := ⟨⟨by decide +kernel, by decide +kernel⟩, List.mem_of_getElem? (i := 19) (by decide +kernel), List.mem_of_getElem? (i := 560) (by decide +kernel), List.mem_of_getElem? (i := 561) (by decide +kernel)⟩
theorem lw_p8 : lw_okq (⟨"java/lang/Throwable", "fillInStackTrace", "(I)Ljava/lang/Throwable;"⟩, 6) := ⟨⟨by decide +kernel, by decide +kernel⟩, List.mem_of_getElem? (i := 614) (by decide +kernel), List.mem_of_getElem? (i := 612) (by decide +kernel), List.mem_of_getElem? (i := 613) (by decide +kernel)⟩
theorem lw_p9 : lw_okq (⟨"PledgeHouse", "carryOutPart", "()Z"⟩, 9) := ⟨⟨by decide +kernel, by decide +kernel⟩, List.mem_of_getElem? (i := 19) (by decide +kernel), List.mem_of_getElem? (i := 867) (by decide +kernel), List.mem_of_getElem? (i := 868) (by decide +kernel)⟩
theorem lw_p10 : lw_okq (⟨"PledgeHouseModel", "sets", "(IIII)I"⟩, 12) := ⟨⟨by decide +kernel, by decide +kernel⟩, List.mem_of_getElem? (i := 1053) (by decide +kernel), List.mem_of_getElem? (i := 1110) (by decide +kernel), List.mem_of_getElem? (i := 1111) (by decide +kernel)⟩
theorem lw_p11 : lw_okq (⟨"PledgeHouseModel", "throwing", "(I)I"⟩, 12) := ⟨⟨by decide +kernel, by decide +kernel⟩, List.mem_of_getElem? (i := 1053) (by decide +kernel), List.mem_of_getElem? (i := 1114) (by decide +kernel), List.mem_of_getElem? (i := 1115) (by decide +kernel)⟩
theorem lw_p12 : lw_okq (⟨"PledgeHouseModel", "save", "()V"⟩, 12) := ⟨⟨by decide +kernel, by decide +kernel⟩, List.mem_of_getElem? (i := 1053) (by decide +kernel), List.mem_of_getElem? (i := 1118) (by decide +kernel), List.mem_of_getElem? (i := 1119) (by decide +kernel)⟩
theorem lw_p13 : lw_okq (⟨"PledgeHouseModel", "looks", "()V"⟩, 12) := ⟨⟨by decide +kernel, by decide +kernel⟩, List.mem_of_getElem? (i := 1053) (by decide +kernel), List.mem_of_getElem? (i := 1122) (by decide +kernel), List.mem_of_getElem? (i := 1123) (by decide +kernel)⟩
theorem lw_p14 : lw_okq (⟨"PledgeHouseModel", "isCovered", "(I)Z"⟩, 12) := ⟨⟨by decide +kernel, by decide +kernel⟩, List.mem_of_getElem? (i := 1053) (by decide +kernel), List.mem_of_getElem? (i := 1126) (by decide +kernel), List.mem_of_getElem? (i := 1127) (by decide +kernel)⟩
theorem lw_p15 : lw_okq (⟨"PledgeHouseModel", "of", "(II)I"⟩, 12) := ⟨⟨by decide +kernel, by decide +kernel⟩, List.mem_of_getElem? (i := 1053) (by decide +kernel), List.mem_of_getElem? (i := 1130) (by decide +kernel), List.mem_of_getElem? (i := 1131) (by decide +kernel)⟩
def lw_privs_1 : List (MethodName × Nat) := [(⟨"PledgeHouse", "save", "()V"⟩, 9), (⟨"PledgeHouse", "saveBefore", "()V"⟩, 9), (⟨"PledgeHouse", "hashKind", "(JI)J"⟩, 9), (⟨"PledgeHouse", "hashPledges", "(JI)J"⟩, 9), (⟨"PledgeHouse", "hashOutlook", "(JI)J"⟩, 9), (⟨"PledgeHouse", "hashRules", "(J)J"⟩, 9), (⟨"PledgeHouse", "hashAccounts", "(J)J"⟩, 9), (⟨"PledgeHouse", "hashSlotsAndText", "(J)J"⟩, 9), (⟨"java/lang/Throwable", "fillInStackTrace", "(I)Ljava/lang/Throwable;"⟩, 6), (⟨"PledgeHouse", "carryOutPart", "()Z"⟩, 9), (⟨"PledgeHouseModel", "sets", "(IIII)I"⟩, 12), (⟨"PledgeHouseModel", "throwing", "(I)I"⟩, 12), (⟨"PledgeHouseModel", "save", "()V"⟩, 12), (⟨"PledgeHouseModel", "looks", "()V"⟩, 12), (⟨"PledgeHouseModel", "isCovered", "(I)Z"⟩, 12), (⟨"PledgeHouseModel", "of", "(II)I"⟩, 12)]
theorem lw_r1 : ∀ q ∈ lw_privs_1, lw_okq q := List.forall_mem_cons.mpr ⟨lw_p0, List.forall_mem_cons.mpr ⟨lw_p1, List.forall_mem_cons.mpr ⟨lw_p2, List.forall_mem_cons.mpr ⟨lw_p3, List.forall_mem_cons.mpr ⟨lw_p4, List.forall_mem_cons.mpr ⟨lw_p5, List.forall_mem_cons.mpr ⟨lw_p6, List.forall_mem_cons.mpr ⟨lw_p7, List.forall_mem_cons.mpr ⟨lw_p8, List.forall_mem_cons.mpr ⟨lw_p9, List.forall_mem_cons.mpr ⟨lw_p10, List.forall_mem_cons.mpr ⟨lw_p11, List.forall_mem_cons.mpr ⟨lw_p12, List.forall_mem_cons.mpr ⟨lw_p13, List.forall_mem_cons.mpr ⟨lw_p14, List.forall_mem_cons.mpr ⟨lw_p15, fun _ h => absurd h List.not_mem_nil⟩⟩⟩⟩⟩⟩⟩⟩⟩⟩⟩⟩⟩⟩⟩⟩
theorem lw_p16 : lw_okq (⟨"PledgeHouseModel", "cover", "(I)I"⟩, 12) := ⟨⟨by decide +kernel, by decide +kernel⟩, List.mem_of_getElem? (i := 1053) (by decide +kernel), List.mem_of_getElem? (i := 1134) (by decide +kernel), List.mem_of_getElem? (i := 1135) (by decide +kernel)⟩
theorem lw_p17 : lw_okq (⟨"PledgeHouseModel", "coverIf", "(III)I"⟩, 12) := ⟨⟨by decide +kernel, by decide +kernel⟩, List.mem_of_getElem? (i := 1053) (by decide +kernel), List.mem_of_getElem? (i := 1138) (by decide +kernel), List.mem_of_getElem? (i := 1139) (by decide +kernel)⟩
theorem lw_p18 : lw_okq (⟨"PledgeHouseModel", "fallen", "(II)I"⟩, 12) := ⟨⟨by decide +kernel, by decide +kernel⟩, List.mem_of_getElem? (i := 1053) (by decide +kernel), List.mem_of_getElem? (i := 1142) (by decide +kernel), List.mem_of_getElem? (i := 1143) (by decide +kernel)⟩
theorem lw_p19 : lw_okq (⟨"PledgeHouseModel", "called", "(I)Z"⟩, 12) := ⟨⟨by decide +kernel, by decide +kernel⟩, List.mem_of_getElem? (i := 1053) (by decide +kernel), List.mem_of_getElem? (i := 1146) (by decide +kernel), List.mem_of_getElem? (i := 1147) (by decide +kernel)⟩
theorem lw_p20 : lw_okq (⟨"PledgeHouseModel", "lay", "(III)V"⟩, 12) := ⟨⟨by decide +kernel, by decide +kernel⟩, List.mem_of_getElem? (i := 1053) (by decide +kernel), List.mem_of_getElem? (i := 1150) (by decide +kernel), List.mem_of_getElem? (i := 1151) (by decide +kernel)⟩
theorem lw_p21 : lw_okq (⟨"PledgeHouseModel", "areThere", "(II)Z"⟩, 12) := ⟨⟨by decide +kernel, by decide +kernel⟩, List.mem_of_getElem? (i := 1053) (by decide +kernel), List.mem_of_getElem? (i := 1166) (by decide +kernel), List.mem_of_getElem? (i := 1167) (by decide +kernel)⟩
theorem lw_p22 : lw_okq (⟨"PledgeHouseModel", "canPledge", "(III)Z"⟩, 12) := ⟨⟨by decide +kernel, by decide +kernel⟩, List.mem_of_getElem? (i := 1053) (by decide +kernel), List.mem_of_getElem? (i := 1173) (by decide +kernel), List.mem_of_getElem? (i := 1174) (by decide +kernel)⟩
theorem lw_p23 : lw_okq (⟨"PledgeHouseModel", "grow", "(III)V"⟩, 12) := ⟨⟨by decide +kernel, by decide +kernel⟩, List.mem_of_getElem? (i := 1053) (by decide +kernel), List.mem_of_getElem? (i := 1177) (by decide +kernel), List.mem_of_getElem? (i := 1178) (by decide +kernel)⟩
theorem lw_p24 : lw_okq (⟨"PledgeHouseModel", "canLack", "(III)Z"⟩, 12) := ⟨⟨by decide +kernel, by decide +kernel⟩, List.mem_of_getElem? (i := 1053) (by decide +kernel), List.mem_of_getElem? (i := 1185) (by decide +kernel), List.mem_of_getElem? (i := 1186) (by decide +kernel)⟩
theorem lw_p25 : lw_okq (⟨"PledgeHouseModel", "isThere", "(I)Z"⟩, 12) := ⟨⟨by decide +kernel, by decide +kernel⟩, List.mem_of_getElem? (i := 1053) (by decide +kernel), List.mem_of_getElem? (i := 1193) (by decide +kernel), List.mem_of_getElem? (i := 1194) (by decide +kernel)⟩
theorem lw_p26 : lw_okq (⟨"PledgeHouseModel", "canLend", "(II)Z"⟩, 12) := ⟨⟨by decide +kernel, by decide +kernel⟩, List.mem_of_getElem? (i := 1053) (by decide +kernel), List.mem_of_getElem? (i := 1206) (by decide +kernel), List.mem_of_getElem? (i := 1207) (by decide +kernel)⟩
theorem lw_p27 : lw_okq (⟨"PledgeHouseModel", "lends", "(II)V"⟩, 12) := ⟨⟨by decide +kernel, by decide +kernel⟩, List.mem_of_getElem? (i := 1053) (by decide +kernel), List.mem_of_getElem? (i := 1210) (by decide +kernel), List.mem_of_getElem? (i := 1211) (by decide +kernel)⟩
theorem lw_p28 : lw_okq (⟨"PledgeHouseModel", "paysBack", "(II)I"⟩, 12) := ⟨⟨by decide +kernel, by decide +kernel⟩, List.mem_of_getElem? (i := 1053) (by decide +kernel), List.mem_of_getElem? (i := 1218) (by decide +kernel), List.mem_of_getElem? (i := 1219) (by decide +kernel)⟩
theorem lw_p29 : lw_okq (⟨"PledgeHouseModel", "passes", "(I)I"⟩, 12) := ⟨⟨by decide +kernel, by decide +kernel⟩, List.mem_of_getElem? (i := 1053) (by decide +kernel), List.mem_of_getElem? (i := 1230) (by decide +kernel), List.mem_of_getElem? (i := 1231) (by decide +kernel)⟩
theorem lw_p30 : lw_okq (⟨"PledgeHouseModel", "hour", "()I"⟩, 12) := ⟨⟨by decide +kernel, by decide +kernel⟩, List.mem_of_getElem? (i := 1053) (by decide +kernel), List.mem_of_getElem? (i := 1234) (by decide +kernel), List.mem_of_getElem? (i := 1235) (by decide +kernel)⟩
theorem lw_p31 : lw_okq (⟨"PledgeHouseModel", "sellsOut", "(I)I"⟩, 12) := ⟨⟨by decide +kernel, by decide +kernel⟩, List.mem_of_getElem? (i := 1053) (by decide +kernel), List.mem_of_getElem? (i := 1241) (by decide +kernel), List.mem_of_getElem? (i := 1242) (by decide +kernel)⟩
def lw_privs_2 : List (MethodName × Nat) := [(⟨"PledgeHouseModel", "cover", "(I)I"⟩, 12), (⟨"PledgeHouseModel", "coverIf", "(III)I"⟩, 12), (⟨"PledgeHouseModel", "fallen", "(II)I"⟩, 12), (⟨"PledgeHouseModel", "called", "(I)Z"⟩, 12), (⟨"PledgeHouseModel", "lay", "(III)V"⟩, 12), (⟨"PledgeHouseModel", "areThere", "(II)Z"⟩, 12), (⟨"PledgeHouseModel", "canPledge", "(III)Z"⟩, 12), (⟨"PledgeHouseModel", "grow", "(III)V"⟩, 12), (⟨"PledgeHouseModel", "canLack", "(III)Z"⟩, 12), (⟨"PledgeHouseModel", "isThere", "(I)Z"⟩, 12), (⟨"PledgeHouseModel", "canLend", "(II)Z"⟩, 12), (⟨"PledgeHouseModel", "lends", "(II)V"⟩, 12), (⟨"PledgeHouseModel", "paysBack", "(II)I"⟩, 12), (⟨"PledgeHouseModel", "passes", "(I)I"⟩, 12), (⟨"PledgeHouseModel", "hour", "()I"⟩, 12), (⟨"PledgeHouseModel", "sellsOut", "(I)I"⟩, 12)]
theorem lw_r2 : ∀ q ∈ lw_privs_2, lw_okq q := List.forall_mem_cons.mpr ⟨lw_p16, List.forall_mem_cons.mpr ⟨lw_p17, List.forall_mem_cons.mpr ⟨lw_p18, List.forall_mem_cons.mpr ⟨lw_p19, List.forall_mem_cons.mpr ⟨lw_p20, List.forall_mem_cons.mpr ⟨lw_p21, List.forall_mem_cons.mpr ⟨lw_p22, List.forall_mem_cons.mpr ⟨lw_p23, List.forall_mem_cons.mpr ⟨lw_p24, List.forall_mem_cons.mpr ⟨lw_p25, List.forall_mem_cons.mpr ⟨lw_p26, List.forall_mem_cons.mpr ⟨lw_p27, List.forall_mem_cons.mpr ⟨lw_p28, List.forall_mem_cons.mpr ⟨lw_p29, List.forall_mem_cons.mpr ⟨lw_p30, List.forall_mem_cons.mpr ⟨lw_p31, fun _ h => absurd h List.not_mem_nil⟩⟩⟩⟩⟩⟩⟩⟩⟩⟩⟩⟩⟩⟩⟩⟩
theorem lw_p32 : lw_okq (⟨"PledgeHouseModel", "pays", "(II)V"⟩, 12) := ⟨⟨by decide +kernel, by decide +kernel⟩, List.mem_of_getElem? (i := 1053) (by decide +kernel), List.mem_of_getElem? (i := 1245) (by decide +kernel), List.mem_of_getElem? (i := 1246) (by decide +kernel)⟩
theorem lw_p33 : lw_okq (⟨"PledgeHouseModel", "selling", "(I)I"⟩, 12) := ⟨⟨by decide +kernel, by decide +kernel⟩, List.mem_of_getElem? (i := 1053) (by decide +kernel), List.mem_of_getElem? (i := 1249) (by decide +kernel), List.mem_of_getElem? (i := 1250) (by decide +kernel)⟩
theorem lw_p34 : lw_okq (⟨"PledgeHouseModel", "isAhead", "(II)Z"⟩, 12) := ⟨⟨by decide +kernel, by decide +kernel⟩, List.mem_of_getElem? (i := 1053) (by decide +kernel), List.mem_of_getElem? (i := 1253) (by decide +kernel), List.mem_of_getElem? (i := 1254) (by decide +kernel)⟩
theorem lw_p35 : lw_okq (⟨"PledgeHouseModel", "rules", "(IIII)I"⟩, 12) := ⟨⟨by decide +kernel, by decide +kernel⟩, List.mem_of_getElem? (i := 1053) (by decide +kernel), List.mem_of_getElem? (i := 1261) (by decide +kernel), List.mem_of_getElem? (i := 1262) (by decide +kernel)⟩
theorem lw_p36 : lw_okq (⟨"PledgeHouseModel", "go", "(Z)Z"⟩, 12) := ⟨⟨by decide +kernel, by decide +kernel⟩, List.mem_of_getElem? (i := 1053) (by decide +kernel), List.mem_of_getElem? (i := 1289) (by decide +kernel), List.mem_of_getElem? (i := 1290) (by decide +kernel)⟩
theorem lw_p37 : lw_okq (⟨"PledgeHouseModel", "isOrdered", "(Z)Z"⟩, 12) := ⟨⟨by decide +kernel, by decide +kernel⟩, List.mem_of_getElem? (i := 1053) (by decide +kernel), List.mem_of_getElem? (i := 1293) (by decide +kernel), List.mem_of_getElem? (i := 1294) (by decide +kernel)⟩
theorem lw_p38 : lw_okq (⟨"PledgeHouseModel", "sign", "(II)I"⟩, 12) := ⟨⟨by decide +kernel, by decide +kernel⟩, List.mem_of_getElem? (i := 1053) (by decide +kernel), List.mem_of_getElem? (i := 1297) (by decide +kernel), List.mem_of_getElem? (i := 1298) (by decide +kernel)⟩
theorem lw_p39 : lw_okq (⟨"PledgeHouseModel", "number", "(II)I"⟩, 12) := ⟨⟨by decide +kernel, by decide +kernel⟩, List.mem_of_getElem? (i := 1053) (by decide +kernel), List.mem_of_getElem? (i := 1301) (by decide +kernel), List.mem_of_getElem? (i := 1302) (by decide +kernel)⟩
theorem lw_p40 : lw_okq (⟨"PledgeHouseModel", "isFollowed", "(IIII)Z"⟩, 12) := ⟨⟨by decide +kernel, by decide +kernel⟩, List.mem_of_getElem? (i := 1053) (by decide +kernel), List.mem_of_getElem? (i := 1305) (by decide +kernel), List.mem_of_getElem? (i := 1306) (by decide +kernel)⟩
theorem lw_p41 : lw_okq (⟨"PledgeHouseModel", "keepsAside", "()V"⟩, 12) := ⟨⟨by decide +kernel, by decide +kernel⟩, List.mem_of_getElem? (i := 1053) (by decide +kernel), List.mem_of_getElem? (i := 1313) (by decide +kernel), List.mem_of_getElem? (i := 1314) (by decide +kernel)⟩
theorem lw_p42 : lw_okq (⟨"PledgeHouseModel", "putsBack", "()V"⟩, 12) := ⟨⟨by decide +kernel, by decide +kernel⟩, List.mem_of_getElem? (i := 1053) (by decide +kernel), List.mem_of_getElem? (i := 1317) (by decide +kernel), List.mem_of_getElem? (i := 1318) (by decide +kernel)⟩
theorem lw_p43 : lw_okq (⟨"PledgeHouseModel", "allCalled", "()I"⟩, 12) := ⟨⟨by decide +kernel, by decide +kernel⟩, List.mem_of_getElem? (i := 1053) (by decide +kernel), List.mem_of_getElem? (i := 1321) (by decide +kernel), List.mem_of_getElem? (i := 1322) (by decide +kernel)⟩
theorem lw_p44 : lw_okq (⟨"PledgeHouseModel", "told", "(II)I"⟩, 12) := ⟨⟨by decide +kernel, by decide +kernel⟩, List.mem_of_getElem? (i := 1053) (by decide +kernel), List.mem_of_getElem? (i := 1345) (by decide +kernel), List.mem_of_getElem? (i := 1346) (by decide +kernel)⟩
theorem lw_p45 : lw_okq (⟨"PledgeHouseModel", "pledged", "(I)I"⟩, 12) := ⟨⟨by decide +kernel, by decide +kernel⟩, List.mem_of_getElem? (i := 1053) (by decide +kernel), List.mem_of_getElem? (i := 1357) (by decide +kernel), List.mem_of_getElem? (i := 1358) (by decide +kernel)⟩
theorem lw_p46 : lw_okq (⟨"PledgeHouseModel", "worth", "(I)I"⟩, 12) := ⟨⟨by decide +kernel, by decide +kernel⟩, List.mem_of_getElem? (i := 1053) (by decide +kernel), List.mem_of_getElem? (i := 1381) (by decide +kernel), List.mem_of_getElem? (i := 1382) (by decide +kernel)⟩
theorem lw_p47 : lw_okq (⟨"PledgeHouseModel", "room", "(I)I"⟩, 12) := ⟨⟨by decide +kernel, by decide +kernel⟩, List.mem_of_getElem? (i := 1053) (by decide +kernel), List.mem_of_getElem? (i := 1393) (by decide +kernel), List.mem_of_getElem? (i := 1394) (by decide +kernel)⟩
def lw_privs_3 : List (MethodName × Nat) := [(⟨"PledgeHouseModel", "pays", "(II)V"⟩, 12), (⟨"PledgeHouseModel", "selling", "(I)I"⟩, 12), (⟨"PledgeHouseModel", "isAhead", "(II)Z"⟩, 12), (⟨"PledgeHouseModel", "rules", "(IIII)I"⟩, 12), (⟨"PledgeHouseModel", "go", "(Z)Z"⟩, 12), (⟨"PledgeHouseModel", "isOrdered", "(Z)Z"⟩, 12), (⟨"PledgeHouseModel", "sign", "(II)I"⟩, 12), (⟨"PledgeHouseModel", "number", "(II)I"⟩, 12), (⟨"PledgeHouseModel", "isFollowed", "(IIII)Z"⟩, 12), (⟨"PledgeHouseModel", "keepsAside", "()V"⟩, 12), (⟨"PledgeHouseModel", "putsBack", "()V"⟩, 12), (⟨"PledgeHouseModel", "allCalled", "()I"⟩, 12), (⟨"PledgeHouseModel", "told", "(II)I"⟩, 12), (⟨"PledgeHouseModel", "pledged", "(I)I"⟩, 12), (⟨"PledgeHouseModel", "worth", "(I)I"⟩, 12), (⟨"PledgeHouseModel", "room", "(I)I"⟩, 12)]
theorem lw_r3 : ∀ q ∈ lw_privs_3, lw_okq q := List.forall_mem_cons.mpr ⟨lw_p32, List.forall_mem_cons.mpr ⟨lw_p33, List.forall_mem_cons.mpr ⟨lw_p34, List.forall_mem_cons.mpr ⟨lw_p35, List.forall_mem_cons.mpr ⟨lw_p36, List.forall_mem_cons.mpr ⟨lw_p37, List.forall_mem_cons.mpr ⟨lw_p38, List.forall_mem_cons.mpr ⟨lw_p39, List.forall_mem_cons.mpr ⟨lw_p40, List.forall_mem_cons.mpr ⟨lw_p41, List.forall_mem_cons.mpr ⟨lw_p42, List.forall_mem_cons.mpr ⟨lw_p43, List.forall_mem_cons.mpr ⟨lw_p44, List.forall_mem_cons.mpr ⟨lw_p45, List.forall_mem_cons.mpr ⟨lw_p46, List.forall_mem_cons.mpr ⟨lw_p47, fun _ h => absurd h List.not_mem_nil⟩⟩⟩⟩⟩⟩⟩⟩⟩⟩⟩⟩⟩⟩⟩⟩
theorem lw_p48 : lw_okq (⟨"PledgeHouseModel", "rank", "(I)I"⟩, 12) := ⟨⟨by decide +kernel, by decide +kernel⟩, List.mem_of_getElem? (i := 1053) (by decide +kernel), List.mem_of_getElem? (i := 1413) (by decide +kernel), List.mem_of_getElem? (i := 1414) (by decide +kernel)⟩
theorem lw_p49 : lw_okq (⟨"PledgeHouseModel", "isRiskier", "(II)Z"⟩, 12) := ⟨⟨by decide +kernel, by decide +kernel⟩, List.mem_of_getElem? (i := 1053) (by decide +kernel), List.mem_of_getElem? (i := 1417) (by decide +kernel), List.mem_of_getElem? (i := 1418) (by decide +kernel)⟩
theorem lw_p50 : lw_okq (⟨"PledgeHouseModel", "risky", "(I)I"⟩, 12) := ⟨⟨by decide +kernel, by decide +kernel⟩, List.mem_of_getElem? (i := 1053) (by decide +kernel), List.mem_of_getElem? (i := 1425) (by decide +kernel), List.mem_of_getElem? (i := 1426) (by decide +kernel)⟩
theorem lw_p51 : lw_okq (⟨"PledgeHouseModel", "rule", "(I)I"⟩, 12) := ⟨⟨by decide +kernel, by decide +kernel⟩, List.mem_of_getElem? (i := 1053) (by decide +kernel), List.mem_of_getElem? (i := 1441) (by decide +kernel), List.mem_of_getElem? (i := 1442) (by decide +kernel)⟩
theorem lw_p52 : lw_okq (⟨"PledgeHouseModel", "toldFall", "(I)I"⟩, 12) := ⟨⟨by decide +kernel, by decide +kernel⟩, List.mem_of_getElem? (i := 1053) (by decide +kernel), List.mem_of_getElem? (i := 1461) (by decide +kernel), List.mem_of_getElem? (i := 1462) (by decide +kernel)⟩
theorem lw_p53 : lw_okq (⟨"PledgeHouseModel", "falling", "(I)I"⟩, 12) := ⟨⟨by decide +kernel, by decide +kernel⟩, List.mem_of_getElem? (i := 1053) (by decide +kernel), List.mem_of_getElem? (i := 1465) (by decide +kernel), List.mem_of_getElem? (i := 1466) (by decide +kernel)⟩
theorem lw_p54 : lw_okq (⟨"PledgeHouseModel", "would", "(IZ)I"⟩, 12) := ⟨⟨by decide +kernel, by decide +kernel⟩, List.mem_of_getElem? (i := 1053) (by decide +kernel), List.mem_of_getElem? (i := 1481) (by decide +kernel), List.mem_of_getElem? (i := 1482) (by decide +kernel)⟩
theorem lw_p55 : lw_okq (⟨"PledgeHouseModel", "ifFallen", "(I)I"⟩, 12) := ⟨⟨by decide +kernel, by decide +kernel⟩, List.mem_of_getElem? (i := 1053) (by decide +kernel), List.mem_of_getElem? (i := 1493) (by decide +kernel), List.mem_of_getElem? (i := 1494) (by decide +kernel)⟩
theorem lw_p56 : lw_okq (⟨"PledgeHouseModel", "debts", "()I"⟩, 12) := ⟨⟨by decide +kernel, by decide +kernel⟩, List.mem_of_getElem? (i := 1053) (by decide +kernel), List.mem_of_getElem? (i := 1505) (by decide +kernel), List.mem_of_getElem? (i := 1506) (by decide +kernel)⟩
theorem lw_p57 : lw_okq (⟨"PledgeHouseModel", "used", "()D"⟩, 12) := ⟨⟨by decide +kernel, by decide +kernel⟩, List.mem_of_getElem? (i := 1053) (by decide +kernel), List.mem_of_getElem? (i := 1541) (by decide +kernel), List.mem_of_getElem? (i := 1542) (by decide +kernel)⟩
theorem lw_p58 : lw_okq (⟨"PledgeHouseModel", "mix", "(J)V"⟩, 12) := ⟨⟨by decide +kernel, by decide +kernel⟩, List.mem_of_getElem? (i := 1053) (by decide +kernel), List.mem_of_getElem? (i := 1550) (by decide +kernel), List.mem_of_getElem? (i := 1551) (by decide +kernel)⟩
def lw_privs_4 : List (MethodName × Nat) := [(⟨"PledgeHouseModel", "rank", "(I)I"⟩, 12), (⟨"PledgeHouseModel", "isRiskier", "(II)Z"⟩, 12), (⟨"PledgeHouseModel", "risky", "(I)I"⟩, 12), (⟨"PledgeHouseModel", "rule", "(I)I"⟩, 12), (⟨"PledgeHouseModel", "toldFall", "(I)I"⟩, 12), (⟨"PledgeHouseModel", "falling", "(I)I"⟩, 12), (⟨"PledgeHouseModel", "would", "(IZ)I"⟩, 12), (⟨"PledgeHouseModel", "ifFallen", "(I)I"⟩, 12), (⟨"PledgeHouseModel", "debts", "()I"⟩, 12), (⟨"PledgeHouseModel", "used", "()D"⟩, 12), (⟨"PledgeHouseModel", "mix", "(J)V"⟩, 12)]
theorem lw_r4 : ∀ q ∈ lw_privs_4, lw_okq q := List.forall_mem_cons.mpr ⟨lw_p48, List.forall_mem_cons.mpr ⟨lw_p49, List.forall_mem_cons.mpr ⟨lw_p50, List.forall_mem_cons.mpr ⟨lw_p51, List.forall_mem_cons.mpr ⟨lw_p52, List.forall_mem_cons.mpr ⟨lw_p53, List.forall_mem_cons.mpr ⟨lw_p54, List.forall_mem_cons.mpr ⟨lw_p55, List.forall_mem_cons.mpr ⟨lw_p56, List.forall_mem_cons.mpr ⟨lw_p57, List.forall_mem_cons.mpr ⟨lw_p58, fun _ h => absurd h List.not_mem_nil⟩⟩⟩⟩⟩⟩⟩⟩⟩⟩⟩
def lw_privs : List (MethodName × Nat) := lw_privs_1 ++ (lw_privs_2 ++ (lw_privs_3 ++ (lw_privs_4)))
def lw_tbl : List Cond := k2_sels lw_privs ++ tables_1
theorem lw_privs_ok : ∀ q ∈ lw_privs, lw_okq q := by
  show ∀ q ∈ lw_privs_1 ++ (lw_privs_2 ++ (lw_privs_3 ++ (lw_privs_4))), lw_okq q
  exact List.forall_mem_append.mpr ⟨lw_r1, List.forall_mem_append.mpr ⟨lw_r2, List.forall_mem_append.mpr ⟨lw_r3, lw_r4⟩⟩⟩
/-- the streams that the claim lets the run draw from -/
abbrev lw_cs : List Choice := [Jvm.Choice.named "NaN.bits"]
theorem lw_bits : nanBits ∈ lw_cs := by first | decide | exact List.mem_cons_self | simp [lw_cs, nanBits]
/-! ===== BEGIN words of one list among another's, by their places ===== -/
theorem goodIn_r {big : List Cond} (ws : List Cond) (ps : List Nat) (hp : ws = ps.filterMap (fun i => big[i]?)) (h : ws.all goodWord = true) : GoodIn big ws := by
  intro w hw
  have h1 := List.all_eq_true.mp h w hw
  rw [hp] at hw
  obtain ⟨i, -, hi⟩ := List.mem_filterMap.mp hw
  have hm : w ∈ big := by first | exact List.mem_of_getElem? hi | exact List.getElem?_mem hi
  exact ⟨hm, good_of_word h1⟩
theorem goodIn_app {big a b : List Cond} (ha : GoodIn big a) (hb : GoodIn big b) : GoodIn big (a ++ b) := fun w h => (List.mem_append.mp h).elim (ha w) (hb w)
theorem goodIn_ca {big a b : List Cond} {c : Cond} (ha : GoodIn big (c :: a)) (hb : GoodIn big b) : GoodIn big (c :: (a ++ b)) := fun w h => (List.mem_cons.mp h).elim (fun e => ha w (List.mem_cons.mpr (Or.inl e))) (fun h => (List.mem_append.mp h).elim (fun h => ha w (List.mem_cons.mpr (Or.inr h))) (hb w))
theorem goodIn_sub {big ws : List Cond} (hm : ∀ w ∈ ws, w ∈ big) (h : ws.all goodWord = true) : GoodIn big ws := fun w hw => ⟨hm w hw, good_of_word (List.all_eq_true.mp h w hw)⟩
/-! ===== END ===== -/

/-! ===== BEGIN exceptions that leave a method, and their catching by the caller (launches without stack traces) ===== -/
section VXA
/-! The laws vx_back, vx_callV, vx_callS, vx_callSW, vx_throw0, vx_throwS follow proofs of the library, with one case more: JvmDerived/Free/Laws.lean (Back.of_free), Shelf42/LK1.lean (callV, callS), Shelf/KitTraced.lean (throwNew0V, throwNewS). -/
/-- where a method has thrown q: the class by its name, the cell, what was written, the world -/
def vx_T (XC : String → State → State → Prop) (st : State) (q : Addr) (t : State) (mc ms : Nat) (free : Addr → Prop) : Prop :=
  ∃ (E : String) (ce : Cell) (L : List Loc), XC E st t ∧ t.heap[q]? = some ce ∧ ce.vm = .none ∧ st.vm.findClass E = some ce.cls ∧ st.WarmedH t.vm ∧ st.sameButNew ({ t with vm := st.vm } : State) L mc ms ∧ ∀ z ∈ L, free z.base
def vx_Q (Qc : Array Value → State → Outcome → State → Prop) (XC : String → State → State → Prop) (mc ms : Nat) (free : Addr → Prop) : Array Value → State → Outcome → State → Prop := fun a st o t =>
  (Qc a st o t ∧ ∃ L, FrameEnd st o t L mc ms ∧ ∀ q ∈ L, free q.base) ∨ ∃ q, o = .threw q ∧ vx_T XC st q t mc ms free
/-- a callee that returns or throws -/
def vx_Met (l : Launch) (y : MethodName) (ws : List Cond) (rm : Room) (Pc : Array Value → State → Prop) (Qc : Array Value → State → Outcome → State → Prop) (XC : String → State → State → Prop) (mc ms : Nat) (free : Addr → Prop) : Prop :=
  MetFree l y (headSpec ws rm) Pc (fun _ _ _ _ _ => True) (vx_Q Qc XC mc ms free)
def vx_Post (XC : String → State → State → Prop) (mc ms : Nat) (free : Addr → Prop) : Pt → Array Value → Addr → Pt → Prop := fun A a q B =>
  ∃ (g : JFrame) (mk : MethodId) (t : State) (L : List Loc) (E : String) (ce : Cell), B.U.heap = t.heap ∧ B.U.vm = t.vm ∧ XC E (A.U.calling g mk a) t ∧ t.heap[q]? = some ce ∧ ce.vm = .none ∧ A.U.vm.findClass E = some ce.cls ∧ B.locs = A.locs ++ L ∧ (∀ z ∈ L, free z.base) ∧ B.cells = A.cells + mc ∧ B.slots = A.slots + ms
def vx_Back (l : Launch) (R : Room) (p : Program) (e : Env) (below : List Frame) (s : State) (sargs : Array Value) (y : MethodName) (len W9 : Nat)
    (Pre : Pt → Array Value → Prop) (Post : Pt → Array Value → Option Value → Pt → Prop) (PostX : Pt → Array Value → Addr → Pt → Prop) : Prop :=
  ∀ (m : MethodId) (meth : Method) (c : Code) (A : Pt) (g : JFrame) (ig : Instr) (mk : MethodId) (a : Array Value),
    Stand p l e R s m sargs below meth c A.U A.locs A.cells A.slots → g.method = m → g.locals.size = c.maxLocals → decode c.code g.pc = .ok (ig, len) →
    2 * g.monitorRoom + (g.stack.map fun v => v.category).sum ≤ W9 → A.U.methodNamed? y = some mk → Pre A a →
    (∃ (v : Option Value) (B : Pt), Stand p l e R s m sargs below meth c B.U B.locs B.cells B.slots ∧ Post A a v B ∧
      Steps p.tables e below (doInvoke e (A.U.setTop g) [] mk a).1 (B.U.setTop { g with pc := g.pc + len, stack := v.toList ++ g.stack })) ∨
    (∃ (q : Addr) (B : Pt), Stand p l e R s m sargs below meth c B.U B.locs B.cells B.slots ∧ PostX A a q B ∧
      Steps p.tables e below (doInvoke e (A.U.setTop g) [] mk a).1 ((B.U.setTop g).pushFrame (.throwing q)))
section Payer
variable {l : Launch} {R : Room} {p : Program} {e : Env} {below : List Frame} {s : State} {sargs : Array Value} {y : MethodName} {len W9 : Nat}
theorem vx_back {ws : List Cond} {rm : Room} {Pc : Array Value → State → Prop} {Qc : Array Value → State → Outcome → State → Prop} {XC : String → State → State → Prop} {mc ms : Nat} {free : Addr → Prop} {bytes : ByteArray} {maxL : Nat} {ret : Option FieldType}
    (hM : vx_Met l y ws rm Pc Qc XC mc ms free) (hblind : FrameBlind Pc) (hrc : rm.cells = mc) (hrs : rm.slots = ms)
    (hframes : rm.frames + 1 ≤ R.frames) (hlocals : W9 + (maxL + 11) + rm.locals ≤ R.locals)
    (hws : ∀ w ∈ ws, ∀ a' U, s.WarmedH U.vm → w.before a' U = true) (hcode : Cond.code y bytes maxL ret ∈ ws) (hinit : ∀ a' U, s.WarmedH U.vm → (Cond.initialized y.cls).before a' U = true) :
    vx_Back l R p e below s sargs y len W9 (PreOf R mc ms Pc) (PostOf Qc mc ms free) (vx_Post XC mc ms free) := by
  intro m meth c A g ig mk a X hg hsize hdg hW hn hp
  have h1 : (headSpec ws rm).pre.before a A.U = true := atoms_intro fun w hw => hws w hw _ _ X.warmed
  have h2 : (Cond.code y bytes maxL ret).before a A.U = true := hws _ hcode _ _ X.warmed
  have h3 : (Cond.initialized y.cls).before a A.U = true := hinit _ _ X.warmed
  have h4 : A.cells + (headSpec ws rm).room.cells ≤ R.cells := by rw [show (headSpec ws rm).room.cells = mc from hrc]; exact hp.1
  have h5 : A.slots + (headSpec ws rm).room.slots ≤ R.slots := by rw [show (headSpec ws rm).room.slots = ms from hrs]; exact hp.2.1
  have hPc : Pc a (A.U.calling g mk a) := hblind _ _ _ _ hp.2.2
  obtain ⟨U, Ls, c0, s0⟩ := A
  dsimp only [Pt.U, Pt.locs, Pt.cells, Pt.slots] at h1 h2 h3 h4 h5 X hn hPc ⊢
  obtain ⟨methY, cY, hmY, hcY, -, hlY, -, -, -, -⟩ := Cond.code_spec hn h2
  obtain ⟨kY, hkY, -⟩ := className_of_methodNamed hn
  have hinitY : kY.init = .initialized := Cond.initialized_spec (findClass_of_methodNamed hn) hkY h3
  have h : At U g.method c below := by rw [hg]; exact X.here
  have hlocals9 : W9 + (maxL + 11) + (headSpec ws rm).room.locals ≤ R.locals := hlocals
  have happ : (headSpec ws rm).appliesLoose y e.platform (U.calling g mk a) = true :=
    Spec.appliesLoose_calling (g := g) h hdg hn hkY hinitY
      (X.room_calling (g := g) (R' := (headSpec ws rm).room) hsize hmY hcY hframes (by rw [hlY]; omega) h4 h5) h1
  obtain ⟨mid, hmid⟩ := h.above
  have hfr : (U.setTop g).frames = (.java g :: mid) ++ below := by rw [State.frames_setTop' g h.top, hmid]; rfl
  obtain ⟨o, s₂, hsteps, -, hend, hq⟩ := Steps.callFree hM p X.admits X.cas X.clock (acts := []) hfr happ hPc trivial
  have hq' : vx_Q Qc XC mc ms free a (U.calling g mk a) o s₂ := hq
  rw [State.frames_setTop' g h.top] at hend
  obtain ⟨g₀, hg0⟩ := Option.isSome_iff_exists.mp h.top
  obtain ⟨r, hr⟩ := State.topJava?_eq_some.mp hg0
  have hr' : (({ U with heap := s₂.heap, slotsUsed := s₂.slotsUsed } : State).setVm s₂.vm).frames = .java g₀ :: r := hr
  rcases hq' with ⟨hqc, L, hfe, hL⟩ | ⟨q, rfl, E, ce, L, hx, hce, hcv, hcl, hW₂, hsm, hL⟩
  · obtain ⟨⟨v, rfl⟩, hW₂, e2, q2, q3, q4, q5, q6⟩ := id hfe
    have e3 : s₂ = ({ (U.calling g mk a).setFrames s₂.frames with heap := s₂.heap, slotsUsed := s₂.slotsUsed } : State).setVm s₂.vm := by
      have : s₂ = ({ s₂ with vm := (U.calling g mk a).vm } : State).setVm s₂.vm := rfl
      rw [e2] at this
      exact this
    obtain ⟨c₂, i₂, len₂, hc₂, hd₂, hf₂⟩ := hend
    have hW' : U.WarmedH s₂.vm := hW₂
    have hcc : c₂ = c := by
      have h1 : s₂.code? g.method = U.code? g.method := by
        rw [State.code?_eq, State.code?_eq, hW'.alike.method?]
      exact Option.some.inj (hc₂.symm.trans (h1.trans h.code))
    subst hcc
    have hlen : len₂ = len := by rw [hdg] at hd₂; cases hd₂; rfl
    subst hlen
    have hs₂ : s₂ = (({ U with heap := s₂.heap, slotsUsed := s₂.slotsUsed } : State).setVm s₂.vm).setTop { g with pc := g.pc + len₂, stack := v.toList ++ g.stack } := by
      refine e3.trans ?_
      rw [hf₂, State.calling_eq h.top, State.setFrames_setFrames, State.setTop_of_frames _ hr', hr]
      rfl
    have hsame : U.sameButNew ({ U with heap := s₂.heap, slotsUsed := s₂.slotsUsed } : State) L mc ms := by
      refine ⟨?_, q2, q3, q4, q5, q6⟩
      obtain ⟨t, ht, -⟩ := State.frames_cons hr
      show ({ U with heap := s₂.heap, slotsUsed := s₂.slotsUsed } : State) = { U.setFrames U.frames with heap := s₂.heap, slotsUsed := s₂.slotsUsed }
      rw [State.setFrames_self ht]
    subst hg
    refine Or.inl ⟨v, ⟨(({ U with heap := s₂.heap, slotsUsed := s₂.slotsUsed } : State).setVm s₂.vm), Ls ++ L, c0 + mc, s0 + ms⟩,
      ⟨X.admits, X.cas, X.clock, X.frames, X.room, X.hears, X.method, X.code, (X.here.setHeapUsed s₂.heap s₂.slotsUsed).setVm hW'.alike, X.tail, State.WarmedH.trans X.warmed hW', X.limits, X.bytes, X.same.trans (hsame.setVm s.vm)⟩,
      ⟨g, mk, s₂, L, rfl, rfl, hqc, rfl, hL, rfl, rfl⟩, ?_⟩
    show Steps p.tables e below _ ((({ U with heap := s₂.heap, slotsUsed := s₂.slotsUsed } : State).setVm s₂.vm).setTop { g with pc := g.pc + len₂, stack := v.toList ++ g.stack })
    rw [← hs₂]
    exact hsteps
  · obtain ⟨e2, q2, q3, q4, q5, q6⟩ := id hsm
    have e3 : s₂ = ({ (U.calling g mk a).setFrames s₂.frames with heap := s₂.heap, slotsUsed := s₂.slotsUsed } : State).setVm s₂.vm := by
      have : s₂ = ({ s₂ with vm := (U.calling g mk a).vm } : State).setVm s₂.vm := rfl
      rw [e2] at this
      exact this
    have hf₂ : s₂.frames = .throwing q :: .java g :: U.frames.tail := hend
    have hW' : U.WarmedH s₂.vm := hW₂
    have hs₂ : s₂ = ((({ U with heap := s₂.heap, slotsUsed := s₂.slotsUsed } : State).setVm s₂.vm).setTop g).pushFrame (.throwing q) := by
      refine e3.trans ?_
      rw [hf₂, State.calling_eq h.top, State.setFrames_setFrames, State.pushFrame, State.frames_setTop _ hr', State.setTop_of_frames _ hr', State.setFrames_setFrames, hr]
      rfl
    have hsame : U.sameButNew ({ U with heap := s₂.heap, slotsUsed := s₂.slotsUsed } : State) L mc ms := by
      refine ⟨?_, q2, q3, q4, q5, q6⟩
      obtain ⟨t, ht, -⟩ := State.frames_cons hr
      show ({ U with heap := s₂.heap, slotsUsed := s₂.slotsUsed } : State) = { U.setFrames U.frames with heap := s₂.heap, slotsUsed := s₂.slotsUsed }
      rw [State.setFrames_self ht]
    subst hg
    refine Or.inr ⟨q, ⟨(({ U with heap := s₂.heap, slotsUsed := s₂.slotsUsed } : State).setVm s₂.vm), Ls ++ L, c0 + mc, s0 + ms⟩,
      ⟨X.admits, X.cas, X.clock, X.frames, X.room, X.hears, X.method, X.code, (X.here.setHeapUsed s₂.heap s₂.slotsUsed).setVm hW'.alike, X.tail, State.WarmedH.trans X.warmed hW', X.limits, X.bytes, X.same.trans (hsame.setVm s.vm)⟩,
      ⟨g, mk, s₂, L, E, ce, rfl, rfl, hx, hce, hcv, hcl, rfl, hL, rfl, rfl⟩, ?_⟩
    show Steps p.tables e below _ (((({ U with heap := s₂.heap, slotsUsed := s₂.slotsUsed } : State).setVm s₂.vm).setTop g).pushFrame (.throwing q))
    rw [← hs₂]
    exact hsteps
end Payer
section Calls
variable {p : Program} {l : Launch} {e : Env} {R : Room} {s : State} {m : MethodId} {args : Array Value} {below : List Frame} {meth : Method} {c : Code} {T : State} {locs : List Loc} {cells slots : Nat}
theorem vx_callV (X : Stand p l e R s m args below meth c T locs cells slots) (hexec : p.tables.exec = Jvm.exec) {own C : String} {index : Nat} {y : MethodName} {bytes : ByteArray} {maxL : Nat} {ret : Option FieldType}
    (hown : s.vm.findClass own = some m.cls) (hlink : (Cond.methodLink own index y).before args s = true) (hinst : (Cond.instanceMethod y).before args s = true) (hsel : (Cond.selects C y y).before args s = true)
    (hcode : (Cond.code y bytes maxL ret).before args s = true) (hy : y.cls ≠ "java/lang/invoke/MethodHandle" ∧ y.cls ≠ "java/lang/invoke/VarHandle")
    {W9 : Nat} {Pre : Pt → Array Value → Prop} {Post : Pt → Array Value → Option Value → Pt → Prop} {PostX : Pt → Array Value → Addr → Pt → Prop} (hK : vx_Back l R p e below s args y 3 W9 Pre Post PostX)
    {b : Addr} {cellB : Cell} (hcell : T.heap[b]? = some cellB) (hobj : cellB.vm.isStatics = false) (hcls : s.vm.findClass C = some cellB.cls)
    {g : JFrame} (hg : g.method = m) (hsize : g.locals.size = c.maxLocals) {argsL rest : List Value} (hlen : ∀ sig, parseMethodDescriptor y.desc = some sig → argsL.length = sig.parameters.length)
    (hstack : g.stack = argsL.reverse ++ .ref b :: rest) (hW : 2 * g.monitorRoom + (rest.map fun v => v.category).sum ≤ W9) (hdg : decode c.code g.pc = .ok (.invokevirtual index, 3))
    (hpre : ∀ vm₁, s.WarmedH vm₁ → Pre ⟨T.setVm vm₁, locs, cells, slots⟩ (Value.ref b :: argsL).toArray) :
    (∃ (v : Option Value) (vm₁ : Vm) (B : Pt), s.WarmedH vm₁ ∧ Stand p l e R s m args below meth c B.U B.locs B.cells B.slots ∧ Post ⟨T.setVm vm₁, locs, cells, slots⟩ (Value.ref b :: argsL).toArray v B ∧
      ∀ target, Steps p.tables e below (B.U.setTop { g with pc := g.pc + 3, stack := v.toList ++ rest }) target → Steps p.tables e below (T.setTop g) target) ∨
    (∃ (q : Addr) (vm₁ : Vm) (B : Pt), s.WarmedH vm₁ ∧ Stand p l e R s m args below meth c B.U B.locs B.cells B.slots ∧ PostX ⟨T.setVm vm₁, locs, cells, slots⟩ (Value.ref b :: argsL).toArray q B ∧
      Steps p.tables e below (T.setTop g) ((B.U.setTop { g with stack := rest }).pushFrame (.throwing q))) := by
  obtain ⟨mk, methM, hnamed, hmethM, hstM, habM⟩ := Cond.instanceMethod_spec hinst
  obtain ⟨methM', cM, hmethM', -, -, -, -, -, -, hsigM⟩ := Cond.code_spec hnamed hcode
  cases hmethM.symm.trans hmethM'
  obtain ⟨c2, r2, m2, q1, q2, q3, q4, kP, hkP, hkPi⟩ := Cond.selects_spec hsel
  cases hcls.symm.trans q1
  cases (State.methodFound?_of_named hnamed hy).symm.trans q2
  cases hnamed.symm.trans q3
  have hselP : selectMethod e.platform s.vm cellB.cls mk = .method mk := by rw [Launch.admits_selectMethod X.admits]; exact q4
  obtain ⟨vm₁, X₁, hstep₁⟩ := X.invokevirtual hexec hown hlink hnamed hmethM hstM hkP hkPi hy (a := b) (cell := cellB) hcell
    (fun z h => by rw [h] at hobj; cases hobj) hselP hmethM habM hkP hkPi (g := g) hg (argsL := argsL) (rest := rest) (hlen _ hsigM) hstack hdg
  rcases hK m meth c ⟨T.setVm vm₁, locs, cells, slots⟩ { g with stack := rest } (.invokevirtual index) mk (Value.ref b :: argsL).toArray X₁ hg hsize hdg hW (X₁.named hnamed) (hpre vm₁ X₁.warmed) with ⟨v, B, X', hpost, hsteps⟩ | ⟨q, B, X', hpost, hsteps⟩
  · exact Or.inl ⟨v, vm₁, B, X₁.warmed, X', hpost, fun target h => hstep₁ _ fun acts => by rw [doInvoke_state]; exact hsteps.trans h⟩
  · exact Or.inr ⟨q, vm₁, B, X₁.warmed, X', hpost, hstep₁ _ fun acts => by rw [doInvoke_state]; exact hsteps⟩
theorem vx_callS (X : Stand p l e R s m args below meth c T locs cells slots) (hexec : p.tables.exec = Jvm.exec) {own : String} {index : Nat} {y : MethodName} {bytes : ByteArray} {maxL : Nat} {ret : Option FieldType}
    (hown : s.vm.findClass own = some m.cls) (hlink : (Cond.methodLink own index y).before args s = true) (hstat : (Cond.static y).before args s = true) (hinit : (Cond.initialized y.cls).before args s = true)
    (hcode : (Cond.code y bytes maxL ret).before args s = true) (hy : y.cls ≠ "java/lang/invoke/MethodHandle" ∧ y.cls ≠ "java/lang/invoke/VarHandle")
    {W9 : Nat} {Pre : Pt → Array Value → Prop} {Post : Pt → Array Value → Option Value → Pt → Prop} {PostX : Pt → Array Value → Addr → Pt → Prop} (hK : vx_Back l R p e below s args y 3 W9 Pre Post PostX)
    {g : JFrame} (hg : g.method = m) (hsize : g.locals.size = c.maxLocals) {argsL rest : List Value} (hlen : ∀ sig, parseMethodDescriptor y.desc = some sig → argsL.length = sig.parameters.length)
    (hstack : g.stack = argsL.reverse ++ rest) (hW : 2 * g.monitorRoom + (rest.map fun v => v.category).sum ≤ W9) (hdg : decode c.code g.pc = .ok (.invokestatic index, 3))
    (hpre : ∀ vm₁, s.WarmedH vm₁ → Pre ⟨T.setVm vm₁, locs, cells, slots⟩ argsL.toArray) :
    (∃ (v : Option Value) (vm₁ : Vm) (B : Pt), s.WarmedH vm₁ ∧ Stand p l e R s m args below meth c B.U B.locs B.cells B.slots ∧ Post ⟨T.setVm vm₁, locs, cells, slots⟩ argsL.toArray v B ∧
      ∀ target, Steps p.tables e below (B.U.setTop { g with pc := g.pc + 3, stack := v.toList ++ rest }) target → Steps p.tables e below (T.setTop g) target) ∨
    (∃ (q : Addr) (vm₁ : Vm) (B : Pt), s.WarmedH vm₁ ∧ Stand p l e R s m args below meth c B.U B.locs B.cells B.slots ∧ PostX ⟨T.setVm vm₁, locs, cells, slots⟩ argsL.toArray q B ∧
      Steps p.tables e below (T.setTop g) ((B.U.setTop { g with stack := rest }).pushFrame (.throwing q))) := by
  obtain ⟨mk, hnamed⟩ := Cond.code_named hcode
  obtain ⟨methM, cM, hmethM, -, -, -, -, -, -, hsigM⟩ := Cond.code_spec hnamed hcode
  have hstatic : methM.isStatic = true := Cond.static_spec hnamed hmethM hstat
  obtain ⟨kP, hkP, -⟩ := className_of_methodNamed hnamed
  have hinitP : kP.init = .initialized := Cond.initialized_spec (findClass_of_methodNamed hnamed) hkP hinit
  obtain ⟨vm₁, X₁, hstep₁⟩ := X.invokestatic hexec hown hlink hnamed hmethM hstatic hkP hinitP hy (g := g) hg (argsL := argsL) (rest := rest) (hlen _ hsigM) hstack hdg
  rcases hK m meth c ⟨T.setVm vm₁, locs, cells, slots⟩ { g with stack := rest } (.invokestatic index) mk argsL.toArray X₁ hg hsize hdg hW (X₁.named hnamed) (hpre vm₁ X₁.warmed) with ⟨v, B, X', hpost, hsteps⟩ | ⟨q, B, X', hpost, hsteps⟩
  · exact Or.inl ⟨v, vm₁, B, X₁.warmed, X', hpost, fun target h => hstep₁ _ fun acts => by rw [doInvoke_state]; exact hsteps.trans h⟩
  · exact Or.inr ⟨q, vm₁, B, X₁.warmed, X', hpost, hstep₁ _ fun acts => by rw [doInvoke_state]; exact hsteps⟩
end Calls
theorem vx_cls {s : State} {T : State} {vm₁ : Vm} {E : String} {k : ClassId} (hW : s.WarmedH vm₁) (h : (T.setVm vm₁).vm.findClass E = some k) : s.vm.findClass E = some k := by
  have h1 : vm₁.findClass E = some k := h
  rw [hW.alike.findClass] at h1
  exact h1
/-- the method's frame g, with q thrown over it -/
def vx_W (p : Program) (l : Launch) (e : Env) (R : Room) (s : State) (m : MethodId) (args : Array Value) (below : List Frame) (meth : Method) (c : Code) (H : Heap) (locs : List Loc) (cells slots : Nat) (Q : State → Prop) (g : JFrame) (q : Addr) : Prop :=
  ∀ T : State, T.heap = H → Stand p l e R s m args below meth c T locs cells slots → ∃ t, Steps p.tables e below ((T.setTop g).pushFrame (.throwing q)) t ∧ Q t
def vx_Run (p : Program) (l : Launch) (e : Env) (R : Room) (s : State) (m : MethodId) (args : Array Value) (below : List Frame) (meth : Method) (c : Code) (H : Heap) (locs : List Loc) (cells slots mc ms : Nat) (g : JFrame) (rest : List Value) (Qa : State → Outcome → State → Prop) (XC : String → State → State → Prop) (free : Addr → Prop) : Prop :=
  ∀ T : State, T.heap = H → Stand p l e R s m args below meth c T locs cells slots →
    (∃ (v : Option Value) (st₀ t T' : State) (L : List Loc), st₀.heap = H ∧ Stand p l e R s m args below meth c T' (locs ++ L) (cells + mc) (slots + ms) ∧ (∀ q ∈ L, free q.base) ∧ T'.heap = t.heap ∧ T'.vm = t.vm ∧ Qa st₀ (.returned v) t ∧
      Goes p e below T g T' { g with pc := g.pc + 3, stack := v.toList ++ rest }) ∨
    (∃ (q : Addr) (st₀ t T' : State) (L : List Loc) (E : String) (ce : Cell), st₀.heap = H ∧ Stand p l e R s m args below meth c T' (locs ++ L) (cells + mc) (slots + ms) ∧ (∀ z ∈ L, free z.base) ∧ T'.heap = t.heap ∧ T'.vm = t.vm ∧ XC E st₀ t ∧ t.heap[q]? = some ce ∧ ce.vm = .none ∧ s.vm.findClass E = some ce.cls ∧
      Steps p.tables e below (T.setTop g) ((T'.setTop { g with stack := rest }).pushFrame (.throwing q)))
def vx_X {S : Type} (px : S → Prop) (B : String → S → State → Prop) (A : Nat → Prop) : String → State → State → Prop := fun E st t => ∃ u : S, px u ∧ B E u t ∧ va_F A st t
section Runs
variable {p : Program} {l : Launch} {e : Env} {R : Room} {s : State} {m : MethodId} {args : Array Value} {below : List Frame} {meth : Method} {c : Code} {H : Heap} {locs : List Loc} {cells slots : Nat}
variable {y : MethodName} {bytes cc : ByteArray} {maxL nL mc ms n index : Nat} {ret : Option FieldType} {ws : List Cond} {rm : Room} {Pc : Array Value → State → Prop} {Qc : Array Value → State → Outcome → State → Prop} {XC : String → State → State → Prop} {free : Addr → Prop} {Ts : List Cond} {own C : String} {b : Addr} {As rest : List Value} {g : JFrame}
theorem vx_callBack (cb : CallB R s args own index y bytes maxL ret ws rm mc ms n) (hM : vx_Met l y ws rm Pc Qc XC mc ms free) (hbl : FrameBlind Pc) : vx_Back l R p e below s args y 3 8 (PreOf R mc ms Pc) (PostOf Qc mc ms free) (vx_Post XC mc ms free) := by
  obtain ⟨hrc, hrs, hfr, hlo, hws, hcw, -, hini, -⟩ := cb
  exact vx_back (bytes := bytes) (maxL := maxL) (ret := ret) hM hbl hrc hrs hfr hlo hws hcw (fun a' U hW => word_at hW (Or.inl (by first | rfl | simp [Cond.onTables, Cond.keeps, Cond.steady])) hini)
theorem vx_runV (S : CallFix p m c cc nL s args Ts own) (hM : vx_Met l y ws rm Pc Qc XC mc ms free) (cw : CallW R s args own C index y bytes maxL ret ws rm mc ms n) (hp : PreV s H C b Pc As)
    (hg : g.method = m) (hn : As.length = n) (hsize : g.locals.size = nL) (hstack : g.stack = As.reverse ++ .ref b :: rest) (hW : 2 * g.monitorRoom + (rest.map fun v => v.category).sum ≤ 8) (hdg : decode cc g.pc = .ok (.invokevirtual index, 3)) (hf : cells + mc ≤ R.cells ∧ slots + ms ≤ R.slots) :
    vx_Run p l e R s m args below meth c H locs cells slots mc ms g rest (Qc (Value.ref b :: As).toArray) XC free := by
  have hK : vx_Back l R p e below s args y 3 8 (PreOf R mc ms Pc) (PostOf Qc mc ms free) (vx_Post XC mc ms free) := vx_callBack cw.1 hM hp.1
  obtain ⟨⟨-, -, -, -, -, -, hcode, -, hy, hlen, hl⟩, hin, hse⟩ := cw
  obtain ⟨hx, hb, hml, ho, -⟩ := S
  obtain ⟨-, ⟨cellB, hcB, hoB, hclB⟩, hPc⟩ := hp
  intro T hT X
  rcases vx_callV X hx (C := C) (bytes := bytes) (maxL := maxL) (ret := ret) ho hl hin hse hcode hy hK (by rw [hT]; exact hcB) hoB hclB hg (hsize.trans hml.symm) (argsL := As) (rest := rest) (fun sig h => hn.trans (hlen sig h)) hstack hW (by rw [hb]; exact hdg)
    (fun vm₁ hW₁ => ⟨hf.1, hf.2, hPc (T.setVm vm₁) hT hW₁⟩) with ⟨v, vm₁, ⟨U', l2, c2, s2⟩, hW₁, X', ⟨g', mk, t, L, e1, e2, hq, h1, hL, h2, h3⟩, st⟩ | ⟨q, vm₁, ⟨U', l2, c2, s2⟩, hW₁, X', ⟨g', mk, t, L, E, ce, e1, e2, hq, hce, hcv, hcl, h1, hL, h2, h3⟩, st⟩
  · dsimp only [Pt.U, Pt.locs, Pt.cells, Pt.slots] at X' e1 e2 h1 h2 h3 st
    subst h1; subst h2; subst h3
    exact Or.inl ⟨v, (T.setVm vm₁).calling g' mk (Value.ref b :: As).toArray, t, U', L, hT, X', hL, e1, e2, hq, st⟩
  · dsimp only [Pt.U, Pt.locs, Pt.cells, Pt.slots] at X' e1 e2 h1 h2 h3 st hcl
    subst h1; subst h2; subst h3
    exact Or.inr ⟨q, (T.setVm vm₁).calling g' mk (Value.ref b :: As).toArray, t, U', L, E, ce, hT, X', hL, e1, e2, hq, hce, hcv, vx_cls hW₁ hcl, st⟩
theorem vx_runS (S : CallFix p m c cc nL s args Ts own) (hM : vx_Met l y ws rm Pc Qc XC mc ms free) (cw : CallB R s args own index y bytes maxL ret ws rm mc ms n ∧ (Cond.static y).before args s = true) (hp : PreS s H Pc As)
    (hg : g.method = m) (hn : As.length = n) (hsize : g.locals.size = nL) (hstack : g.stack = As.reverse ++ rest) (hW : 2 * g.monitorRoom + (rest.map fun v => v.category).sum ≤ 8) (hdg : decode cc g.pc = .ok (.invokestatic index, 3)) (hf : cells + mc ≤ R.cells ∧ slots + ms ≤ R.slots) :
    vx_Run p l e R s m args below meth c H locs cells slots mc ms g rest (Qc As.toArray) XC free := by
  have hK : vx_Back l R p e below s args y 3 8 (PreOf R mc ms Pc) (PostOf Qc mc ms free) (vx_Post XC mc ms free) := vx_callBack cw.1 hM hp.1
  obtain ⟨⟨-, -, -, -, -, -, hcode, hini, hy, hlen, hl⟩, hstt⟩ := cw
  obtain ⟨hx, hb, hml, ho, -⟩ := S
  intro T hT X
  rcases vx_callS X hx (bytes := bytes) (maxL := maxL) (ret := ret) ho hl hstt hini hcode hy hK hg (hsize.trans hml.symm) (argsL := As) (rest := rest) (fun sig h => hn.trans (hlen sig h)) hstack hW (by rw [hb]; exact hdg)
    (fun vm₁ hW₁ => ⟨hf.1, hf.2, hp.2 (T.setVm vm₁) hT hW₁⟩) with ⟨v, vm₁, ⟨U', l2, c2, s2⟩, hW₁, X', ⟨g', mk, t, L, e1, e2, hq, h1, hL, h2, h3⟩, st⟩ | ⟨q, vm₁, ⟨U', l2, c2, s2⟩, hW₁, X', ⟨g', mk, t, L, E, ce, e1, e2, hq, hce, hcv, hcl, h1, hL, h2, h3⟩, st⟩
  · dsimp only [Pt.U, Pt.locs, Pt.cells, Pt.slots] at X' e1 e2 h1 h2 h3 st
    subst h1; subst h2; subst h3
    exact Or.inl ⟨v, (T.setVm vm₁).calling g' mk As.toArray, t, U', L, hT, X', hL, e1, e2, hq, st⟩
  · dsimp only [Pt.U, Pt.locs, Pt.cells, Pt.slots] at X' e1 e2 h1 h2 h3 st hcl
    subst h1; subst h2; subst h3
    exact Or.inr ⟨q, (T.setVm vm₁).calling g' mk As.toArray, t, U', L, E, ce, hT, X', hL, e1, e2, hq, hce, hcv, vx_cls hW₁ hcl, st⟩
end Runs
section Rows
variable {p : Program} {l : Launch} {e : Env} {R : Room} {s : State} {m : MethodId} {args : Array Value} {below : List Frame} {meth : Method} {c : Code} {H : Heap} {locs : List Loc} {cells slots : Nat} {Q : State → Prop}
variable {mc ms : Nat} {free : Addr → Prop} {A0 A1 : Nat → Prop} {H0 : Heap} {a : Array Value} {pc : Nat} {ls : Array Slot} {st0 rest : List Value}
theorem vx_keep {st₀ t T' : State} {L : List Loc} (h0 : st₀.heap = H) (e1 : T'.heap = t.heap) (hS : va_S A0 H0 H locs) (hA : ∀ q, q < H.size → A1 q → A0 q) (hf : ∀ q, free q → A0 q) (hL : ∀ q ∈ L, free q.base) (hF : va_F A1 st₀ t) :
    H.size ≤ T'.heap.size ∧ (∀ q : Nat, q < H.size → ¬ A1 q → T'.heap[q]? = H[q]?) ∧ va_S A0 H0 T'.heap (locs ++ L) := by
  obtain ⟨hz, hk⟩ := hF
  rw [h0] at hz hk
  exact ⟨by rw [e1]; exact hz, fun q h1 h2 => by rw [e1]; exact hk q h1 h2,
    ⟨Nat.le_trans hS.1 (by rw [e1]; exact hz), fun q h1 h2 => by rw [e1, hk q (Nat.lt_of_lt_of_le h1 hS.1) (fun z => h2 (hA q (Nat.lt_of_lt_of_le h1 hS.1) z))]; exact hS.2.1 q h1 h2, fun q hq => by
      rcases List.mem_append.mp hq with h | h
      · exact hS.2.2 q h
      · exact hf _ (hL q h)⟩⟩
theorem vx_calli {S SX : Type} {post : Int32 → S → Prop} {px : SX → Prop} {B : S → State → Prop} {BX : String → SX → State → Prop} {AX : Nat → Prop} (hr : vx_Run p l e R s m args below meth c H locs cells slots mc ms (F0 m pc ls st0) rest (va_Qi post B A1 a) (vx_X px BX AX) free) (hS : va_S A0 H0 H locs) (hA : ∀ q, q < H.size → A1 q → A0 q) (hf : ∀ q, free q → A0 q) (hAX : ∀ q, q < H.size → AX q → A0 q)
    (kx : ∀ (E : String) (ce : Cell) (q9 : Addr) (u : SX) (t : State) (H1 : Heap) (locs1 : List Loc), t.heap = H1 → s.vm.Alike t.vm → px u → BX E u t → H.size ≤ H1.size → (∀ q : Nat, q < H.size → ¬ AX q → H1[q]? = H[q]?) → va_S A0 H0 H1 locs1 → H1[q9]? = some ce → ce.vm = .none → s.vm.findClass E = some ce.cls → vx_W p l e R s m args below meth c H1 locs1 (cells + mc) (slots + ms) Q (F0 m pc ls rest) q9)
    (kk : ∀ (r : Int32) (u : S) (t : State) (H1 : Heap) (locs1 : List Loc), t.heap = H1 → s.vm.Alike t.vm → post r u → B u t → H.size ≤ H1.size → (∀ q : Nat, q < H.size → ¬ A1 q → H1[q]? = H[q]?) → va_S A0 H0 H1 locs1 → W p l e R s m args below meth c H1 locs1 (cells + mc) (slots + ms) Q (F0 m (pc + 3) ls (.int r :: rest))) : W p l e R s m args below meth c H locs cells slots Q (F0 m pc ls st0) := by
  intro T hT X
  rcases hr T hT X with ⟨v, st₀, t, T', L, h0, X', hL, e1, e2, ⟨⟨r, u, hv, hp, hb⟩, hF⟩, st⟩ | ⟨q, st₀, t, T', L, E, ce, h0, X', hL, e1, e2, ⟨u, hp, hb, hF⟩, hce, hcv, hcl, st⟩
  · cases hv
    obtain ⟨k1, k2, k3⟩ := vx_keep h0 e1 hS hA hf hL hF
    obtain ⟨t2, a1, b1⟩ := kk r u t T'.heap (locs ++ L) e1.symm (by rw [← e2]; exact X'.warmed.alike) hp hb k1 k2 k3 T' rfl X'
    exact ⟨t2, st t2 a1, b1⟩
  · obtain ⟨k1, k2, k3⟩ := vx_keep h0 e1 hS hAX hf hL hF
    obtain ⟨t2, a1, b1⟩ := kx E ce q u t T'.heap (locs ++ L) e1.symm (by rw [← e2]; exact X'.warmed.alike) hp hb k1 k2 k3 (by rw [e1]; exact hce) hcv hcl T' rfl X'
    exact ⟨t2, st.trans a1, b1⟩
theorem vx_calll {S SX : Type} {post : Int64 → S → Prop} {px : SX → Prop} {B : S → State → Prop} {BX : String → SX → State → Prop} {AX : Nat → Prop} (hr : vx_Run p l e R s m args below meth c H locs cells slots mc ms (F0 m pc ls st0) rest (va_Ql post B A1 a) (vx_X px BX AX) free) (hS : va_S A0 H0 H locs) (hA : ∀ q, q < H.size → A1 q → A0 q) (hf : ∀ q, free q → A0 q) (hAX : ∀ q, q < H.size → AX q → A0 q)
    (kx : ∀ (E : String) (ce : Cell) (q9 : Addr) (u : SX) (t : State) (H1 : Heap) (locs1 : List Loc), t.heap = H1 → s.vm.Alike t.vm → px u → BX E u t → H.size ≤ H1.size → (∀ q : Nat, q < H.size → ¬ AX q → H1[q]? = H[q]?) → va_S A0 H0 H1 locs1 → H1[q9]? = some ce → ce.vm = .none → s.vm.findClass E = some ce.cls → vx_W p l e R s m args below meth c H1 locs1 (cells + mc) (slots + ms) Q (F0 m pc ls rest) q9)
    (kk : ∀ (r : Int64) (u : S) (t : State) (H1 : Heap) (locs1 : List Loc), t.heap = H1 → s.vm.Alike t.vm → post r u → B u t → H.size ≤ H1.size → (∀ q : Nat, q < H.size → ¬ A1 q → H1[q]? = H[q]?) → va_S A0 H0 H1 locs1 → W p l e R s m args below meth c H1 locs1 (cells + mc) (slots + ms) Q (F0 m (pc + 3) ls (.long r :: rest))) : W p l e R s m args below meth c H locs cells slots Q (F0 m pc ls st0) := by
  intro T hT X
  rcases hr T hT X with ⟨v, st₀, t, T', L, h0, X', hL, e1, e2, ⟨⟨r, u, hv, hp, hb⟩, hF⟩, st⟩ | ⟨q, st₀, t, T', L, E, ce, h0, X', hL, e1, e2, ⟨u, hp, hb, hF⟩, hce, hcv, hcl, st⟩
  · cases hv
    obtain ⟨k1, k2, k3⟩ := vx_keep h0 e1 hS hA hf hL hF
    obtain ⟨t2, a1, b1⟩ := kk r u t T'.heap (locs ++ L) e1.symm (by rw [← e2]; exact X'.warmed.alike) hp hb k1 k2 k3 T' rfl X'
    exact ⟨t2, st t2 a1, b1⟩
  · obtain ⟨k1, k2, k3⟩ := vx_keep h0 e1 hS hAX hf hL hF
    obtain ⟨t2, a1, b1⟩ := kx E ce q u t T'.heap (locs ++ L) e1.symm (by rw [← e2]; exact X'.warmed.alike) hp hb k1 k2 k3 (by rw [e1]; exact hce) hcv hcl T' rfl X'
    exact ⟨t2, st.trans a1, b1⟩
theorem vx_callf {S SX : Type} {post : UInt32 → S → Prop} {px : SX → Prop} {B : S → State → Prop} {BX : String → SX → State → Prop} {AX : Nat → Prop} (hr : vx_Run p l e R s m args below meth c H locs cells slots mc ms (F0 m pc ls st0) rest (va_Qf post B A1 a) (vx_X px BX AX) free) (hS : va_S A0 H0 H locs) (hA : ∀ q, q < H.size → A1 q → A0 q) (hf : ∀ q, free q → A0 q) (hAX : ∀ q, q < H.size → AX q → A0 q)
    (kx : ∀ (E : String) (ce : Cell) (q9 : Addr) (u : SX) (t : State) (H1 : Heap) (locs1 : List Loc), t.heap = H1 → s.vm.Alike t.vm → px u → BX E u t → H.size ≤ H1.size → (∀ q : Nat, q < H.size → ¬ AX q → H1[q]? = H[q]?) → va_S A0 H0 H1 locs1 → H1[q9]? = some ce → ce.vm = .none → s.vm.findClass E = some ce.cls → vx_W p l e R s m args below meth c H1 locs1 (cells + mc) (slots + ms) Q (F0 m pc ls rest) q9)
    (kk : ∀ (r : UInt32) (u : S) (t : State) (H1 : Heap) (locs1 : List Loc), t.heap = H1 → s.vm.Alike t.vm → post r u → B u t → H.size ≤ H1.size → (∀ q : Nat, q < H.size → ¬ A1 q → H1[q]? = H[q]?) → va_S A0 H0 H1 locs1 → W p l e R s m args below meth c H1 locs1 (cells + mc) (slots + ms) Q (F0 m (pc + 3) ls (.float r :: rest))) : W p l e R s m args below meth c H locs cells slots Q (F0 m pc ls st0) := by
  intro T hT X
  rcases hr T hT X with ⟨v, st₀, t, T', L, h0, X', hL, e1, e2, ⟨⟨r, u, hv, hp, hb⟩, hF⟩, st⟩ | ⟨q, st₀, t, T', L, E, ce, h0, X', hL, e1, e2, ⟨u, hp, hb, hF⟩, hce, hcv, hcl, st⟩
  · cases hv
    obtain ⟨k1, k2, k3⟩ := vx_keep h0 e1 hS hA hf hL hF
    obtain ⟨t2, a1, b1⟩ := kk r u t T'.heap (locs ++ L) e1.symm (by rw [← e2]; exact X'.warmed.alike) hp hb k1 k2 k3 T' rfl X'
    exact ⟨t2, st t2 a1, b1⟩
  · obtain ⟨k1, k2, k3⟩ := vx_keep h0 e1 hS hAX hf hL hF
    obtain ⟨t2, a1, b1⟩ := kx E ce q u t T'.heap (locs ++ L) e1.symm (by rw [← e2]; exact X'.warmed.alike) hp hb k1 k2 k3 (by rw [e1]; exact hce) hcv hcl T' rfl X'
    exact ⟨t2, st.trans a1, b1⟩
theorem vx_calld {S SX : Type} {post : UInt64 → S → Prop} {px : SX → Prop} {B : S → State → Prop} {BX : String → SX → State → Prop} {AX : Nat → Prop} (hr : vx_Run p l e R s m args below meth c H locs cells slots mc ms (F0 m pc ls st0) rest (va_Qd post B A1 a) (vx_X px BX AX) free) (hS : va_S A0 H0 H locs) (hA : ∀ q, q < H.size → A1 q → A0 q) (hf : ∀ q, free q → A0 q) (hAX : ∀ q, q < H.size → AX q → A0 q)
    (kx : ∀ (E : String) (ce : Cell) (q9 : Addr) (u : SX) (t : State) (H1 : Heap) (locs1 : List Loc), t.heap = H1 → s.vm.Alike t.vm → px u → BX E u t → H.size ≤ H1.size → (∀ q : Nat, q < H.size → ¬ AX q → H1[q]? = H[q]?) → va_S A0 H0 H1 locs1 → H1[q9]? = some ce → ce.vm = .none → s.vm.findClass E = some ce.cls → vx_W p l e R s m args below meth c H1 locs1 (cells + mc) (slots + ms) Q (F0 m pc ls rest) q9)
    (kk : ∀ (r : UInt64) (u : S) (t : State) (H1 : Heap) (locs1 : List Loc), t.heap = H1 → s.vm.Alike t.vm → post r u → B u t → H.size ≤ H1.size → (∀ q : Nat, q < H.size → ¬ A1 q → H1[q]? = H[q]?) → va_S A0 H0 H1 locs1 → W p l e R s m args below meth c H1 locs1 (cells + mc) (slots + ms) Q (F0 m (pc + 3) ls (.double r :: rest))) : W p l e R s m args below meth c H locs cells slots Q (F0 m pc ls st0) := by
  intro T hT X
  rcases hr T hT X with ⟨v, st₀, t, T', L, h0, X', hL, e1, e2, ⟨⟨r, u, hv, hp, hb⟩, hF⟩, st⟩ | ⟨q, st₀, t, T', L, E, ce, h0, X', hL, e1, e2, ⟨u, hp, hb, hF⟩, hce, hcv, hcl, st⟩
  · cases hv
    obtain ⟨k1, k2, k3⟩ := vx_keep h0 e1 hS hA hf hL hF
    obtain ⟨t2, a1, b1⟩ := kk r u t T'.heap (locs ++ L) e1.symm (by rw [← e2]; exact X'.warmed.alike) hp hb k1 k2 k3 T' rfl X'
    exact ⟨t2, st t2 a1, b1⟩
  · obtain ⟨k1, k2, k3⟩ := vx_keep h0 e1 hS hAX hf hL hF
    obtain ⟨t2, a1, b1⟩ := kx E ce q u t T'.heap (locs ++ L) e1.symm (by rw [← e2]; exact X'.warmed.alike) hp hb k1 k2 k3 (by rw [e1]; exact hce) hcv hcl T' rfl X'
    exact ⟨t2, st.trans a1, b1⟩
theorem vx_callv {S SX : Type} {post : S → Prop} {px : SX → Prop} {B : S → State → Prop} {BX : String → SX → State → Prop} {AX : Nat → Prop} (hr : vx_Run p l e R s m args below meth c H locs cells slots mc ms (F0 m pc ls st0) rest (va_Qv post B A1 a) (vx_X px BX AX) free) (hS : va_S A0 H0 H locs) (hA : ∀ q, q < H.size → A1 q → A0 q) (hf : ∀ q, free q → A0 q) (hAX : ∀ q, q < H.size → AX q → A0 q)
    (kx : ∀ (E : String) (ce : Cell) (q9 : Addr) (u : SX) (t : State) (H1 : Heap) (locs1 : List Loc), t.heap = H1 → s.vm.Alike t.vm → px u → BX E u t → H.size ≤ H1.size → (∀ q : Nat, q < H.size → ¬ AX q → H1[q]? = H[q]?) → va_S A0 H0 H1 locs1 → H1[q9]? = some ce → ce.vm = .none → s.vm.findClass E = some ce.cls → vx_W p l e R s m args below meth c H1 locs1 (cells + mc) (slots + ms) Q (F0 m pc ls rest) q9)
    (kk : ∀ (u : S) (t : State) (H1 : Heap) (locs1 : List Loc), t.heap = H1 → s.vm.Alike t.vm → post u → B u t → H.size ≤ H1.size → (∀ q : Nat, q < H.size → ¬ A1 q → H1[q]? = H[q]?) → va_S A0 H0 H1 locs1 → W p l e R s m args below meth c H1 locs1 (cells + mc) (slots + ms) Q (F0 m (pc + 3) ls (rest))) : W p l e R s m args below meth c H locs cells slots Q (F0 m pc ls st0) := by
  intro T hT X
  rcases hr T hT X with ⟨v, st₀, t, T', L, h0, X', hL, e1, e2, ⟨⟨u, hv, hp, hb⟩, hF⟩, st⟩ | ⟨q, st₀, t, T', L, E, ce, h0, X', hL, e1, e2, ⟨u, hp, hb, hF⟩, hce, hcv, hcl, st⟩
  · cases hv
    obtain ⟨k1, k2, k3⟩ := vx_keep h0 e1 hS hA hf hL hF
    obtain ⟨t2, a1, b1⟩ := kk u t T'.heap (locs ++ L) e1.symm (by rw [← e2]; exact X'.warmed.alike) hp hb k1 k2 k3 T' rfl X'
    exact ⟨t2, st t2 a1, b1⟩
  · obtain ⟨k1, k2, k3⟩ := vx_keep h0 e1 hS hAX hf hL hF
    obtain ⟨t2, a1, b1⟩ := kx E ce q u t T'.heap (locs ++ L) e1.symm (by rw [← e2]; exact X'.warmed.alike) hp hb k1 k2 k3 (by rw [e1]; exact hce) hcv hcl T' rfl X'
    exact ⟨t2, st.trans a1, b1⟩
/-- caught by the row x of this method's table; the rows ahead don't take it -/
theorem vx_catch {own name : String} {E : String} {ce : Cell} {q : Addr} (hown : s.vm.findClass own = some m.cls) (pre : List ExceptionTableEntry) (x : ExceptionTableEntry) (suf : List ExceptionTableEntry) (hsplit : c.exceptionTable.toList = pre ++ x :: suf)
    (hpass : ∀ z ∈ pre, covers z pc = false ∨ (z.catchType ≠ 0 ∧ ∃ nm : String, (Cond.classLink own z.catchType nm).before args s = true ∧ va_Nc E nm s)) (hx : covers x pc = true) (h0 : x.catchType ≠ 0)
    (hlink : (Cond.classLink own x.catchType name).before args s = true) (hcast : (Cond.castable E name).before args s = true) (hcell : H[q]? = some ce) (hv : ce.vm = .none) (hcl : s.vm.findClass E = some ce.cls)
    (kk : W p l e R s m args below meth c H locs cells slots Q (F0 m x.handlerPc ls [.ref q])) : vx_W p l e R s m args below meth c H locs cells slots Q (F0 m pc ls rest) q := by
  intro T hT X
  have hpl : e.platform.magicAccessors = ({} : Platform).magicAccessors := by rw [X.admits.platform]
  obtain ⟨c3, c4, hc3, hc4, hasg⟩ := Cond.castable_spec hcast
  cases Option.some.inj (hc3.symm.trans hcl)
  obtain ⟨c5, hc5, hcl5⟩ := Cond.classLink_spec hown hlink e.platform hpl
  cases Option.some.inj (hc4.symm.trans hc5)
  obtain ⟨vm', X', st⟩ := X.thenCaughtThrough q (g := F0 m pc ls rest) rfl (Steps.refl _) (by rw [hT]; exact hcell) (by rw [hv]; rfl) (by obtain ⟨k9, h9, -⟩ := Vm.findClass_spec hcl; exact ⟨k9, h9⟩) pre x suf hsplit
    (fun z hz => by
      rcases hpass z hz with h | ⟨hz0, nm, hl1, hn1⟩
      · exact Or.inl h
      · obtain ⟨c6, hc6, hcl6⟩ := Cond.classLink_spec hown hl1 e.platform hpl
        obtain ⟨a8, b8, h1, h2, h3⟩ := hn1
        cases Option.some.inj (h1.symm.trans hcl)
        cases Option.some.inj (h2.symm.trans hc6)
        exact Or.inr ⟨hz0, _, hcl6, h3⟩) hx (Or.inr ⟨h0, c4, hcl5, hasg⟩)
  obtain ⟨t, a1, b1⟩ := kk (T.setVm vm') hT X'
  exact ⟨t, st.trans a1, b1⟩
end Rows
section Ends
variable {p : Program} {l : Launch} {e : Env} {R : Room} {s : State} {m : MethodId} {args : Array Value} {below : List Frame} {meth : Method} {c : Code} {H : Heap} {locs : List Loc} {cells slots : Nat} {Q : State → Prop}
variable {mc ms : Nat} {free : Addr → Prop} {A0 A1 : Nat → Prop} {H0 : Heap} {a : Array Value} {ls : Array Slot} {st0 rest : List Value}
variable {Qc : Array Value → State → Outcome → State → Prop} {XC : String → State → State → Prop}
/-- what a body that may throw owes at its end -/
def vx_MQ (below : List Frame) (Qc : Array Value → State → Outcome → State → Prop) (XC : String → State → State → Prop) (a : Array Value) (s : State) (mc ms : Nat) (free : Addr → Prop) : State → Prop := fun t =>
  ∃ o, t.status = .running ∧ Ended t below o ∧ vx_Q Qc XC mc ms free a s o t
theorem vx_ret {g : JFrame} {mc ms : Nat} (k : W p l e R s m args below meth c H locs cells slots (MQ below Qc args s mc ms free) g) : W p l e R s m args below meth c H locs cells slots (vx_MQ below Qc XC args s mc ms free) g := by
  intro T hT X
  obtain ⟨t, a1, o, b1, b2, b3, b4⟩ := k T hT X
  exact ⟨t, a1, o, b1, b2, Or.inl ⟨b3, b4⟩⟩
/-- not caught here: it goes on to the caller -/
theorem vx_widen {g : JFrame} {q : Addr} {k n : Nat} (h1 : cells ≤ k) (h2 : slots ≤ n) (kk : vx_W p l e R s m args below meth c H locs k n Q g q) : vx_W p l e R s m args below meth c H locs cells slots Q g q := fun T hT X => kk T hT (stand_widen X h1 h2)
theorem vx_out {pc : Nat} {E : String} {ce : Cell} {q : Addr} {mc ms : Nat} (hout : ∀ x ∈ c.exceptionTable.toList, covers x pc = false) (hlocks : meth.locks = false) (hcell : H[q]? = some ce) (hv : ce.vm = .none) (hcl : s.vm.findClass E = some ce.cls)
    (hx : ∀ t : State, t.heap = H → s.vm.Alike t.vm → XC E s t) (hf : ∀ z ∈ locs, free z.base) (hc : cells ≤ mc) (hs : slots ≤ ms) :
    vx_W p l e R s m args below meth c H locs cells slots (vx_MQ below Qc XC args s mc ms free) (F0 m pc ls rest) q := by
  intro T hT X
  obtain ⟨st1, hrun, hend, hW, hsm⟩ := X.leaveThrown q (g := F0 m pc ls rest) rfl rfl rfl hout hlocks
  have hcell9 : (T.setFrames (.throwing q :: below)).heap[q]? = some ce := by
    show T.heap[q]? = some ce
    rw [hT]; exact hcell
  exact ⟨_, st1, .threw q, hrun, hend, Or.inr ⟨q, rfl, E, ce, locs, hx _ hT hW.alike, hcell9, hv, hcl, hW, hsm.mono hc hs, hf⟩⟩
theorem vx_frame {U : State} {k n : Nat} (h : s.sameButNew ({ U with vm := s.vm } : State) locs k n) : s.heap.size ≤ U.heap.size ∧ ∀ q : Nat, q < s.heap.size → (∀ z ∈ locs, z.base ≠ q) → U.heap[q]? = s.heap[q]? := by
  obtain ⟨-, h2, -, -, -, h6⟩ := h
  refine ⟨h2, fun q hq hz => ?_⟩
  obtain ⟨c9, e1, e2, e3, e4⟩ := h6 q _ (Array.getElem?_eq_getElem hq)
  have hs : c9.slots = (s.heap[q]).slots := Array.ext_getElem? fun i => e4 i fun hm => hz _ hm rfl
  have h9 : c9 = s.heap[q] := by
    rw [hs] at e2
    exact e2
  have e5 : U.heap[q]? = some c9 := e1
  rw [e5, h9, Array.getElem?_eq_getElem hq]
/-- the words of a throw but the four that speak of the heap -/
def vx_no (w : Cond) : Bool := decide (w ≠ .isRef (.static Bundle.tN "UNASSIGNED_STACK" Bundle.steD)) && decide (w ≠ .isRef (.static Bundle.tN "SUPPRESSED_SENTINEL" Bundle.listD)) && decide (w ≠ .laysStatic Bundle.tN "UNASSIGNED_STACK" Bundle.steD) && decide (w ≠ .laysStatic Bundle.tN "SUPPRESSED_SENTINEL" Bundle.listD)
def vx_at0 (own : String) (ic : Nat) (X : String) (names : List String) : List Cond := (Bundle.ownAtoms0 own ic X names).filter vx_no
def vx_atS (own : String) (ic : Nat) (X : String) (names : List String) : List Cond := (Bundle.ownAtoms own ic X names).filter vx_no
/-- a word that the tables alone decide, or a good one -/
def vx_ot (w : Cond) : Bool := w.onTables || goodWord w
theorem vx_ot_at {args a' : Array Value} {s U : State} {w : Cond} (hW : s.WarmedH U.vm) (hvm : s.vm = U.vm) (hg : vx_ot w = true) (h : w.before args s = true) : w.before a' U = true := by
  simp only [vx_ot, Bool.or_eq_true] at hg
  rcases hg with hg | hg
  · exact va_tabs hg hvm h
  · exact word_at hW (good_of_word hg) h
/-- a list's words: the good ones out of the method's own list, the others by premises of their own -/
theorem vx_hat {args : Array Value} {s : State} {L B : List Cond} (h1 : ∀ w ∈ L.filter goodWord, w.before args s = true) (h2 : ∀ w ∈ L.filter (fun w => !goodWord w), w ∈ B) (h3 : ∀ w ∈ B, w.before args s = true) : ∀ w ∈ L, w.before args s = true := by
  intro w hw
  by_cases g : goodWord w = true
  · exact h1 w (List.mem_filter.mpr ⟨hw, g⟩)
  · refine h3 w (h2 w (List.mem_filter.mpr ⟨hw, ?_⟩))
    show (!goodWord w) = true
    cases hgw : goodWord w
    · rfl
    · exact absurd hgw g
theorem vx_c {args : Array Value} {s : State} {w : Cond} {B : List Cond} (h : w.before args s = true) (t : ∀ w ∈ B, w.before args s = true) : ∀ w' ∈ w :: B, w'.before args s = true := fun w' h' => (List.mem_cons.mp h').elim (fun e => by rw [e]; exact h) (t w')
theorem vx_n {args : Array Value} {s : State} : ∀ w ∈ ([] : List Cond), w.before args s = true := fun _ h => nomatch h
theorem vx_own {args : Array Value} {s : State} {L : List Cond} (h1 : ∀ w ∈ L.filter vx_no, w.before args s = true)
    (hU : (Cond.isRef (.static Bundle.tN "UNASSIGNED_STACK" Bundle.steD)).before args s = true) (hN : (Cond.isRef (.static Bundle.tN "SUPPRESSED_SENTINEL" Bundle.listD)).before args s = true)
    (lU : (Cond.laysStatic Bundle.tN "UNASSIGNED_STACK" Bundle.steD).before args s = true) (lN : (Cond.laysStatic Bundle.tN "SUPPRESSED_SENTINEL" Bundle.listD).before args s = true) : ∀ w ∈ L, w.before args s = true := by
  intro w hw
  by_cases e1 : w = .isRef (.static Bundle.tN "UNASSIGNED_STACK" Bundle.steD)
  · rw [e1]; exact hU
  · by_cases e2 : w = .isRef (.static Bundle.tN "SUPPRESSED_SENTINEL" Bundle.listD)
    · rw [e2]; exact hN
    · by_cases e3 : w = .laysStatic Bundle.tN "UNASSIGNED_STACK" Bundle.steD
      · rw [e3]; exact lU
      · by_cases e4 : w = .laysStatic Bundle.tN "SUPPRESSED_SENTINEL" Bundle.listD
        · rw [e4]; exact lN
        · exact h1 w (List.mem_filter.mpr ⟨hw, by unfold vx_no; rw [decide_eq_true e1, decide_eq_true e2, decide_eq_true e3, decide_eq_true e4]; rfl⟩)
/-- where a static field lies, its class's statics cell in H -/
def vx_L (C n d : String) (A : Nat → Prop) (U : State) (H : Heap) : Prop := ∃ (c : ClassId) (k : Class) (i : Nat) (f : Field) (a : Nat) (cell : Cell), U.vm.findClass C = some c ∧ U.fieldFound? C n d = some (c, k, i, f) ∧ f.isStatic = true ∧ k.statics = some a ∧ H[a]? = some cell ∧ cell.vm.isStatics = true ∧ cell.cls = c ∧ f.slot < cell.slots.size ∧ k.staticTypes[f.slot]? = some f.type ∧ ¬ A a
theorem vx_L.moved {C n d : String} {A : Nat → Prop} {u U : State} {H : Heap} (hvm : u.vm.Alike U.vm) (h : vx_L C n d A u H) : vx_L C n d A U H := by
  obtain ⟨c, k, i, f, a, cell, h1, h2, h3, h4, h5, h6, h7, h8, h9, h10⟩ := h
  obtain ⟨k', hi', he⟩ := State.fieldFound?_setVm hvm h2
  exact ⟨c, k', i, f, a, cell, by rw [hvm.findClass]; exact h1, hi', h3, by rw [he]; exact h4, h5, h6, h7, h8, by rw [he]; exact h9, h10⟩
theorem vx_L.kept {C n d : String} {A : Nat → Prop} {U : State} {H H1 : Heap} (h : vx_L C n d A U H) (hq : ∀ a : Nat, a < H.size → ¬ A a → H1[a]? = H[a]?) : vx_L C n d A U H1 := by
  obtain ⟨c, k, i, f, a, cell, h1, h2, h3, h4, h5, h6, h7, h8, h9, h10⟩ := h
  exact ⟨c, k, i, f, a, cell, h1, h2, h3, h4, by rw [hq a (Array.getElem?_eq_some_iff.mp h5).1 h10]; exact h5, h6, h7, h8, h9, h10⟩
theorem vx_L.narrow {C n d : String} {A B : Nat → Prop} {U : State} {H : Heap} (h : vx_L C n d A U H) (hAB : ∀ q, B q → A q) : vx_L C n d B U H := by
  obtain ⟨c, k, i, f, a, cell, h1, h2, h3, h4, h5, h6, h7, h8, h9, h10⟩ := h
  exact ⟨c, k, i, f, a, cell, h1, h2, h3, h4, h5, h6, h7, h8, h9, fun z => h10 (hAB _ z)⟩
theorem vx_L.word {C n d : String} {A : Nat → Prop} {s : State} {args : Array Value} (h : vx_L C n d A s s.heap) : (Cond.laysStatic C n d).before args s = true := by
  obtain ⟨c, k, i, f, a, cell, h1, h2, h3, h4, h5, h6, h7, h8, h9, -⟩ := h
  show (Cond.laysStatic C n d).holds args s none s [] = true
  exact Cond.laysStatic_of h1 h2 h3 h4 h5 h6 h7 h8 h9
/-- .. and what it holds: null or some reference -/
def vx_Zq (C n d : String) (A : Nat → Prop) (U : State) (H : Heap) : Prop := va_Zq C n d A U H ∧ vx_L C n d A U H
theorem vx_Zq.moved {C n d : String} {A : Nat → Prop} {u U : State} {H : Heap} (hvm : u.vm.Alike U.vm) (h : vx_Zq C n d A u H) : vx_Zq C n d A U H := ⟨va_Zq.moved hvm h.1, vx_L.moved hvm h.2⟩
theorem vx_Zq.kept {C n d : String} {A : Nat → Prop} {U : State} {H H1 : Heap} (h : vx_Zq C n d A U H) (hq : ∀ a : Nat, a < H.size → ¬ A a → H1[a]? = H[a]?) : vx_Zq C n d A U H1 := ⟨va_Zq.kept h.1 hq, vx_L.kept h.2 hq⟩
theorem vx_Zq.narrow {C n d : String} {A B : Nat → Prop} {U : State} {H : Heap} (h : vx_Zq C n d A U H) (hAB : ∀ q, B q → A q) : vx_Zq C n d B U H := ⟨va_Zq.narrow h.1 hAB, vx_L.narrow h.2 hAB⟩
theorem vx_Zqof {args : Array Value} {s : State} {C n d : String} {A : Nat → Prop} (hl : (Cond.laysStatic C n d).before args s = true) (hini : (Cond.initialized C).before args s = true) (h : (Cond.isRef (.static C n d)).before args s = true) (hA : ∀ a : Nat, a < s.heap.size → ¬ A a) : vx_Zq C n d A s s.heap := by
  refine ⟨va_Zqof hl hini h hA, ?_⟩
  obtain ⟨c, k, i, f, a, cell, h1, h2, h3, h4, h5, h6, h7, h8, h9⟩ := Cond.laysStatic_spec hl
  exact ⟨c, k, i, f, a, cell, h1, h2, h3, h4, h5, h6, h7, h8, h9, hA a (Array.getElem?_eq_some_iff.mp h5).1⟩
theorem vx_isRef {C n d : String} {v : Value} {A : Nat → Prop} {s : State} {args : Array Value} (h : va_Z C n d v A s s.heap) (hv : v.isRef = true) : (Cond.isRef (.static C n d)).before args s = true := by
  obtain ⟨cf, kf, fi, f, a, cell, h1, h2, h3, h4, h5, h6, h7, -⟩ := h
  have he : (Term.static C n d).eval args s none [] s = some v := by
    simp [Term.eval, State.fieldNamed?, h1, h2, h4, h5, h6, h7]
  simp only [Cond.before, Cond.holds, Cond.value, he]
  cases v <;> simp_all [Value.isRef]
theorem vx_isRefq {C n d : String} {A : Nat → Prop} {s : State} {args : Array Value} (h : va_Zq C n d A s s.heap) : (Cond.isRef (.static C n d)).before args s = true := by
  rcases h with h | ⟨t, h⟩
  · exact vx_isRef h rfl
  · exact vx_isRef h rfl
/-- the same frame, seen from here: as if the method were called anew in this heap -/
theorem vx_rebase {T : State} (X : Stand p l e R s m args below meth c T locs cells slots) {R' : Room} (hf : R'.frames ≤ R.frames) (hl : R'.locals ≤ R.locals) (hc : cells + R'.cells ≤ R.cells) (hs : slots + R'.slots ≤ R.slots) :
    Stand p l e R' ((T.setVm s.vm).setFrames (.invoking m args :: below)) m args below meth c T [] 0 0 := by
  have htop : (T.setVm s.vm).topJava?.isSome := X.here.top
  have hF : ((T.setVm s.vm).setFrames (.invoking m args :: below)).frames = .invoking m args :: below := State.frames_setFrames _ (State.cur_lt_of_top htop)
  obtain ⟨g₀, hg0⟩ := Option.isSome_iff_exists.mp htop
  obtain ⟨r, hr⟩ := State.topJava?_eq_some.mp hg0
  have hl9 : e.platform.stackLimits (T.setVm s.vm).me = e.platform.stackLimits s.me := X.limits
  have hb9 : (T.setVm s.vm).me.stackBytes = s.me.stackBytes := X.bytes
  refine ⟨X.admits, X.cas, X.clock, hF, ?_, X.hears, X.method, X.code, X.here, X.tail, X.warmed, ?_, ?_, ?_⟩
  · have h := X.room
    have hU : ((T.setVm s.vm).setFrames (.invoking m args :: below)).localsInUse = s.localsInUse := by
      rw [State.localsInUse_invoking hF (meth := meth) (c := c) X.method X.code, State.localsInUse_invoking X.frames X.method X.code]
    simp only [State.hasRoom, Bool.and_eq_true, decide_eq_true_eq] at h ⊢
    obtain ⟨⟨⟨⟨h1, h2, h3, h4, h5, h6⟩, h7⟩, h8⟩, h9⟩ := h
    rw [X.frames, List.length_cons] at h2 h3
    have q1 := X.heapSize
    have q2 := X.used
    simp only [hF, hU, List.length_cons, State.stackLimits_setFrames, State.stackBytes_setFrames, hl9, hb9]
    refine ⟨⟨⟨⟨by omega, by omega, by omega, by omega, by omega, h6⟩, ?_⟩, ?_⟩, X.book⟩
    · show T.heap.size + R'.cells ≤ e.platform.maxCells
      omega
    · show T.slotsUsed + R'.slots ≤ e.platform.maxSlots
      omega
  · rw [State.stackLimits_setFrames]; rfl
  · rw [State.stackBytes_setFrames]; rfl
  · refine ⟨?_, Nat.le_refl _, Nat.le_refl _, ?_, ?_, fun a c9 h9 => ⟨c9, h9, rfl, rfl, fun _ _ => rfl⟩⟩
    · obtain ⟨t, ht, -⟩ := State.frames_cons hr
      show T.setVm s.vm = { ((T.setVm s.vm).setFrames (.invoking m args :: below)).setFrames (T.setVm s.vm).frames with heap := T.heap, slotsUsed := T.slotsUsed }
      rw [State.setFrames_setFrames, State.setFrames_self ht]
      rfl
    · show T.slotsUsed = T.slotsUsed + ((T.heap.toList.drop T.heap.size).map (·.slots.size)).sum
      rw [List.drop_eq_nil_of_le (Nat.le_of_eq Array.length_toList)]
      rfl
    · show ((T.heap.toList.drop T.heap.size).map (·.slots.size)).sum ≤ 0
      rw [List.drop_eq_nil_of_le (Nat.le_of_eq Array.length_toList)]
      exact Nat.le_refl _
/-- 'throw new E()': new; dup; invokespecial; athrow -/
theorem vx_throw0 {cc : ByteArray} {pc : Nat} (hexec : p.tables.exec = Jvm.exec) (hb : c.code = cc) (hl : l.stackTraces = false) {own cls : String} {names : List String} {ik ic mc ms : Nat} {A : Nat → Prop}
    (hown : s.vm.findClass own = some m.cls) (hcls : Bundle.fit cls = true) (hnames : ∀ n ∈ names, Bundle.fit n = true)
    (hk : (Cond.classLink own ik cls).before args s = true) (hini : (Cond.initialized cls).before args s = true) (hat : ∀ w ∈ vx_at0 own ic cls names, w.before args s = true)
    (hgood : ∀ w ∈ Cond.classLink own ik cls :: Cond.initialized cls :: vx_at0 own ic cls names, vx_ot w = true)
    (hU : vx_Zq Bundle.tN "UNASSIGNED_STACK" Bundle.steD A s s.heap) (hN : vx_Zq Bundle.tN "SUPPRESSED_SENTINEL" Bundle.listD A s s.heap) (hS : va_S A s.heap H locs) (hsize : ls.size = c.maxLocals)
    (d0 : decode cc pc = .ok (.new ik, 3)) (d3 : decode cc (pc + 3) = .ok (.dup, 1)) (d4 : decode cc (pc + 4) = .ok (.invokespecial ic, 3)) (d7 : decode cc (pc + 7) = .ok (.athrow, 1))
    (hout : ∀ x ∈ c.exceptionTable.toList, covers x (pc + 7) = false)
    (hRframes : names.length + 3 < R.frames) (hRlocals : (rest.map fun v => v.category).sum + (13 * (names.length + 1) + 42) ≤ R.locals) (hRcells : cells + 1 ≤ R.cells) (hRslots : slots + 6 ≤ R.slots) (hlocks : meth.locks = false)
    (hx : ∀ t : State, s.vm.Alike t.vm → H.size ≤ t.heap.size → (∀ q : Nat, q < H.size → t.heap[q]? = H[q]?) → XC cls s t)
    (hf : ∀ z ∈ locs, free z.base) (hc : cells + 1 ≤ mc) (hs : slots + 6 ≤ ms) :
    W p l e R s m args below meth c H locs cells slots (vx_MQ below Qc XC args s mc ms free) (F0 m pc ls rest) := by
  intro T hT X
  have htr : e.platform.stackTraces = false := (show e.platform.stackTraces = l.stackTraces by rw [X.admits.platform]).trans hl
  have Y := vx_rebase X (R' := { frames := R.frames, locals := R.locals, cells := 1, slots := 6 }) (Nat.le_refl _) (Nat.le_refl _) hRcells hRslots
  obtain ⟨s', hA⟩ : ∃ z, z = (T.setVm s.vm).setFrames (.invoking m args :: below) := ⟨_, rfl⟩
  rw [← hA] at Y
  have hvm : s'.vm = s.vm := by rw [hA]; rfl
  have hhp : s'.heap = H := by rw [hA]; exact hT
  have hW0 : s.WarmedH s'.vm := by rw [hvm]; exact State.WarmedH.refl s
  have hat' : ∀ w ∈ vx_at0 own ic cls names, w.before args s' = true := fun w hw => vx_ot_at hW0 hvm.symm (hgood w (List.mem_cons_of_mem _ (List.mem_cons_of_mem _ hw))) (hat w hw)
  have hk' : (Cond.classLink own ik cls).before args s' = true := vx_ot_at hW0 hvm.symm (hgood _ List.mem_cons_self) hk
  have hini' : (Cond.initialized cls).before args s' = true := vx_ot_at hW0 hvm.symm (hgood _ (List.mem_cons_of_mem _ List.mem_cons_self)) hini
  have hU' : vx_Zq Bundle.tN "UNASSIGNED_STACK" Bundle.steD A s' s'.heap := by rw [hhp]; exact vx_Zq.moved hW0.alike (hU.kept hS.2.1)
  have hN' : vx_Zq Bundle.tN "SUPPRESSED_SENTINEL" Bundle.listD A s' s'.heap := by rw [hhp]; exact vx_Zq.moved hW0.alike (hN.kept hS.2.1)
  have h : ∀ w ∈ Bundle.ownAtoms0 own ic cls names, w.before args s' = true := vx_own hat' (vx_isRefq hU'.1) (vx_isRefq hN'.1) hU'.2.word hN'.2.word
  have hown' : s'.vm.findClass own = some m.cls := by rw [hvm]; exact hown
  have hins : (Cond.instantiable cls 6).before args s' = true := h _ (by simp [Bundle.ownAtoms0])
  obtain ⟨vm₁, cX, kX, hfX, hkX, -, -, X₁, st1⟩ := Y.newCold hexec (own := own) (C := cls) (index := ik) (n := 6) hown' hk' hins hini'
    (g := F0 m pc ls rest) rfl (by rw [hb]; exact d0) (Nat.le_refl _) (Nat.le_refl _)
  generalize hT1 : (T.setVm vm₁).pushCell { cls := cX, slots := kX.instanceTypes.map defaultValue, vm := .none } = T1 at X₁ st1
  have hcat : (Value.ref T.heap.size).category = 1 := rfl
  have hcellA : T1.heap[T.heap.size]? = some (freshCell cX kX) := by rw [← hT1]; exact State.heap_pushCell_size _ _
  have d3' : decode c.code (pc + 3) = .ok (.dup, 1) := by rw [hb]; exact d3
  obtain ⟨U, hsteps, hrun, hend, hW, hsame, ce, hce, hO⟩ := X₁.ctorThrow0 hexec htr (own := own) (cls := cls) (names := names) (ic := ic) hown' hcls hnames h (fun x hx => nomatch hx) hfX hkX hcellA (by rw [hhp, hT]; exact Nat.le_refl _)
    (g := { method := m, pc := pc + 4, locals := ls, stack := .ref T.heap.size :: .ref T.heap.size :: rest, locked := none }) rfl hsize rfl rfl (rest := rest) rfl
    (by rw [hb]; exact d4) (by rw [hb]; exact d7) hout hRframes (by simp only [List.map_cons, List.sum_cons, hcat]; omega) hlocks
  obtain ⟨f1, f2⟩ := vx_frame hsame
  rw [hhp] at f1 f2
  have hWs : s.WarmedH U.vm := State.WarmedH.trans hW0 hW
  have hcl : s.vm.findClass cls = some ce.cls := by
    have h9 := hO.cls
    rw [hvm] at h9
    exact h9
  have hall : s.sameButNew ({ U with vm := s.vm } : State) locs mc ms := by
    subst hA
    obtain ⟨e1, e2⟩ := hsame
    rw [State.setFrames_setFrames] at e1
    have h2 : (T.setVm s.vm).sameButNew ({ U with vm := s.vm } : State) [] (0 + 1) (0 + 6) := ⟨e1, e2⟩
    have h3 := X.same.trans h2
    rw [List.append_nil] at h3
    exact h3.mono hc hs
  refine ⟨U, ?_, .threw T.heap.size, hrun, hend, Or.inr ⟨T.heap.size, rfl, cls, ce, locs, hx U hWs.alike f1 (fun q hq => f2 q hq (fun z hz => nomatch hz)), hce, hO.vm, hcl, hWs, hall, hf⟩⟩
  refine st1 _ ?_
  show Steps p.tables e below (T1.setTop { method := m, pc := pc + 3, locals := ls, stack := .ref T.heap.size :: rest, locked := none }) _
  jvm_step X₁.here [X₁.here.top, hexec, d3', Value.category]
  exact hsteps
/-- 'throw new E("text")': new; dup; ldc; invokespecial; athrow -/
theorem vx_throwS {cc : ByteArray} {pc : Nat} (hexec : p.tables.exec = Jvm.exec) (hb : c.code = cc) (hl : l.stackTraces = false) {own cls text : String} {names : List String} {ik is ic mc ms sa : Nat} {A : Nat → Prop}
    (hown : s.vm.findClass own = some m.cls) (hcls : Bundle.fit cls = true) (hnames : ∀ n ∈ names, Bundle.fit n = true)
    (hk : (Cond.classLink own ik cls).before args s = true) (hini : (Cond.initialized cls).before args s = true) (hstr : vk_R own is text sa s) (hat : ∀ w ∈ vx_atS own ic cls names, w.before args s = true)
    (hgood : ∀ w ∈ Cond.classLink own ik cls :: Cond.initialized cls :: vx_atS own ic cls names, vx_ot w = true)
    (hU : vx_Zq Bundle.tN "UNASSIGNED_STACK" Bundle.steD A s s.heap) (hN : vx_Zq Bundle.tN "SUPPRESSED_SENTINEL" Bundle.listD A s s.heap) (hS : va_S A s.heap H locs) (hsize : ls.size = c.maxLocals)
    (d0 : decode cc pc = .ok (.new ik, 3)) (d3 : decode cc (pc + 3) = .ok (.dup, 1)) (d4 : decode cc (pc + 4) = .ok (.ldc is, 2)) (d6 : decode cc (pc + 6) = .ok (.invokespecial ic, 3)) (d9 : decode cc (pc + 9) = .ok (.athrow, 1))
    (hout : ∀ x ∈ c.exceptionTable.toList, covers x (pc + 9) = false)
    (hRframes : names.length + 3 < R.frames) (hRlocals : (rest.map fun v => v.category).sum + (13 * (names.length + 1) + 43) ≤ R.locals) (hRcells : cells + 1 ≤ R.cells) (hRslots : slots + 6 ≤ R.slots) (hlocks : meth.locks = false)
    (hx : ∀ t : State, s.vm.Alike t.vm → H.size ≤ t.heap.size → (∀ q : Nat, q < H.size → t.heap[q]? = H[q]?) → XC cls s t)
    (hf : ∀ z ∈ locs, free z.base) (hc : cells + 1 ≤ mc) (hs : slots + 6 ≤ ms) :
    W p l e R s m args below meth c H locs cells slots (vx_MQ below Qc XC args s mc ms free) (F0 m pc ls rest) := by
  intro T hT X
  have htr : e.platform.stackTraces = false := (show e.platform.stackTraces = l.stackTraces by rw [X.admits.platform]).trans hl
  have Y := vx_rebase X (R' := { frames := R.frames, locals := R.locals, cells := 1, slots := 6 }) (Nat.le_refl _) (Nat.le_refl _) hRcells hRslots
  obtain ⟨s', hA⟩ : ∃ z, z = (T.setVm s.vm).setFrames (.invoking m args :: below) := ⟨_, rfl⟩
  rw [← hA] at Y
  have hvm : s'.vm = s.vm := by rw [hA]; rfl
  have hhp : s'.heap = H := by rw [hA]; exact hT
  have hW0 : s.WarmedH s'.vm := by rw [hvm]; exact State.WarmedH.refl s
  have hat' : ∀ w ∈ vx_atS own ic cls names, w.before args s' = true := fun w hw => vx_ot_at hW0 hvm.symm (hgood w (List.mem_cons_of_mem _ (List.mem_cons_of_mem _ hw))) (hat w hw)
  have hk' : (Cond.classLink own ik cls).before args s' = true := vx_ot_at hW0 hvm.symm (hgood _ List.mem_cons_self) hk
  have hini' : (Cond.initialized cls).before args s' = true := vx_ot_at hW0 hvm.symm (hgood _ (List.mem_cons_of_mem _ List.mem_cons_self)) hini
  have hU' : vx_Zq Bundle.tN "UNASSIGNED_STACK" Bundle.steD A s' s'.heap := by rw [hhp]; exact vx_Zq.moved hW0.alike (hU.kept hS.2.1)
  have hN' : vx_Zq Bundle.tN "SUPPRESSED_SENTINEL" Bundle.listD A s' s'.heap := by rw [hhp]; exact vx_Zq.moved hW0.alike (hN.kept hS.2.1)
  have h : ∀ w ∈ Bundle.ownAtoms own ic cls names, w.before args s' = true := vx_own hat' (vx_isRefq hU'.1) (vx_isRefq hN'.1) hU'.2.word hN'.2.word
  have hown' : s'.vm.findClass own = some m.cls := by rw [hvm]; exact hown
  have hins : (Cond.instantiable cls 6).before args s' = true := h _ (by simp [Bundle.ownAtoms])
  obtain ⟨vm₁, cX, kX, hfX, hkX, -, -, X₁, st1⟩ := Y.newCold hexec (own := own) (C := cls) (index := ik) (n := 6) hown' hk' hins hini'
    (g := F0 m pc ls rest) rfl (by rw [hb]; exact d0) (Nat.le_refl _) (Nat.le_refl _)
  generalize hT1 : (T.setVm vm₁).pushCell { cls := cX, slots := kX.instanceTypes.map defaultValue, vm := .none } = T1 at X₁ st1
  have hcat : (Value.ref T.heap.size).category = 1 := rfl
  have hcellA : T1.heap[T.heap.size]? = some (freshCell cX kX) := by rw [← hT1]; exact State.heap_pushCell_size _ _
  have d3' : decode c.code (pc + 3) = .ok (.dup, 1) := by rw [hb]; exact d3
  have d4' : decode c.code (pc + 4) = .ok (.ldc is, 2) := by rw [hb]; exact d4
  have hstr' : vk_R own is text sa s' := vk_R.warm hW0 hstr
  obtain ⟨U, hsteps, hrun, hend, hW, hsame, ce, hce, hO⟩ := X₁.ctorThrowS hexec htr (own := own) (cls := cls) (names := names) (ic := ic) hown' hcls hnames h (fun x hx => nomatch hx) hfX hkX hcellA (by rw [hhp, hT]; exact Nat.le_refl _) (msg := .ref sa) rfl
    (g := { method := m, pc := pc + 6, locals := ls, stack := .ref sa :: .ref T.heap.size :: .ref T.heap.size :: rest, locked := none }) rfl hsize rfl rfl (rest := rest) rfl
    (by rw [hb]; exact d6) (by rw [hb]; exact d9) hout hRframes (by simp only [List.map_cons, List.sum_cons, hcat]; omega) hlocks
  obtain ⟨f1, f2⟩ := vx_frame hsame
  rw [hhp] at f1 f2
  have hWs : s.WarmedH U.vm := State.WarmedH.trans hW0 hW
  have hcl : s.vm.findClass cls = some ce.cls := by
    have h9 := hO.cls
    rw [hvm] at h9
    exact h9
  have hall : s.sameButNew ({ U with vm := s.vm } : State) locs mc ms := by
    subst hA
    obtain ⟨e1, e2⟩ := hsame
    rw [State.setFrames_setFrames] at e1
    have h2 : (T.setVm s.vm).sameButNew ({ U with vm := s.vm } : State) [] (0 + 1) (0 + 6) := ⟨e1, e2⟩
    have h3 := X.same.trans h2
    rw [List.append_nil] at h3
    exact h3.mono hc hs
  refine ⟨U, ?_, .threw T.heap.size, hrun, hend, Or.inr ⟨T.heap.size, rfl, cls, ce, locs, hx U hWs.alike f1 (fun q hq => f2 q hq (fun z hz => nomatch hz)), hce, hO.vm, hcl, hWs, hall, hf⟩⟩
  refine st1 _ ?_
  show Steps p.tables e below (T1.setTop { method := m, pc := pc + 3, locals := ls, stack := .ref T.heap.size :: rest, locked := none }) _
  jvm_step X₁.here [X₁.here.top, hexec, d3', Value.category]
  exact X₁.ldcString hexec (own := own) (text := text) (index := is) (a := sa) hown' hstr'.1 hstr'.2
    (g := { method := m, pc := pc + 4, locals := ls, stack := .ref T.heap.size :: .ref T.heap.size :: rest, locked := none }) rfl d4' _ hsteps
/-- 'throw new E("text")', the text by a wide index -/
theorem vx_throwSW {cc : ByteArray} {pc : Nat} (hexec : p.tables.exec = Jvm.exec) (hb : c.code = cc) (hl : l.stackTraces = false) {own cls text : String} {names : List String} {ik is ic mc ms sa : Nat} {A : Nat → Prop}
    (hown : s.vm.findClass own = some m.cls) (hcls : Bundle.fit cls = true) (hnames : ∀ n ∈ names, Bundle.fit n = true)
    (hk : (Cond.classLink own ik cls).before args s = true) (hini : (Cond.initialized cls).before args s = true) (hstr : vk_R own is text sa s) (hat : ∀ w ∈ vx_atS own ic cls names, w.before args s = true)
    (hgood : ∀ w ∈ Cond.classLink own ik cls :: Cond.initialized cls :: vx_atS own ic cls names, vx_ot w = true)
    (hU : vx_Zq Bundle.tN "UNASSIGNED_STACK" Bundle.steD A s s.heap) (hN : vx_Zq Bundle.tN "SUPPRESSED_SENTINEL" Bundle.listD A s s.heap) (hS : va_S A s.heap H locs) (hsize : ls.size = c.maxLocals)
    (d0 : decode cc pc = .ok (.new ik, 3)) (d3 : decode cc (pc + 3) = .ok (.dup, 1)) (d4 : decode cc (pc + 4) = .ok (.ldc_w is, 3)) (d7 : decode cc (pc + 7) = .ok (.invokespecial ic, 3)) (d10 : decode cc (pc + 10) = .ok (.athrow, 1))
    (hout : ∀ x ∈ c.exceptionTable.toList, covers x (pc + 10) = false)
    (hRframes : names.length + 3 < R.frames) (hRlocals : (rest.map fun v => v.category).sum + (13 * (names.length + 1) + 43) ≤ R.locals) (hRcells : cells + 1 ≤ R.cells) (hRslots : slots + 6 ≤ R.slots) (hlocks : meth.locks = false)
    (hx : ∀ t : State, s.vm.Alike t.vm → H.size ≤ t.heap.size → (∀ q : Nat, q < H.size → t.heap[q]? = H[q]?) → XC cls s t)
    (hf : ∀ z ∈ locs, free z.base) (hc : cells + 1 ≤ mc) (hs : slots + 6 ≤ ms) :
    W p l e R s m args below meth c H locs cells slots (vx_MQ below Qc XC args s mc ms free) (F0 m pc ls rest) := by
  intro T hT X
  have htr : e.platform.stackTraces = false := (show e.platform.stackTraces = l.stackTraces by rw [X.admits.platform]).trans hl
  have Y := vx_rebase X (R' := { frames := R.frames, locals := R.locals, cells := 1, slots := 6 }) (Nat.le_refl _) (Nat.le_refl _) hRcells hRslots
  obtain ⟨s', hA⟩ : ∃ z, z = (T.setVm s.vm).setFrames (.invoking m args :: below) := ⟨_, rfl⟩
  rw [← hA] at Y
  have hvm : s'.vm = s.vm := by rw [hA]; rfl
  have hhp : s'.heap = H := by rw [hA]; exact hT
  have hW0 : s.WarmedH s'.vm := by rw [hvm]; exact State.WarmedH.refl s
  have hat' : ∀ w ∈ vx_atS own ic cls names, w.before args s' = true := fun w hw => vx_ot_at hW0 hvm.symm (hgood w (List.mem_cons_of_mem _ (List.mem_cons_of_mem _ hw))) (hat w hw)
  have hk' : (Cond.classLink own ik cls).before args s' = true := vx_ot_at hW0 hvm.symm (hgood _ List.mem_cons_self) hk
  have hini' : (Cond.initialized cls).before args s' = true := vx_ot_at hW0 hvm.symm (hgood _ (List.mem_cons_of_mem _ List.mem_cons_self)) hini
  have hU' : vx_Zq Bundle.tN "UNASSIGNED_STACK" Bundle.steD A s' s'.heap := by rw [hhp]; exact vx_Zq.moved hW0.alike (hU.kept hS.2.1)
  have hN' : vx_Zq Bundle.tN "SUPPRESSED_SENTINEL" Bundle.listD A s' s'.heap := by rw [hhp]; exact vx_Zq.moved hW0.alike (hN.kept hS.2.1)
  have h : ∀ w ∈ Bundle.ownAtoms own ic cls names, w.before args s' = true := vx_own hat' (vx_isRefq hU'.1) (vx_isRefq hN'.1) hU'.2.word hN'.2.word
  have hown' : s'.vm.findClass own = some m.cls := by rw [hvm]; exact hown
  have hins : (Cond.instantiable cls 6).before args s' = true := h _ (by simp [Bundle.ownAtoms])
  obtain ⟨vm₁, cX, kX, hfX, hkX, -, -, X₁, st1⟩ := Y.newCold hexec (own := own) (C := cls) (index := ik) (n := 6) hown' hk' hins hini'
    (g := F0 m pc ls rest) rfl (by rw [hb]; exact d0) (Nat.le_refl _) (Nat.le_refl _)
  generalize hT1 : (T.setVm vm₁).pushCell { cls := cX, slots := kX.instanceTypes.map defaultValue, vm := .none } = T1 at X₁ st1
  have hcat : (Value.ref T.heap.size).category = 1 := rfl
  have hcellA : T1.heap[T.heap.size]? = some (freshCell cX kX) := by rw [← hT1]; exact State.heap_pushCell_size _ _
  have d3' : decode c.code (pc + 3) = .ok (.dup, 1) := by rw [hb]; exact d3
  have d4' : decode c.code (pc + 4) = .ok (.ldc_w is, 3) := by rw [hb]; exact d4
  have hstr' : vk_R own is text sa s' := vk_R.warm hW0 hstr
  obtain ⟨U, hsteps, hrun, hend, hW, hsame, ce, hce, hO⟩ := X₁.ctorThrowS hexec htr (own := own) (cls := cls) (names := names) (ic := ic) hown' hcls hnames h (fun x hx => nomatch hx) hfX hkX hcellA (by rw [hhp, hT]; exact Nat.le_refl _) (msg := .ref sa) rfl
    (g := { method := m, pc := pc + 7, locals := ls, stack := .ref sa :: .ref T.heap.size :: .ref T.heap.size :: rest, locked := none }) rfl hsize rfl rfl (rest := rest) rfl
    (by rw [hb]; exact d7) (by rw [hb]; exact d10) hout hRframes (by simp only [List.map_cons, List.sum_cons, hcat]; omega) hlocks
  obtain ⟨f1, f2⟩ := vx_frame hsame
  rw [hhp] at f1 f2
  have hWs : s.WarmedH U.vm := State.WarmedH.trans hW0 hW
  have hcl : s.vm.findClass cls = some ce.cls := by
    have h9 := hO.cls
    rw [hvm] at h9
    exact h9
  have hall : s.sameButNew ({ U with vm := s.vm } : State) locs mc ms := by
    subst hA
    obtain ⟨e1, e2⟩ := hsame
    rw [State.setFrames_setFrames] at e1
    have h2 : (T.setVm s.vm).sameButNew ({ U with vm := s.vm } : State) [] (0 + 1) (0 + 6) := ⟨e1, e2⟩
    have h3 := X.same.trans h2
    rw [List.append_nil] at h3
    exact h3.mono hc hs
  refine ⟨U, ?_, .threw T.heap.size, hrun, hend, Or.inr ⟨T.heap.size, rfl, cls, ce, locs, hx U hWs.alike f1 (fun q hq => f2 q hq (fun z hz => nomatch hz)), hce, hO.vm, hcl, hWs, hall, hf⟩⟩
  refine st1 _ ?_
  show Steps p.tables e below (T1.setTop { method := m, pc := pc + 3, locals := ls, stack := .ref T.heap.size :: rest, locked := none }) _
  jvm_step X₁.here [X₁.here.top, hexec, d3', Value.category]
  exact X₁.ldcStringW hexec (own := own) (text := text) (index := is) (a := sa) hown' hstr'.1 hstr'.2
    (g := { method := m, pc := pc + 4, locals := ls, stack := .ref T.heap.size :: .ref T.heap.size :: rest, locked := none }) rfl d4' _ hsteps
end Ends
section Bodies
variable {l : Launch}
theorem vx_ofW {y : MethodName} {ws ws' : List Cond} {rm : Room} {Pc : Array Value → State → Prop} {Qc : Array Value → State → Outcome → State → Prop} {XC : String → State → State → Prop} {mc ms : Nat} {free : Addr → Prop} {cc : ByteArray} {maxL : Nat} {ret : Option FieldType}
    (hy : plainName y.cls = true) (hw : ws = Cond.code y cc maxL ret :: ws')
    (body : ∀ p e s m args below meth c s₁, BodyLoose p l y (headSpec ws rm) cc maxL ret e s m args below meth c s₁ → c.maxLocals = maxL → (∀ x ∈ c.exceptionTable.toList, False) → Pc args s →
      W p l e (headSpec ws rm).room s m args below meth c s.heap [] 0 0 (vx_MQ below Qc XC args s mc ms free) (entryFrame m args maxL)) : vx_Met l y ws rm Pc Qc XC mc ms free := by
  refine MetFree.of_bodyS (code := cc) (maxLocals := maxL) (ret := ret) hy ?_ ?_
  · intro args s m h hn
    obtain ⟨meth, c, h1, h2, h3, h4, h5, h6, -, -⟩ := Cond.code_spec hn (atoms_spec (ws := ws) h _ (by rw [hw]; exact List.mem_cons_self))
    exact ⟨meth, c, h1, h2, h3, h4, h5, h6⟩
  · intro p e s m args below meth c s₁ B hml hP _
    have hh0 : s₁.heap = s.heap := by rw [B.state]; rfl
    have ht : ∀ x ∈ c.exceptionTable.toList, False := by
      obtain ⟨meth9, c9, h1, h2, -, -, -, -, h7, -⟩ := Cond.code_spec B.named (atoms_spec (ws := ws) B.pre _ (by rw [hw]; exact List.mem_cons_self))
      cases Option.some.inj (h1.symm.trans B.method)
      cases Option.some.inj (h2.symm.trans (Stand.of_body B).code)
      intro x hx
      rw [Array.isEmpty_iff.mp h7] at hx
      cases hx
    obtain ⟨t, a1, o, b1, b2, b3⟩ := body p e s m args below meth c s₁ B hml ht hP s₁ hh0 (Stand.of_body B)
    exact ⟨t, o, a1, b1, b2, b3⟩
/-- the table of a body with handlers -/
theorem vx_table {p : Program} {x y : MethodName} {S : Spec} {cc bytes : ByteArray} {maxL maxL' : Nat} {ret ret' : Option FieldType} {e : Env} {s s₁ : State} {m : MethodId} {args : Array Value} {below : List Frame} {meth : Method} {c : Code} {hh : List (Nat × Nat × Nat × Nat)}
    (B : BodyLoose p l y S cc maxL ret e s m args below meth c s₁) (h : (Cond.codeWith y bytes maxL' ret' hh).before args s = true) : c.exceptionTable.toList = tableOf hh := by
  obtain ⟨m9, meth9, c9, hn9, h1, h2, -, -, h6, -⟩ := Cond.codeWith_spec h
  cases Option.some.inj (hn9.symm.trans B.named)
  cases Option.some.inj (h1.symm.trans B.method)
  cases Option.some.inj (h2.symm.trans (Stand.of_body B).code)
  rw [← h6, table_eq]
end Bodies
end VXA
/-! ===== END ===== -/
/-! ===== BEGIN a static call of a method with an exception table ===== -/
section VXS
variable {p : Program} {l : Launch} {e : Env} {R : Room} {s : State} {m : MethodId} {args : Array Value} {below : List Frame} {meth : Method} {c : Code} {T : State} {H : Heap} {locs : List Loc} {cells slots : Nat}
abbrev vx_CSW (R : Room) (s : State) (args : Array Value) (own : String) (index : Nat) (y : MethodName) (bytes : ByteArray) (maxL : Nat) (ret : Option FieldType) (hh : List (Nat × Nat × Nat × Nat)) (ws : List Cond) (rm : Room) (mc ms n : Nat) : Prop :=
  (rm.cells = mc ∧ rm.slots = ms ∧ rm.frames + 1 ≤ R.frames ∧ 8 + (maxL + 11) + rm.locals ≤ R.locals ∧ (∀ w ∈ ws, ∀ (a' : Array Value) (U : State), s.WarmedH U.vm → w.before a' U = true) ∧ Cond.codeWith y bytes maxL ret hh ∈ ws) ∧
  (Cond.codeWith y bytes maxL ret hh).before args s = true ∧ (Cond.initialized y.cls).before args s = true ∧ (y.cls ≠ "java/lang/invoke/MethodHandle" ∧ y.cls ≠ "java/lang/invoke/VarHandle") ∧
  (∀ sig, parseMethodDescriptor y.desc = some sig → n = sig.parameters.length) ∧ (Cond.methodLink own index y).before args s = true ∧ (Cond.static y).before args s = true
theorem vx_cwSW {own : String} {index maxL mc ms : Nat} {y : MethodName} {bytes : ByteArray} {ret : Option FieldType} {hh : List (Nat × Nat × Nat × Nat)} {Ts ws ws' : List Cond} {rm : Room} (n : Nat) (ht : ∀ w ∈ Ts, w.before args s = true) (hT : GoodIn Ts (va_wsS own index y ws)) (hw : ws = Cond.codeWith y bytes maxL ret hh :: ws') (hrc : rm.cells = mc) (hrs : rm.slots = ms)
    (hd : y.cls ≠ "java/lang/invoke/MethodHandle" ∧ y.cls ≠ "java/lang/invoke/VarHandle" ∧ (parseMethodDescriptor y.desc).map (fun d => d.parameters.length) = some n) (hR : rm.frames + 1 ≤ R.frames ∧ 8 + (maxL + 11) + rm.locals ≤ R.locals) :
    vx_CSW R s args own index y bytes maxL ret hh ws rm mc ms n := by
  have ok : ∀ w ∈ va_wsS own index y ws, w.before args s = true := fun w h => ht w (hT w h).1
  have hG : GoodIn Ts ws := fun w h => hT w (by unfold va_wsS; exact List.mem_append_right _ h)
  have hc : Cond.codeWith y bytes maxL ret hh ∈ ws := by rw [hw]; exact List.mem_cons_self
  refine ⟨⟨hrc, hrs, hR.1, hR.2, pay_in ht hG, hc⟩, ht _ (hG _ hc).1, ok _ (by simp [va_wsS]), ⟨hd.1, hd.2.1⟩, fun sig h => ?_, ok _ (by simp [va_wsS]), ok _ (by simp [va_wsS])⟩
  have h2 := hd.2.2
  rw [h] at h2
  exact (Option.some.inj h2).symm
theorem vx_callSW (X : Stand p l e R s m args below meth c T locs cells slots) (hexec : p.tables.exec = Jvm.exec) {own : String} {index : Nat} {y : MethodName} {bytes : ByteArray} {maxL : Nat} {ret : Option FieldType} {hh : List (Nat × Nat × Nat × Nat)}
    (hown : s.vm.findClass own = some m.cls) (hlink : (Cond.methodLink own index y).before args s = true) (hstat : (Cond.static y).before args s = true) (hinit : (Cond.initialized y.cls).before args s = true)
    (hcode : (Cond.codeWith y bytes maxL ret hh).before args s = true) (hy : y.cls ≠ "java/lang/invoke/MethodHandle" ∧ y.cls ≠ "java/lang/invoke/VarHandle")
    {W9 : Nat} {Pre : Pt → Array Value → Prop} {Post : Pt → Array Value → Option Value → Pt → Prop} (hK : Back l R p e below s args y 3 W9 Pre Post)
    {g : JFrame} (hg : g.method = m) (hsize : g.locals.size = c.maxLocals) {argsL rest : List Value} (hlen : ∀ sig, parseMethodDescriptor y.desc = some sig → argsL.length = sig.parameters.length)
    (hstack : g.stack = argsL.reverse ++ rest) (hW : 2 * g.monitorRoom + (rest.map fun v => v.category).sum ≤ W9) (hdg : decode c.code g.pc = .ok (.invokestatic index, 3))
    (hpre : ∀ vm₁, s.WarmedH vm₁ → Pre ⟨T.setVm vm₁, locs, cells, slots⟩ argsL.toArray) :
    ∃ (v : Option Value) (vm₁ : Vm) (B : Pt), s.WarmedH vm₁ ∧ Stand p l e R s m args below meth c B.U B.locs B.cells B.slots ∧ Post ⟨T.setVm vm₁, locs, cells, slots⟩ argsL.toArray v B ∧
      ∀ target, Steps p.tables e below (B.U.setTop { g with pc := g.pc + 3, stack := v.toList ++ rest }) target → Steps p.tables e below (T.setTop g) target := by
  obtain ⟨mk, methM, cM, hnamed, hmethM, -, -, -, -, -, -, hsigM⟩ := Cond.codeWith_spec hcode
  have hstatic : methM.isStatic = true := Cond.static_spec hnamed hmethM hstat
  obtain ⟨kP, hkP, -⟩ := className_of_methodNamed hnamed
  have hinitP : kP.init = .initialized := Cond.initialized_spec (findClass_of_methodNamed hnamed) hkP hinit
  obtain ⟨vm₁, X₁, hstep₁⟩ := X.invokestatic hexec hown hlink hnamed hmethM hstatic hkP hinitP hy (g := g) hg (argsL := argsL) (rest := rest) (hlen _ hsigM) hstack hdg
  obtain ⟨v, B, X', hpost, hsteps⟩ := hK m meth c ⟨T.setVm vm₁, locs, cells, slots⟩ { g with stack := rest } (.invokestatic index) mk argsL.toArray X₁ hg hsize hdg hW (X₁.named hnamed) (hpre vm₁ X₁.warmed)
  exact ⟨v, vm₁, B, X₁.warmed, X', hpost, fun target h => hstep₁ _ fun acts => by rw [doInvoke_state]; exact hsteps.trans h⟩
theorem vx_runSW {y : MethodName} {bytes cc : ByteArray} {maxL nL mc ms n index : Nat} {ret : Option FieldType} {hh : List (Nat × Nat × Nat × Nat)} {ws : List Cond} {rm : Room} {Pc : Array Value → State → Prop} {Qc : Array Value → State → Outcome → State → Prop} {free : Addr → Prop} {Ts : List Cond} {own : String} {As rest : List Value} {g : JFrame}
    (S : CallFix p m c cc nL s args Ts own) (hM : Met l y ws rm Pc Qc mc ms free) (cw : vx_CSW R s args own index y bytes maxL ret hh ws rm mc ms n) (hp : PreS s H Pc As)
    (hg : g.method = m) (hn : As.length = n) (hsize : g.locals.size = nL) (hstack : g.stack = As.reverse ++ rest) (hW : 2 * g.monitorRoom + (rest.map fun v => v.category).sum ≤ 8) (hdg : decode cc g.pc = .ok (.invokestatic index, 3)) (hf : cells + mc ≤ R.cells ∧ slots + ms ≤ R.slots) :
    va_Run p l e R s m args below meth c H locs cells slots mc ms g rest (Qc As.toArray) (free) := by
  obtain ⟨⟨hrc, hrs, hfr, hlo, hws, hcw⟩, hcode, hini, hy, hlen, hl, hstt⟩ := cw
  have hK : Back l R p e below s args y 3 8 (PreOf R mc ms Pc) (PostOf Qc mc ms free) := va_backW (hh := hh) (bytes := bytes) (maxL := maxL) (ret := ret) hM hp.1 hrc hrs hfr hlo hws hcw (fun a' U hW => word_at hW (Or.inl (by first | rfl | simp [Cond.onTables, Cond.keeps, Cond.steady])) hini)
  obtain ⟨hx, hb, hml, ho, -⟩ := S
  intro T hT X
  obtain ⟨v, vm₁, ⟨U', l2, c2, s2⟩, hW₁, X', ⟨g', mk, t, L, e1, e2, hq, h1, hL, h2, h3⟩, st⟩ := vx_callSW X hx (hh := hh) (bytes := bytes) (maxL := maxL) (ret := ret) ho hl hstt hini hcode hy hK hg (hsize.trans hml.symm) (argsL := As) (rest := rest) (fun sig h => hn.trans (hlen sig h)) hstack hW (by rw [hb]; exact hdg)
    (fun vm₁ hW₁ => ⟨hf.1, hf.2, hp.2 (T.setVm vm₁) hT hW₁⟩)
  dsimp only [Pt.U, Pt.locs, Pt.cells, Pt.slots] at X' e1 e2 h1 h2 h3 st
  subst h1; subst h2; subst h3
  exact ⟨v, (T.setVm vm₁).calling g' mk As.toArray, t, U', L, hT, X', hL, e1, e2, hq, st⟩
/-- not caught here, past rows that name other classes: it goes on to the caller -/
theorem vx_outP {p : Program} {l : Launch} {e : Env} {R : Room} {s : State} {m : MethodId} {args : Array Value} {below : List Frame} {meth : Method} {c : Code} {H : Heap} {locs : List Loc} {cells slots : Nat} {free : Addr → Prop} {ls : Array Slot} {rest : List Value} {Qc : Array Value → State → Outcome → State → Prop} {XC : String → State → State → Prop}
    {pc : Nat} {own E : String} {ce : Cell} {q : Addr} {mc ms : Nat} (hown : s.vm.findClass own = some m.cls) (hlocks : meth.locks = false)
    (hpass : ∀ z ∈ c.exceptionTable.toList, covers z pc = false ∨ (z.catchType ≠ 0 ∧ ∃ nm : String, (Cond.classLink own z.catchType nm).before args s = true ∧ va_Nc E nm s)) (hcell : H[q]? = some ce) (hv : ce.vm = .none) (hcl : s.vm.findClass E = some ce.cls)
    (hx : ∀ t : State, t.heap = H → s.vm.Alike t.vm → XC E s t) (hf : ∀ z ∈ locs, free z.base) (hc : cells ≤ mc) (hs : slots ≤ ms) :
    vx_W p l e R s m args below meth c H locs cells slots (vx_MQ below Qc XC args s mc ms free) (F0 m pc ls rest) q := by
  intro T hT X
  have hpl : e.platform.magicAccessors = ({} : Platform).magicAccessors := by rw [X.admits.platform]
  obtain ⟨vm', hW', X', st⟩ := X.outThrough hlocks q (g := F0 m pc ls rest) rfl rfl rfl (cell := ce) (by rw [hT]; exact hcell) (by rw [hv]; rfl)
    (by obtain ⟨k9, h9, -⟩ := Vm.findClass_spec hcl; exact ⟨k9, h9⟩) (fun z hz => by
      rcases hpass z hz with h | ⟨hz0, nm, hl1, hn1⟩
      · exact Or.inl h
      · obtain ⟨c6, hc6, hcl6⟩ := Cond.classLink_spec hown hl1 e.platform hpl
        obtain ⟨a8, b8, h1, h2, h3⟩ := hn1
        cases Option.some.inj (h1.symm.trans hcl)
        cases Option.some.inj (h2.symm.trans hc6)
        exact Or.inr ⟨hz0, _, hcl6, h3⟩)
  obtain ⟨g₀, hfr⟩ := X'.frames_eq
  have hcell9 : ((T.setVm vm').setFrames (.throwing q :: below)).heap[q]? = some ce := by
    show T.heap[q]? = some ce
    rw [hT]; exact hcell
  have hend : Ended ((T.setVm vm').setFrames (.throwing q :: below)) below (.threw q) := State.frames_setFrames _ (State.cur_lt_of_frames hfr)
  refine ⟨(T.setVm vm').setFrames (.throwing q :: below), ?_, .threw q, X'.here.running, hend, Or.inr ⟨q, rfl, E, ce, locs, hx _ hT (X'.ends _).1.alike, hcell9, hv, hcl, (X'.ends _).1, (X'.ends _).2.mono hc hs, hf⟩⟩
  rw [X.pushThrowing_eq]
  exact st
/-- a thing of a world lies in the heap -/
theorem vx_lt {D : va_G} {cl : List vw_C} {ws : va_W} {H1 : Heap} (h : va_P D cl ws H1) {k : Nat} {q : Nat × va_E} (hk : ws[k]? = some q) : q.1 < H1.size := (h k q hk).lt
end VXS
/-! ===== END ===== -/
/-! ===== BEGIN methods with a table of their own: called by a name, returning or throwing ===== -/
section VXH
/-! vx_backW, vx_callVX, vx_callSX, vx_callVW, vx_runVW, vx_runVX, vx_runSX, vx_ofWH follow the same proofs as their sisters above (Free/Laws.lean, Shelf42/LK1.lean); vx_outP calls Shelf42/NT130.lean (outThrough). -/
section
variable {l : Launch} {R : Room} {p : Program} {e : Env} {below : List Frame} {s : State} {sargs : Array Value} {y : MethodName} {len W9 : Nat}
theorem vx_backW {ws : List Cond} {rm : Room} {Pc : Array Value → State → Prop} {Qc : Array Value → State → Outcome → State → Prop} {XC : String → State → State → Prop} {mc ms : Nat} {free : Addr → Prop} {bytes : ByteArray} {maxL : Nat} {ret : Option FieldType} {hh : List (Nat × Nat × Nat × Nat)}
    (hM : vx_Met l y ws rm Pc Qc XC mc ms free) (hblind : FrameBlind Pc) (hrc : rm.cells = mc) (hrs : rm.slots = ms)
    (hframes : rm.frames + 1 ≤ R.frames) (hlocals : W9 + (maxL + 11) + rm.locals ≤ R.locals)
    (hws : ∀ w ∈ ws, ∀ a' U, s.WarmedH U.vm → w.before a' U = true) (hcode : Cond.codeWith y bytes maxL ret hh ∈ ws) (hinit : ∀ a' U, s.WarmedH U.vm → (Cond.initialized y.cls).before a' U = true) :
    vx_Back l R p e below s sargs y len W9 (PreOf R mc ms Pc) (PostOf Qc mc ms free) (vx_Post XC mc ms free) := by
  intro m meth c A g ig mk a X hg hsize hdg hW hn hp
  have h1 : (headSpec ws rm).pre.before a A.U = true := atoms_intro fun w hw => hws w hw _ _ X.warmed
  have h2 : (Cond.codeWith y bytes maxL ret hh).before a A.U = true := hws _ hcode _ _ X.warmed
  have h3 : (Cond.initialized y.cls).before a A.U = true := hinit _ _ X.warmed
  have h4 : A.cells + (headSpec ws rm).room.cells ≤ R.cells := by rw [show (headSpec ws rm).room.cells = mc from hrc]; exact hp.1
  have h5 : A.slots + (headSpec ws rm).room.slots ≤ R.slots := by rw [show (headSpec ws rm).room.slots = ms from hrs]; exact hp.2.1
  have hPc : Pc a (A.U.calling g mk a) := hblind _ _ _ _ hp.2.2
  obtain ⟨U, Ls, c0, s0⟩ := A
  dsimp only [Pt.U, Pt.locs, Pt.cells, Pt.slots] at h1 h2 h3 h4 h5 X hn hPc ⊢
  obtain ⟨m9, methY, cY, hn9, hmY, hcY, -, hlY, -⟩ := Cond.codeWith_spec h2
  cases Option.some.inj (hn9.symm.trans hn)
  obtain ⟨kY, hkY, -⟩ := className_of_methodNamed hn
  have hinitY : kY.init = .initialized := Cond.initialized_spec (findClass_of_methodNamed hn) hkY h3
  have h : At U g.method c below := by rw [hg]; exact X.here
  have hlocals9 : W9 + (maxL + 11) + (headSpec ws rm).room.locals ≤ R.locals := hlocals
  have happ : (headSpec ws rm).appliesLoose y e.platform (U.calling g mk a) = true :=
    Spec.appliesLoose_calling (g := g) h hdg hn hkY hinitY
      (X.room_calling (g := g) (R' := (headSpec ws rm).room) hsize hmY hcY hframes (by rw [hlY]; omega) h4 h5) h1
  obtain ⟨mid, hmid⟩ := h.above
  have hfr : (U.setTop g).frames = (.java g :: mid) ++ below := by rw [State.frames_setTop' g h.top, hmid]; rfl
  obtain ⟨o, s₂, hsteps, -, hend, hq⟩ := Steps.callFree hM p X.admits X.cas X.clock (acts := []) hfr happ hPc trivial
  have hq' : vx_Q Qc XC mc ms free a (U.calling g mk a) o s₂ := hq
  rw [State.frames_setTop' g h.top] at hend
  obtain ⟨g₀, hg0⟩ := Option.isSome_iff_exists.mp h.top
  obtain ⟨r, hr⟩ := State.topJava?_eq_some.mp hg0
  have hr' : (({ U with heap := s₂.heap, slotsUsed := s₂.slotsUsed } : State).setVm s₂.vm).frames = .java g₀ :: r := hr
  rcases hq' with ⟨hqc, L, hfe, hL⟩ | ⟨q, rfl, E, ce, L, hx, hce, hcv, hcl, hW₂, hsm, hL⟩
  · obtain ⟨⟨v, rfl⟩, hW₂, e2, q2, q3, q4, q5, q6⟩ := id hfe
    have e3 : s₂ = ({ (U.calling g mk a).setFrames s₂.frames with heap := s₂.heap, slotsUsed := s₂.slotsUsed } : State).setVm s₂.vm := by
      have : s₂ = ({ s₂ with vm := (U.calling g mk a).vm } : State).setVm s₂.vm := rfl
      rw [e2] at this
      exact this
    obtain ⟨c₂, i₂, len₂, hc₂, hd₂, hf₂⟩ := hend
    have hW' : U.WarmedH s₂.vm := hW₂
    have hcc : c₂ = c := by
      have h1 : s₂.code? g.method = U.code? g.method := by
        rw [State.code?_eq, State.code?_eq, hW'.alike.method?]
      exact Option.some.inj (hc₂.symm.trans (h1.trans h.code))
    subst hcc
    have hlen : len₂ = len := by rw [hdg] at hd₂; cases hd₂; rfl
    subst hlen
    have hs₂ : s₂ = (({ U with heap := s₂.heap, slotsUsed := s₂.slotsUsed } : State).setVm s₂.vm).setTop { g with pc := g.pc + len₂, stack := v.toList ++ g.stack } := by
      refine e3.trans ?_
      rw [hf₂, State.calling_eq h.top, State.setFrames_setFrames, State.setTop_of_frames _ hr', hr]
      rfl
    have hsame : U.sameButNew ({ U with heap := s₂.heap, slotsUsed := s₂.slotsUsed } : State) L mc ms := by
      refine ⟨?_, q2, q3, q4, q5, q6⟩
      obtain ⟨t, ht, -⟩ := State.frames_cons hr
      show ({ U with heap := s₂.heap, slotsUsed := s₂.slotsUsed } : State) = { U.setFrames U.frames with heap := s₂.heap, slotsUsed := s₂.slotsUsed }
      rw [State.setFrames_self ht]
    subst hg
    refine Or.inl ⟨v, ⟨(({ U with heap := s₂.heap, slotsUsed := s₂.slotsUsed } : State).setVm s₂.vm), Ls ++ L, c0 + mc, s0 + ms⟩,
      ⟨X.admits, X.cas, X.clock, X.frames, X.room, X.hears, X.method, X.code, (X.here.setHeapUsed s₂.heap s₂.slotsUsed).setVm hW'.alike, X.tail, State.WarmedH.trans X.warmed hW', X.limits, X.bytes, X.same.trans (hsame.setVm s.vm)⟩,
      ⟨g, mk, s₂, L, rfl, rfl, hqc, rfl, hL, rfl, rfl⟩, ?_⟩
    show Steps p.tables e below _ ((({ U with heap := s₂.heap, slotsUsed := s₂.slotsUsed } : State).setVm s₂.vm).setTop { g with pc := g.pc + len₂, stack := v.toList ++ g.stack })
    rw [← hs₂]
    exact hsteps
  · obtain ⟨e2, q2, q3, q4, q5, q6⟩ := id hsm
    have e3 : s₂ = ({ (U.calling g mk a).setFrames s₂.frames with heap := s₂.heap, slotsUsed := s₂.slotsUsed } : State).setVm s₂.vm := by
      have : s₂ = ({ s₂ with vm := (U.calling g mk a).vm } : State).setVm s₂.vm := rfl
      rw [e2] at this
      exact this
    have hf₂ : s₂.frames = .throwing q :: .java g :: U.frames.tail := hend
    have hW' : U.WarmedH s₂.vm := hW₂
    have hs₂ : s₂ = ((({ U with heap := s₂.heap, slotsUsed := s₂.slotsUsed } : State).setVm s₂.vm).setTop g).pushFrame (.throwing q) := by
      refine e3.trans ?_
      rw [hf₂, State.calling_eq h.top, State.setFrames_setFrames, State.pushFrame, State.frames_setTop _ hr', State.setTop_of_frames _ hr', State.setFrames_setFrames, hr]
      rfl
    have hsame : U.sameButNew ({ U with heap := s₂.heap, slotsUsed := s₂.slotsUsed } : State) L mc ms := by
      refine ⟨?_, q2, q3, q4, q5, q6⟩
      obtain ⟨t, ht, -⟩ := State.frames_cons hr
      show ({ U with heap := s₂.heap, slotsUsed := s₂.slotsUsed } : State) = { U.setFrames U.frames with heap := s₂.heap, slotsUsed := s₂.slotsUsed }
      rw [State.setFrames_self ht]
    subst hg
    refine Or.inr ⟨q, ⟨(({ U with heap := s₂.heap, slotsUsed := s₂.slotsUsed } : State).setVm s₂.vm), Ls ++ L, c0 + mc, s0 + ms⟩,
      ⟨X.admits, X.cas, X.clock, X.frames, X.room, X.hears, X.method, X.code, (X.here.setHeapUsed s₂.heap s₂.slotsUsed).setVm hW'.alike, X.tail, State.WarmedH.trans X.warmed hW', X.limits, X.bytes, X.same.trans (hsame.setVm s.vm)⟩,
      ⟨g, mk, s₂, L, E, ce, rfl, rfl, hx, hce, hcv, hcl, rfl, hL, rfl, rfl⟩, ?_⟩
    show Steps p.tables e below _ (((({ U with heap := s₂.heap, slotsUsed := s₂.slotsUsed } : State).setVm s₂.vm).setTop g).pushFrame (.throwing q))
    rw [← hs₂]
    exact hsteps
end
variable {p : Program} {l : Launch} {e : Env} {R : Room} {s : State} {m : MethodId} {args : Array Value} {below : List Frame} {meth : Method} {c : Code} {T : State} {H : Heap} {locs : List Loc} {cells slots : Nat}
theorem vx_callVX (X : Stand p l e R s m args below meth c T locs cells slots) (hexec : p.tables.exec = Jvm.exec) {own C : String} {index : Nat} {y : MethodName} {bytes : ByteArray} {maxL : Nat} {ret : Option FieldType} {hh : List (Nat × Nat × Nat × Nat)}
    (hown : s.vm.findClass own = some m.cls) (hlink : (Cond.methodLink own index y).before args s = true) (hinst : (Cond.instanceMethod y).before args s = true) (hsel : (Cond.selects C y y).before args s = true)
    (hcode : (Cond.codeWith y bytes maxL ret hh).before args s = true) (hy : y.cls ≠ "java/lang/invoke/MethodHandle" ∧ y.cls ≠ "java/lang/invoke/VarHandle")
    {W9 : Nat} {Pre : Pt → Array Value → Prop} {Post : Pt → Array Value → Option Value → Pt → Prop} {PostX : Pt → Array Value → Addr → Pt → Prop} (hK : vx_Back l R p e below s args y 3 W9 Pre Post PostX)
    {b : Addr} {cellB : Cell} (hcell : T.heap[b]? = some cellB) (hobj : cellB.vm.isStatics = false) (hcls : s.vm.findClass C = some cellB.cls)
    {g : JFrame} (hg : g.method = m) (hsize : g.locals.size = c.maxLocals) {argsL rest : List Value} (hlen : ∀ sig, parseMethodDescriptor y.desc = some sig → argsL.length = sig.parameters.length)
    (hstack : g.stack = argsL.reverse ++ .ref b :: rest) (hW : 2 * g.monitorRoom + (rest.map fun v => v.category).sum ≤ W9) (hdg : decode c.code g.pc = .ok (.invokevirtual index, 3))
    (hpre : ∀ vm₁, s.WarmedH vm₁ → Pre ⟨T.setVm vm₁, locs, cells, slots⟩ (Value.ref b :: argsL).toArray) :
    (∃ (v : Option Value) (vm₁ : Vm) (B : Pt), s.WarmedH vm₁ ∧ Stand p l e R s m args below meth c B.U B.locs B.cells B.slots ∧ Post ⟨T.setVm vm₁, locs, cells, slots⟩ (Value.ref b :: argsL).toArray v B ∧
      ∀ target, Steps p.tables e below (B.U.setTop { g with pc := g.pc + 3, stack := v.toList ++ rest }) target → Steps p.tables e below (T.setTop g) target) ∨
    (∃ (q : Addr) (vm₁ : Vm) (B : Pt), s.WarmedH vm₁ ∧ Stand p l e R s m args below meth c B.U B.locs B.cells B.slots ∧ PostX ⟨T.setVm vm₁, locs, cells, slots⟩ (Value.ref b :: argsL).toArray q B ∧
      Steps p.tables e below (T.setTop g) ((B.U.setTop { g with stack := rest }).pushFrame (.throwing q))) := by
  obtain ⟨mk, methM, hnamed, hmethM, hstM, habM⟩ := Cond.instanceMethod_spec hinst
  obtain ⟨m8, methM', cM, hn8, hmethM', -, -, -, -, -, -, hsigM⟩ := Cond.codeWith_spec hcode
  cases Option.some.inj (hn8.symm.trans hnamed)
  cases hmethM.symm.trans hmethM'
  obtain ⟨c2, r2, m2, q1, q2, q3, q4, kP, hkP, hkPi⟩ := Cond.selects_spec hsel
  cases hcls.symm.trans q1
  cases (State.methodFound?_of_named hnamed hy).symm.trans q2
  cases hnamed.symm.trans q3
  have hselP : selectMethod e.platform s.vm cellB.cls mk = .method mk := by rw [Launch.admits_selectMethod X.admits]; exact q4
  obtain ⟨vm₁, X₁, hstep₁⟩ := X.invokevirtual hexec hown hlink hnamed hmethM hstM hkP hkPi hy (a := b) (cell := cellB) hcell
    (fun z h => by rw [h] at hobj; cases hobj) hselP hmethM habM hkP hkPi (g := g) hg (argsL := argsL) (rest := rest) (hlen _ hsigM) hstack hdg
  rcases hK m meth c ⟨T.setVm vm₁, locs, cells, slots⟩ { g with stack := rest } (.invokevirtual index) mk (Value.ref b :: argsL).toArray X₁ hg hsize hdg hW (X₁.named hnamed) (hpre vm₁ X₁.warmed) with ⟨v, B, X', hpost, hsteps⟩ | ⟨q, B, X', hpost, hsteps⟩
  · exact Or.inl ⟨v, vm₁, B, X₁.warmed, X', hpost, fun target h => hstep₁ _ fun acts => by rw [doInvoke_state]; exact hsteps.trans h⟩
  · exact Or.inr ⟨q, vm₁, B, X₁.warmed, X', hpost, hstep₁ _ fun acts => by rw [doInvoke_state]; exact hsteps⟩
theorem vx_callSX (X : Stand p l e R s m args below meth c T locs cells slots) (hexec : p.tables.exec = Jvm.exec) {own : String} {index : Nat} {y : MethodName} {bytes : ByteArray} {maxL : Nat} {ret : Option FieldType} {hh : List (Nat × Nat × Nat × Nat)}
    (hown : s.vm.findClass own = some m.cls) (hlink : (Cond.methodLink own index y).before args s = true) (hstat : (Cond.static y).before args s = true) (hinit : (Cond.initialized y.cls).before args s = true)
    (hcode : (Cond.codeWith y bytes maxL ret hh).before args s = true) (hy : y.cls ≠ "java/lang/invoke/MethodHandle" ∧ y.cls ≠ "java/lang/invoke/VarHandle")
    {W9 : Nat} {Pre : Pt → Array Value → Prop} {Post : Pt → Array Value → Option Value → Pt → Prop} {PostX : Pt → Array Value → Addr → Pt → Prop} (hK : vx_Back l R p e below s args y 3 W9 Pre Post PostX)
    {g : JFrame} (hg : g.method = m) (hsize : g.locals.size = c.maxLocals) {argsL rest : List Value} (hlen : ∀ sig, parseMethodDescriptor y.desc = some sig → argsL.length = sig.parameters.length)
    (hstack : g.stack = argsL.reverse ++ rest) (hW : 2 * g.monitorRoom + (rest.map fun v => v.category).sum ≤ W9) (hdg : decode c.code g.pc = .ok (.invokestatic index, 3))
    (hpre : ∀ vm₁, s.WarmedH vm₁ → Pre ⟨T.setVm vm₁, locs, cells, slots⟩ argsL.toArray) :
    (∃ (v : Option Value) (vm₁ : Vm) (B : Pt), s.WarmedH vm₁ ∧ Stand p l e R s m args below meth c B.U B.locs B.cells B.slots ∧ Post ⟨T.setVm vm₁, locs, cells, slots⟩ argsL.toArray v B ∧
      ∀ target, Steps p.tables e below (B.U.setTop { g with pc := g.pc + 3, stack := v.toList ++ rest }) target → Steps p.tables e below (T.setTop g) target) ∨
    (∃ (q : Addr) (vm₁ : Vm) (B : Pt), s.WarmedH vm₁ ∧ Stand p l e R s m args below meth c B.U B.locs B.cells B.slots ∧ PostX ⟨T.setVm vm₁, locs, cells, slots⟩ argsL.toArray q B ∧
      Steps p.tables e below (T.setTop g) ((B.U.setTop { g with stack := rest }).pushFrame (.throwing q))) := by
  obtain ⟨mk, methM, cM, hnamed, hmethM, -, -, -, -, -, -, hsigM⟩ := Cond.codeWith_spec hcode
  have hstatic : methM.isStatic = true := Cond.static_spec hnamed hmethM hstat
  obtain ⟨kP, hkP, -⟩ := className_of_methodNamed hnamed
  have hinitP : kP.init = .initialized := Cond.initialized_spec (findClass_of_methodNamed hnamed) hkP hinit
  obtain ⟨vm₁, X₁, hstep₁⟩ := X.invokestatic hexec hown hlink hnamed hmethM hstatic hkP hinitP hy (g := g) hg (argsL := argsL) (rest := rest) (hlen _ hsigM) hstack hdg
  rcases hK m meth c ⟨T.setVm vm₁, locs, cells, slots⟩ { g with stack := rest } (.invokestatic index) mk argsL.toArray X₁ hg hsize hdg hW (X₁.named hnamed) (hpre vm₁ X₁.warmed) with ⟨v, B, X', hpost, hsteps⟩ | ⟨q, B, X', hpost, hsteps⟩
  · exact Or.inl ⟨v, vm₁, B, X₁.warmed, X', hpost, fun target h => hstep₁ _ fun acts => by rw [doInvoke_state]; exact hsteps.trans h⟩
  · exact Or.inr ⟨q, vm₁, B, X₁.warmed, X', hpost, hstep₁ _ fun acts => by rw [doInvoke_state]; exact hsteps⟩
theorem vx_callVW (X : Stand p l e R s m args below meth c T locs cells slots) (hexec : p.tables.exec = Jvm.exec) {own C : String} {index : Nat} {y : MethodName} {bytes : ByteArray} {maxL : Nat} {ret : Option FieldType} {hh : List (Nat × Nat × Nat × Nat)}
    (hown : s.vm.findClass own = some m.cls) (hlink : (Cond.methodLink own index y).before args s = true) (hinst : (Cond.instanceMethod y).before args s = true) (hsel : (Cond.selects C y y).before args s = true)
    (hcode : (Cond.codeWith y bytes maxL ret hh).before args s = true) (hy : y.cls ≠ "java/lang/invoke/MethodHandle" ∧ y.cls ≠ "java/lang/invoke/VarHandle")
    {W9 : Nat} {Pre : Pt → Array Value → Prop} {Post : Pt → Array Value → Option Value → Pt → Prop} (hK : Back l R p e below s args y 3 W9 Pre Post)
    {b : Addr} {cellB : Cell} (hcell : T.heap[b]? = some cellB) (hobj : cellB.vm.isStatics = false) (hcls : s.vm.findClass C = some cellB.cls)
    {g : JFrame} (hg : g.method = m) (hsize : g.locals.size = c.maxLocals) {argsL rest : List Value} (hlen : ∀ sig, parseMethodDescriptor y.desc = some sig → argsL.length = sig.parameters.length)
    (hstack : g.stack = argsL.reverse ++ .ref b :: rest) (hW : 2 * g.monitorRoom + (rest.map fun v => v.category).sum ≤ W9) (hdg : decode c.code g.pc = .ok (.invokevirtual index, 3))
    (hpre : ∀ vm₁, s.WarmedH vm₁ → Pre ⟨T.setVm vm₁, locs, cells, slots⟩ (Value.ref b :: argsL).toArray) :
    ∃ (v : Option Value) (vm₁ : Vm) (B : Pt), s.WarmedH vm₁ ∧ Stand p l e R s m args below meth c B.U B.locs B.cells B.slots ∧ Post ⟨T.setVm vm₁, locs, cells, slots⟩ (Value.ref b :: argsL).toArray v B ∧
      ∀ target, Steps p.tables e below (B.U.setTop { g with pc := g.pc + 3, stack := v.toList ++ rest }) target → Steps p.tables e below (T.setTop g) target := by
  obtain ⟨mk, methM, hnamed, hmethM, hstM, habM⟩ := Cond.instanceMethod_spec hinst
  obtain ⟨m8, methM', cM, hn8, hmethM', -, -, -, -, -, -, hsigM⟩ := Cond.codeWith_spec hcode
  cases Option.some.inj (hn8.symm.trans hnamed)
  cases hmethM.symm.trans hmethM'
  obtain ⟨c2, r2, m2, q1, q2, q3, q4, kP, hkP, hkPi⟩ := Cond.selects_spec hsel
  cases hcls.symm.trans q1
  cases (State.methodFound?_of_named hnamed hy).symm.trans q2
  cases hnamed.symm.trans q3
  have hselP : selectMethod e.platform s.vm cellB.cls mk = .method mk := by rw [Launch.admits_selectMethod X.admits]; exact q4
  obtain ⟨vm₁, X₁, hstep₁⟩ := X.invokevirtual hexec hown hlink hnamed hmethM hstM hkP hkPi hy (a := b) (cell := cellB) hcell
    (fun z h => by rw [h] at hobj; cases hobj) hselP hmethM habM hkP hkPi (g := g) hg (argsL := argsL) (rest := rest) (hlen _ hsigM) hstack hdg
  obtain ⟨v, B, X', hpost, hsteps⟩ := hK m meth c ⟨T.setVm vm₁, locs, cells, slots⟩ { g with stack := rest } (.invokevirtual index) mk (Value.ref b :: argsL).toArray X₁ hg hsize hdg hW (X₁.named hnamed) (hpre vm₁ X₁.warmed)
  exact ⟨v, vm₁, B, X₁.warmed, X', hpost, fun target h => hstep₁ _ fun acts => by rw [doInvoke_state]; exact hsteps.trans h⟩
abbrev vx_CVW (R : Room) (s : State) (args : Array Value) (own C : String) (index : Nat) (y : MethodName) (bytes : ByteArray) (maxL : Nat) (ret : Option FieldType) (hh : List (Nat × Nat × Nat × Nat)) (ws : List Cond) (rm : Room) (mc ms n : Nat) : Prop :=
  (rm.cells = mc ∧ rm.slots = ms ∧ rm.frames + 1 ≤ R.frames ∧ 8 + (maxL + 11) + rm.locals ≤ R.locals ∧ (∀ w ∈ ws, ∀ (a' : Array Value) (U : State), s.WarmedH U.vm → w.before a' U = true) ∧ Cond.codeWith y bytes maxL ret hh ∈ ws) ∧
  (Cond.codeWith y bytes maxL ret hh).before args s = true ∧ (Cond.initialized y.cls).before args s = true ∧ (y.cls ≠ "java/lang/invoke/MethodHandle" ∧ y.cls ≠ "java/lang/invoke/VarHandle") ∧
  (∀ sig, parseMethodDescriptor y.desc = some sig → n = sig.parameters.length) ∧ (Cond.methodLink own index y).before args s = true ∧ (Cond.instanceMethod y).before args s = true ∧ (Cond.selects C y y).before args s = true
theorem vx_cwVW {own C : String} {index maxL mc ms : Nat} {y : MethodName} {bytes : ByteArray} {ret : Option FieldType} {hh : List (Nat × Nat × Nat × Nat)} {Ts ws ws' : List Cond} {rm : Room} (n : Nat) (ht : ∀ w ∈ Ts, w.before args s = true) (hT : GoodIn Ts (wsV own index C y ws)) (hw : ws = Cond.codeWith y bytes maxL ret hh :: ws') (hrc : rm.cells = mc) (hrs : rm.slots = ms)
    (hd : y.cls = C ∧ y.cls ≠ "java/lang/invoke/MethodHandle" ∧ y.cls ≠ "java/lang/invoke/VarHandle" ∧ (parseMethodDescriptor y.desc).map (fun d => d.parameters.length) = some n) (hR : rm.frames + 1 ≤ R.frames ∧ 8 + (maxL + 11) + rm.locals ≤ R.locals) :
    vx_CVW R s args own C index y bytes maxL ret hh ws rm mc ms n := by
  obtain ⟨hC, hd⟩ := hd
  subst hC
  have ok : ∀ w ∈ wsV own index y.cls y ws, w.before args s = true := fun w h => ht w (hT w h).1
  have hG : GoodIn Ts ws := fun w h => hT w (by unfold wsV; exact List.mem_append_right _ h)
  have hc : Cond.codeWith y bytes maxL ret hh ∈ ws := by rw [hw]; exact List.mem_cons_self
  refine ⟨⟨hrc, hrs, hR.1, hR.2, pay_in ht hG, hc⟩, ht _ (hG _ hc).1, ok _ (by simp [wsV]), ⟨hd.1, hd.2.1⟩, fun sig h => ?_, ok _ (by simp [wsV]), ok _ (by simp [wsV]), ok _ (by simp [wsV])⟩
  have h2 := hd.2.2
  rw [h] at h2
  exact (Option.some.inj h2).symm
theorem vx_runVW {y : MethodName} {bytes cc : ByteArray} {maxL nL mc ms n index : Nat} {ret : Option FieldType} {hh : List (Nat × Nat × Nat × Nat)} {ws : List Cond} {rm : Room} {Pc : Array Value → State → Prop} {Qc : Array Value → State → Outcome → State → Prop} {free : Addr → Prop} {Ts : List Cond} {own C : String} {b : Addr} {As rest : List Value} {g : JFrame}
    (S : CallFix p m c cc nL s args Ts own) (hM : Met l y ws rm Pc Qc mc ms free) (cw : vx_CVW R s args own C index y bytes maxL ret hh ws rm mc ms n) (hp : PreV s H C b Pc As)
    (hg : g.method = m) (hn : As.length = n) (hsize : g.locals.size = nL) (hstack : g.stack = As.reverse ++ .ref b :: rest) (hW : 2 * g.monitorRoom + (rest.map fun v => v.category).sum ≤ 8) (hdg : decode cc g.pc = .ok (.invokevirtual index, 3)) (hf : cells + mc ≤ R.cells ∧ slots + ms ≤ R.slots) :
    va_Run p l e R s m args below meth c H locs cells slots mc ms g rest (Qc (Value.ref b :: As).toArray) free := by
  obtain ⟨⟨hrc, hrs, hfr, hlo, hws, hcw⟩, hcode, hini, hy, hlen, hl, hin, hse⟩ := cw
  have hK : Back l R p e below s args y 3 8 (PreOf R mc ms Pc) (PostOf Qc mc ms free) := va_backW (hh := hh) (bytes := bytes) (maxL := maxL) (ret := ret) hM hp.1 hrc hrs hfr hlo hws hcw (fun a' U hW => word_at hW (Or.inl (by first | rfl | simp [Cond.onTables, Cond.keeps, Cond.steady])) hini)
  obtain ⟨hx, hb, hml, ho, -⟩ := S
  obtain ⟨-, ⟨cellB, hcB, hoB, hclB⟩, hPc⟩ := hp
  intro T hT X
  obtain ⟨v, vm₁, ⟨U', l2, c2, s2⟩, hW₁, X', ⟨g', mk, t, L, e1, e2, hq, h1, hL, h2, h3⟩, st⟩ := vx_callVW X hx (C := C) (hh := hh) (bytes := bytes) (maxL := maxL) (ret := ret) ho hl hin hse hcode hy hK (by rw [hT]; exact hcB) hoB hclB hg (hsize.trans hml.symm) (argsL := As) (rest := rest) (fun sig h => hn.trans (hlen sig h)) hstack hW (by rw [hb]; exact hdg)
    (fun vm₁ hW₁ => ⟨hf.1, hf.2, hPc (T.setVm vm₁) hT hW₁⟩)
  dsimp only [Pt.U, Pt.locs, Pt.cells, Pt.slots] at X' e1 e2 h1 h2 h3 st
  subst h1; subst h2; subst h3
  exact ⟨v, (T.setVm vm₁).calling g' mk (Value.ref b :: As).toArray, t, U', L, hT, X', hL, e1, e2, hq, st⟩
section
variable {y : MethodName} {bytes cc : ByteArray} {maxL nL mc ms n index : Nat} {ret : Option FieldType} {ws : List Cond} {rm : Room} {Pc : Array Value → State → Prop} {Qc : Array Value → State → Outcome → State → Prop} {XC : String → State → State → Prop} {free : Addr → Prop} {Ts : List Cond} {own C : String} {b : Addr} {As rest : List Value} {g : JFrame}
theorem vx_runVX {hh : List (Nat × Nat × Nat × Nat)} (S : CallFix p m c cc nL s args Ts own) (hM : vx_Met l y ws rm Pc Qc XC mc ms free) (cw : vx_CVW R s args own C index y bytes maxL ret hh ws rm mc ms n) (hp : PreV s H C b Pc As)
    (hg : g.method = m) (hn : As.length = n) (hsize : g.locals.size = nL) (hstack : g.stack = As.reverse ++ .ref b :: rest) (hW : 2 * g.monitorRoom + (rest.map fun v => v.category).sum ≤ 8) (hdg : decode cc g.pc = .ok (.invokevirtual index, 3)) (hf : cells + mc ≤ R.cells ∧ slots + ms ≤ R.slots) :
    vx_Run p l e R s m args below meth c H locs cells slots mc ms g rest (Qc (Value.ref b :: As).toArray) XC free := by
  obtain ⟨⟨hrc, hrs, hfr, hlo, hws, hcw⟩, hcode, hini, hy, hlen, hl, hin, hse⟩ := cw
  have hK : vx_Back l R p e below s args y 3 8 (PreOf R mc ms Pc) (PostOf Qc mc ms free) (vx_Post XC mc ms free) := vx_backW (hh := hh) (bytes := bytes) (maxL := maxL) (ret := ret) hM hp.1 hrc hrs hfr hlo hws hcw (fun a' U hW => word_at hW (Or.inl (by first | rfl | simp [Cond.onTables, Cond.keeps, Cond.steady])) hini)
  obtain ⟨hx, hb, hml, ho, -⟩ := S
  obtain ⟨-, ⟨cellB, hcB, hoB, hclB⟩, hPc⟩ := hp
  intro T hT X
  rcases vx_callVX X hx (C := C) (hh := hh) (bytes := bytes) (maxL := maxL) (ret := ret) ho hl hin hse hcode hy hK (by rw [hT]; exact hcB) hoB hclB hg (hsize.trans hml.symm) (argsL := As) (rest := rest) (fun sig h => hn.trans (hlen sig h)) hstack hW (by rw [hb]; exact hdg)
    (fun vm₁ hW₁ => ⟨hf.1, hf.2, hPc (T.setVm vm₁) hT hW₁⟩) with ⟨v, vm₁, ⟨U', l2, c2, s2⟩, hW₁, X', ⟨g', mk, t, L, e1, e2, hq, h1, hL, h2, h3⟩, st⟩ | ⟨q, vm₁, ⟨U', l2, c2, s2⟩, hW₁, X', ⟨g', mk, t, L, E, ce, e1, e2, hq, hce, hcv, hcl, h1, hL, h2, h3⟩, st⟩
  · dsimp only [Pt.U, Pt.locs, Pt.cells, Pt.slots] at X' e1 e2 h1 h2 h3 st
    subst h1; subst h2; subst h3
    exact Or.inl ⟨v, (T.setVm vm₁).calling g' mk (Value.ref b :: As).toArray, t, U', L, hT, X', hL, e1, e2, hq, st⟩
  · dsimp only [Pt.U, Pt.locs, Pt.cells, Pt.slots] at X' e1 e2 h1 h2 h3 st hcl
    subst h1; subst h2; subst h3
    exact Or.inr ⟨q, (T.setVm vm₁).calling g' mk (Value.ref b :: As).toArray, t, U', L, E, ce, hT, X', hL, e1, e2, hq, hce, hcv, vx_cls hW₁ hcl, st⟩
theorem vx_runSX {hh : List (Nat × Nat × Nat × Nat)} (S : CallFix p m c cc nL s args Ts own) (hM : vx_Met l y ws rm Pc Qc XC mc ms free) (cw : vx_CSW R s args own index y bytes maxL ret hh ws rm mc ms n) (hp : PreS s H Pc As)
    (hg : g.method = m) (hn : As.length = n) (hsize : g.locals.size = nL) (hstack : g.stack = As.reverse ++ rest) (hW : 2 * g.monitorRoom + (rest.map fun v => v.category).sum ≤ 8) (hdg : decode cc g.pc = .ok (.invokestatic index, 3)) (hf : cells + mc ≤ R.cells ∧ slots + ms ≤ R.slots) :
    vx_Run p l e R s m args below meth c H locs cells slots mc ms g rest (Qc As.toArray) XC free := by
  obtain ⟨⟨hrc, hrs, hfr, hlo, hws, hcw⟩, hcode, hini, hy, hlen, hl, hstt⟩ := cw
  have hK : vx_Back l R p e below s args y 3 8 (PreOf R mc ms Pc) (PostOf Qc mc ms free) (vx_Post XC mc ms free) := vx_backW (hh := hh) (bytes := bytes) (maxL := maxL) (ret := ret) hM hp.1 hrc hrs hfr hlo hws hcw (fun a' U hW => word_at hW (Or.inl (by first | rfl | simp [Cond.onTables, Cond.keeps, Cond.steady])) hini)
  obtain ⟨hx, hb, hml, ho, -⟩ := S
  intro T hT X
  rcases vx_callSX X hx (hh := hh) (bytes := bytes) (maxL := maxL) (ret := ret) ho hl hstt hini hcode hy hK hg (hsize.trans hml.symm) (argsL := As) (rest := rest) (fun sig h => hn.trans (hlen sig h)) hstack hW (by rw [hb]; exact hdg)
    (fun vm₁ hW₁ => ⟨hf.1, hf.2, hp.2 (T.setVm vm₁) hT hW₁⟩) with ⟨v, vm₁, ⟨U', l2, c2, s2⟩, hW₁, X', ⟨g', mk, t, L, e1, e2, hq, h1, hL, h2, h3⟩, st⟩ | ⟨q, vm₁, ⟨U', l2, c2, s2⟩, hW₁, X', ⟨g', mk, t, L, E, ce, e1, e2, hq, hce, hcv, hcl, h1, hL, h2, h3⟩, st⟩
  · dsimp only [Pt.U, Pt.locs, Pt.cells, Pt.slots] at X' e1 e2 h1 h2 h3 st
    subst h1; subst h2; subst h3
    exact Or.inl ⟨v, (T.setVm vm₁).calling g' mk As.toArray, t, U', L, hT, X', hL, e1, e2, hq, st⟩
  · dsimp only [Pt.U, Pt.locs, Pt.cells, Pt.slots] at X' e1 e2 h1 h2 h3 st hcl
    subst h1; subst h2; subst h3
    exact Or.inr ⟨q, (T.setVm vm₁).calling g' mk As.toArray, t, U', L, E, ce, hT, X', hL, e1, e2, hq, hce, hcv, vx_cls hW₁ hcl, st⟩
end
end VXH
theorem vx_ofWH {l : Launch} {y : MethodName} {ws ws' : List Cond} {rm : Room} {Pc : Array Value → State → Prop} {Qc : Array Value → State → Outcome → State → Prop} {XC : String → State → State → Prop} {mc ms : Nat} {free : Addr → Prop} {cc : ByteArray} {maxL : Nat} {ret : Option FieldType} {hh : List (Nat × Nat × Nat × Nat)}
    (hy : plainName y.cls = true) (hw : ws = Cond.codeWith y cc maxL ret hh :: ws')
    (body : ∀ p e s m args below meth c s₁, BodyLoose p l y (headSpec ws rm) cc maxL ret e s m args below meth c s₁ → c.maxLocals = maxL → Pc args s →
      W p l e (headSpec ws rm).room s m args below meth c s.heap [] 0 0 (vx_MQ below Qc XC args s mc ms free) (entryFrame m args maxL)) : vx_Met l y ws rm Pc Qc XC mc ms free := by
  refine MetFree.of_bodyS (code := cc) (maxLocals := maxL) (ret := ret) hy ?_ ?_
  · intro args s m h hn
    obtain ⟨m9, meth, c, hn9, h1, h2, h3, h4, -, h5, h6, -⟩ := Cond.codeWith_spec (atoms_spec (ws := ws) h _ (by rw [hw]; exact List.mem_cons_self))
    cases hn.symm.trans hn9
    exact ⟨meth, c, h1, h2, h3, h4, h5, h6⟩
  · intro p e s m args below meth c s₁ B hml hP _
    have hh0 : s₁.heap = s.heap := by rw [B.state]; rfl
    obtain ⟨t, a1, o, b1, b2, b3⟩ := body p e s m args below meth c s₁ B hml hP s₁ hh0 (Stand.of_body B)
    exact ⟨t, o, a1, b1, b2, b3⟩
/-! ===== END ===== -/
end
section
def RX0 : String := "PledgeHouse$Ledger"
def TX0 : u_T := fun k => match k with
  | 0 => ("PledgeHouse$Ledger", "prices", "[I", true)
  | 1 => ("PledgeHouse$Ledger", "cuts", "[I", true)
  | 2 => ("PledgeHouse$Ledger", "soldPieces", "[I", true)
  | 3 => ("PledgeHouse$Ledger", "pieces", "[I", true)
  | 4 => ("PledgeHouse$Ledger", "coins", "[I", true)
  | 5 => ("PledgeHouse$Ledger", "debts", "[I", true)
  | 6 => ("PledgeHouse$Ledger", "callHours", "[I", true)
  | 7 => ("PledgeHouse$Ledger", "barred", "[Z", true)
  | 8 => ("PledgeHouse$Ledger", "interestRate", "I", false)
  | 9 => ("PledgeHouse$Ledger", "graceHours", "I", false)
  | 10 => ("PledgeHouse$Ledger", "slipPercent", "I", false)
  | 11 => ("PledgeHouse$Ledger", "salesOrder", "I", false)
  | 12 => ("PledgeHouse$Ledger", "passedHours", "I", false)
  | 13 => ("PledgeHouse$Ledger", "lentCoins", "I", false)
  | 14 => ("PledgeHouse$Ledger", "interestCoins", "I", false)
  | 15 => ("PledgeHouse$Ledger", "repaidCoins", "I", false)
  | 16 => ("PledgeHouse$Ledger", "lostCoins", "I", false)
  | 17 => ("PledgeHouse$Ledger", "callCount", "I", false)
  | _ => ("PledgeHouse$Ledger", "soldOutCount", "I", false)
def tyX0 : Nat → FieldType := fun k => match k with
  | 0 => .array .int
  | 1 => .array .int
  | 2 => .array .int
  | 3 => .array .int
  | 4 => .array .int
  | 5 => .array .int
  | 6 => .array .int
  | 7 => .array .boolean
  | 8 => .int
  | 9 => .int
  | 10 => .int
  | 11 => .int
  | 12 => .int
  | 13 => .int
  | 14 => .int
  | 15 => .int
  | 16 => .int
  | 17 => .int
  | _ => .int
abbrev wsX00 : List Cond := u_ws RX0 TX0 19
theorem nmX0 : ∀ a, a < 19 → ∀ b, b < 19 → a ≠ b → (TX0 a).2.1 ≠ (TX0 b).2.1 := by decide +kernel
theorem tyX0_ok : ∀ k, k < 19 → parseFieldDescriptor (TX0 k).2.2.1 = some (tyX0 k) := by decide +kernel
abbrev cX0_init : ByteArray := prog_2_method_1_code
def yX0_init : MethodName := ⟨RX0, "<init>", "()V"⟩
abbrev cX0_copyFrom : ByteArray := prog_2_method_2_code
def yX0_copyFrom : MethodName := ⟨RX0, "copyFrom", "(LPledgeHouse$Ledger;)V"⟩
abbrev cX0_worth : ByteArray := prog_2_method_3_code
def yX0_worth : MethodName := ⟨RX0, "worth", "(I)I"⟩
abbrev cX0_cover : ByteArray := prog_2_method_4_code
def yX0_cover : MethodName := ⟨RX0, "cover", "(I)I"⟩
abbrev cX0_coverAfterFall : ByteArray := prog_2_method_5_code
def yX0_coverAfterFall : MethodName := ⟨RX0, "coverAfterFall", "(III)I"⟩
abbrev cX0_staysCovered : ByteArray := prog_2_method_6_code
def yX0_staysCovered : MethodName := ⟨RX0, "staysCovered", "(III)Z"⟩
abbrev cX0_openRoom : ByteArray := prog_2_method_7_code
def yX0_openRoom : MethodName := ⟨RX0, "openRoom", "(I)I"⟩
abbrev cX0_interestOn : ByteArray := prog_2_method_8_code
def yX0_interestOn : MethodName := ⟨RX0, "interestOn", "(I)I"⟩
abbrev cX0_piecesOfAll : ByteArray := prog_2_method_9_code
def yX0_piecesOfAll : MethodName := ⟨RX0, "piecesOfAll", "(I)I"⟩
abbrev cX0_debtsOfAll : ByteArray := prog_2_method_10_code
def yX0_debtsOfAll : MethodName := ⟨RX0, "debtsOfAll", "()I"⟩
abbrev cX0_coverOfAll : ByteArray := prog_2_method_11_code
def yX0_coverOfAll : MethodName := ⟨RX0, "coverOfAll", "()I"⟩
abbrev cX0_countCalled : ByteArray := prog_2_method_12_code
def yX0_countCalled : MethodName := ⟨RX0, "countCalled", "()I"⟩
abbrev cX0_countUncoveredAfterFall : ByteArray := prog_2_method_13_code
def yX0_countUncoveredAfterFall : MethodName := ⟨RX0, "countUncoveredAfterFall", "(I)I"⟩
abbrev cX0_callingFallByTrying : ByteArray := prog_2_method_14_code
def yX0_callingFallByTrying : MethodName := ⟨RX0, "callingFallByTrying", "(I)I"⟩
abbrev cX0_callingFallByHalving : ByteArray := prog_2_method_15_code
def yX0_callingFallByHalving : MethodName := ⟨RX0, "callingFallByHalving", "(I)I"⟩
abbrev cX0_hoursUntilCall : ByteArray := prog_2_method_16_code
def yX0_hoursUntilCall : MethodName := ⟨RX0, "hoursUntilCall", "(I)I"⟩
abbrev cX0_isRiskier : ByteArray := prog_2_method_17_code
def yX0_isRiskier : MethodName := ⟨RX0, "isRiskier", "(II)Z"⟩
abbrev cX0_riskPlace : ByteArray := prog_2_method_18_code
def yX0_riskPlace : MethodName := ⟨RX0, "riskPlace", "(I)I"⟩
abbrev cX0_sortByRisk : ByteArray := prog_2_method_19_code
def yX0_sortByRisk : MethodName := ⟨RX0, "sortByRisk", "([I)V"⟩
abbrev cX0_takeRiskiest : ByteArray := prog_2_method_20_code
def yX0_takeRiskiest : MethodName := ⟨RX0, "takeRiskiest", "(I)I"⟩
abbrev cX0_riskiestBut : ByteArray := prog_2_method_21_code
def yX0_riskiestBut : MethodName := ⟨RX0, "riskiestBut", "(I)I"⟩
abbrev cX0_lookAtClients : ByteArray := prog_2_method_22_code
def yX0_lookAtClients : MethodName := ⟨RX0, "lookAtClients", "()I"⟩
abbrev cX0_putPrice : ByteArray := prog_2_method_23_code
def yX0_putPrice : MethodName := ⟨RX0, "putPrice", "(II)I"⟩
abbrev cX0_putCut : ByteArray := prog_2_method_24_code
def yX0_putCut : MethodName := ⟨RX0, "putCut", "(II)I"⟩
abbrev cX0_dropPrices : ByteArray := prog_2_method_25_code
def yX0_dropPrices : MethodName := ⟨RX0, "dropPrices", "(I)I"⟩
abbrev cX0_addPieces : ByteArray := prog_2_method_26_code
def yX0_addPieces : MethodName := ⟨RX0, "addPieces", "(III)Z"⟩
abbrev cX0_takePieces : ByteArray := prog_2_method_27_code
def yX0_takePieces : MethodName := ⟨RX0, "takePieces", "(III)Z"⟩
abbrev cX0_addCoins : ByteArray := prog_2_method_28_code
def yX0_addCoins : MethodName := ⟨RX0, "addCoins", "(II)Z"⟩
abbrev cX0_takeCoins : ByteArray := prog_2_method_29_code
def yX0_takeCoins : MethodName := ⟨RX0, "takeCoins", "(II)Z"⟩
abbrev cX0_addDebt : ByteArray := prog_2_method_30_code
def yX0_addDebt : MethodName := ⟨RX0, "addDebt", "(II)Z"⟩
abbrev cX0_takeDebt : ByteArray := prog_2_method_31_code
def yX0_takeDebt : MethodName := ⟨RX0, "takeDebt", "(II)I"⟩
abbrev cX0_liftBar : ByteArray := prog_2_method_32_code
def yX0_liftBar : MethodName := ⟨RX0, "liftBar", "(I)Z"⟩
abbrev cX0_passHours : ByteArray := prog_2_method_33_code
def yX0_passHours : MethodName := ⟨RX0, "passHours", "(ILPledgeHouse$Sale;)I"⟩
abbrev cX0_calledAsBits : ByteArray := prog_2_method_34_code
def yX0_calledAsBits : MethodName := ⟨RX0, "calledAsBits", "()I"⟩
abbrev cX0_addInterest : ByteArray := prog_2_method_35_code
def yX0_addInterest : MethodName := ⟨RX0, "addInterest", "()V"⟩
abbrev cX0_countDown : ByteArray := prog_2_method_36_code
def yX0_countDown : MethodName := ⟨RX0, "countDown", "(ILPledgeHouse$Sale;)V"⟩
abbrev cX0_enterSale : ByteArray := prog_2_method_37_code
def yX0_enterSale : MethodName := ⟨RX0, "enterSale", "(LPledgeHouse$Sale;I)V"⟩
def RX1 : String := "PledgeHouse$OrderText"
def TX1 : u_T := fun k => match k with
  | 0 => ("PledgeHouse$OrderText", "codes", "[I", true)
  | 1 => ("PledgeHouse$OrderText", "length", "I", false)
  | 2 => ("PledgeHouse$OrderText", "letter", "I", false)
  | 3 => ("PledgeHouse$OrderText", "step", "I", false)
  | 4 => ("PledgeHouse$OrderText", "client", "I", false)
  | 5 => ("PledgeHouse$OrderText", "kind", "I", false)
  | 6 => ("PledgeHouse$OrderText", "number", "I", false)
  | _ => ("PledgeHouse$OrderText", "digits", "I", false)
def tyX1 : Nat → FieldType := fun k => match k with
  | 0 => .array .int
  | 1 => .int
  | 2 => .int
  | 3 => .int
  | 4 => .int
  | 5 => .int
  | 6 => .int
  | _ => .int
abbrev wsX10 : List Cond := u_ws RX1 TX1 8
theorem nmX1 : ∀ a, a < 8 → ∀ b, b < 8 → a ≠ b → (TX1 a).2.1 ≠ (TX1 b).2.1 := by decide +kernel
theorem tyX1_ok : ∀ k, k < 8 → parseFieldDescriptor (TX1 k).2.2.1 = some (tyX1 k) := by decide +kernel
abbrev cX1_init : ByteArray := prog_3_method_1_code
def yX1_init : MethodName := ⟨RX1, "<init>", "()V"⟩
abbrev cX1_startPart : ByteArray := prog_3_method_2_code
def yX1_startPart : MethodName := ⟨RX1, "startPart", "()V"⟩
abbrev cX1_findError : ByteArray := prog_3_method_3_code
def yX1_findError : MethodName := ⟨RX1, "findError", "()I"⟩
abbrev cX1_tellsOrders : ByteArray := prog_3_method_4_code
def yX1_tellsOrders : MethodName := ⟨RX1, "tellsOrders", "()Z"⟩
abbrev cX1_isWholePart : ByteArray := prog_3_method_5_code
def yX1_isWholePart : MethodName := ⟨RX1, "isWholePart", "()Z"⟩
abbrev cX1_endsPart : ByteArray := prog_3_method_6_code
def yX1_endsPart : MethodName := ⟨RX1, "endsPart", "(I)Z"⟩
abbrev cX1_take : ByteArray := prog_3_method_7_code
def yX1_take : MethodName := ⟨RX1, "take", "(I)Z"⟩
abbrev cX1_takeInside : ByteArray := prog_3_method_8_code
def yX1_takeInside : MethodName := ⟨RX1, "takeInside", "(I)Z"⟩
abbrev cX1_takeDigit : ByteArray := prog_3_method_9_code
def yX1_takeDigit : MethodName := ⟨RX1, "takeDigit", "(I)Z"⟩
abbrev cX1_shapeOf : ByteArray := prog_3_method_10_code
def yX1_shapeOf : MethodName := ⟨RX1, "shapeOf", "(I)Ljava/lang/String;"⟩
abbrev cX1_leastNumber : ByteArray := prog_3_method_11_code
def yX1_leastNumber : MethodName := ⟨RX1, "leastNumber", "()I"⟩
abbrev cX1_mostNumber : ByteArray := prog_3_method_12_code
def yX1_mostNumber : MethodName := ⟨RX1, "mostNumber", "()I"⟩
def RX2 : String := "PledgeHouse$Sale"
def TX2 : u_T := fun k => match k with
  | 0 => ("PledgeHouse$Sale", "piecesLeft", "[I", true)
  | 1 => ("PledgeHouse$Sale", "keys", "[I", true)
  | 2 => ("PledgeHouse$Sale", "coinsLeft", "I", false)
  | 3 => ("PledgeHouse$Sale", "debtLeft", "I", false)
  | 4 => ("PledgeHouse$Sale", "coverLeft", "I", false)
  | 5 => ("PledgeHouse$Sale", "piecesSold", "I", false)
  | 6 => ("PledgeHouse$Sale", "coinsPaid", "I", false)
  | _ => ("PledgeHouse$Sale", "coinsLost", "I", false)
def tyX2 : Nat → FieldType := fun k => match k with
  | 0 => .array .int
  | 1 => .array .int
  | 2 => .int
  | 3 => .int
  | 4 => .int
  | 5 => .int
  | 6 => .int
  | _ => .int
abbrev wsX20 : List Cond := u_ws RX2 TX2 8
theorem nmX2 : ∀ a, a < 8 → ∀ b, b < 8 → a ≠ b → (TX2 a).2.1 ≠ (TX2 b).2.1 := by decide +kernel
theorem tyX2_ok : ∀ k, k < 8 → parseFieldDescriptor (TX2 k).2.2.1 = some (tyX2 k) := by decide +kernel
abbrev cX2_init : ByteArray := prog_4_method_1_code
def yX2_init : MethodName := ⟨RX2, "<init>", "()V"⟩
abbrev cX2_reckon : ByteArray := prog_4_method_2_code
def yX2_reckon : MethodName := ⟨RX2, "reckon", "(LPledgeHouse$Ledger;I)V"⟩
abbrev cX2_layOutPieces : ByteArray := prog_4_method_3_code
def yX2_layOutPieces : MethodName := ⟨RX2, "layOutPieces", "(LPledgeHouse$Ledger;I)I"⟩
abbrev cX2_keyOf : ByteArray := prog_4_method_4_code
def yX2_keyOf : MethodName := ⟨RX2, "keyOf", "(LPledgeHouse$Ledger;I)I"⟩
abbrev cX2_coverOfOne : ByteArray := prog_4_method_5_code
def yX2_coverOfOne : MethodName := ⟨RX2, "coverOfOne", "(LPledgeHouse$Ledger;I)I"⟩
abbrev cX2_isCovered : ByteArray := prog_4_method_6_code
def yX2_isCovered : MethodName := ⟨RX2, "isCovered", "()Z"⟩
abbrev cX2_payFromCoins : ByteArray := prog_4_method_7_code
def yX2_payFromCoins : MethodName := ⟨RX2, "payFromCoins", "()V"⟩
abbrev cX2_sellOne : ByteArray := prog_4_method_8_code
def yX2_sellOne : MethodName := ⟨RX2, "sellOne", "(LPledgeHouse$Ledger;)V"⟩
abbrev cX2_firstKind : ByteArray := prog_4_method_9_code
def yX2_firstKind : MethodName := ⟨RX2, "firstKind", "()I"⟩
abbrev cX2_payWith : ByteArray := prog_4_method_10_code
def yX2_payWith : MethodName := ⟨RX2, "payWith", "(I)V"⟩
def RX3 : String := "PledgeHouse"
def TX3 : u_T := fun k => match k with
  | 0 => ("PledgeHouse", "text", "LPledgeHouse$OrderText;", true)
  | 1 => ("PledgeHouse", "sale", "LPledgeHouse$Sale;", true)
  | 2 => ("PledgeHouse", "riskRow", "[I", true)
  | 3 => ("PledgeHouse", "slots", "[LPledgeHouse$Ledger;", true)
  | 4 => ("PledgeHouse", "slotFilled", "[Z", true)
  | 5 => ("PledgeHouse", "saved", "[LPledgeHouse$Ledger;", true)
  | 6 => ("PledgeHouse", "savedCount", "I", false)
  | 7 => ("PledgeHouse", "now", "LPledgeHouse$Ledger;", false)
  | _ => ("PledgeHouse", "before", "LPledgeHouse$Ledger;", false)
def tyX3 : Nat → FieldType := fun k => match k with
  | 0 => .object "PledgeHouse$OrderText"
  | 1 => .object "PledgeHouse$Sale"
  | 2 => .array .int
  | 3 => .array (.object "PledgeHouse$Ledger")
  | 4 => .array .boolean
  | 5 => .array (.object "PledgeHouse$Ledger")
  | 6 => .int
  | 7 => .object "PledgeHouse$Ledger"
  | _ => .object "PledgeHouse$Ledger"
abbrev wsX30 : List Cond := u_ws RX3 TX3 9
theorem nmX3 : ∀ a, a < 9 → ∀ b, b < 9 → a ≠ b → (TX3 a).2.1 ≠ (TX3 b).2.1 := by decide +kernel
theorem tyX3_ok : ∀ k, k < 9 → parseFieldDescriptor (TX3 k).2.2.1 = some (tyX3 k) := by decide +kernel
abbrev cX3_init : ByteArray := prog_1_method_1_code
def yX3_init : MethodName := ⟨RX3, "<init>", "()V"⟩
abbrev cX3_setPrice : ByteArray := prog_1_method_2_code
def yX3_setPrice : MethodName := ⟨RX3, "setPrice", "(II)I"⟩
abbrev cX3_setCut : ByteArray := prog_1_method_3_code
def yX3_setCut : MethodName := ⟨RX3, "setCut", "(II)I"⟩
abbrev cX3_fall : ByteArray := prog_1_method_4_code
def yX3_fall : MethodName := ⟨RX3, "fall", "(I)I"⟩
abbrev cX3_pledge : ByteArray := prog_1_method_5_code
def yX3_pledge : MethodName := ⟨RX3, "pledge", "(III)I"⟩
abbrev cX3_release : ByteArray := prog_1_method_6_code
def yX3_release : MethodName := ⟨RX3, "release", "(III)I"⟩
abbrev cX3_deposit : ByteArray := prog_1_method_7_code
def yX3_deposit : MethodName := ⟨RX3, "deposit", "(II)I"⟩
abbrev cX3_withdraw : ByteArray := prog_1_method_8_code
def yX3_withdraw : MethodName := ⟨RX3, "withdraw", "(II)I"⟩
abbrev cX3_lend : ByteArray := prog_1_method_9_code
def yX3_lend : MethodName := ⟨RX3, "lend", "(II)I"⟩
abbrev cX3_payBack : ByteArray := prog_1_method_10_code
def yX3_payBack : MethodName := ⟨RX3, "payBack", "(II)I"⟩
abbrev cX3_readmit : ByteArray := prog_1_method_11_code
def yX3_readmit : MethodName := ⟨RX3, "readmit", "(I)V"⟩
abbrev cX3_pass : ByteArray := prog_1_method_12_code
def yX3_pass : MethodName := ⟨RX3, "pass", "(I)I"⟩
abbrev cX3_changeRate : ByteArray := prog_1_method_13_code
def yX3_changeRate : MethodName := ⟨RX3, "changeRate", "(I)I"⟩
abbrev cX3_changeGrace : ByteArray := prog_1_method_14_code
def yX3_changeGrace : MethodName := ⟨RX3, "changeGrace", "(I)I"⟩
abbrev cX3_changeSlip : ByteArray := prog_1_method_15_code
def yX3_changeSlip : MethodName := ⟨RX3, "changeSlip", "(I)I"⟩
abbrev cX3_turnOrder : ByteArray := prog_1_method_16_code
def yX3_turnOrder : MethodName := ⟨RX3, "turnOrder", "()I"⟩
abbrev cX3_append : ByteArray := prog_1_method_17_code
def yX3_append : MethodName := ⟨RX3, "append", "(I)I"⟩
abbrev cX3_clearBuffer : ByteArray := prog_1_method_18_code
def yX3_clearBuffer : MethodName := ⟨RX3, "clearBuffer", "()I"⟩
abbrev cX3_firstError : ByteArray := prog_1_method_19_code
def yX3_firstError : MethodName := ⟨RX3, "firstError", "()I"⟩
abbrev cX3_follow : ByteArray := prog_1_method_20_code
def yX3_follow : MethodName := ⟨RX3, "follow", "()I"⟩
abbrev cX3_keep : ByteArray := prog_1_method_21_code
def yX3_keep : MethodName := ⟨RX3, "keep", "(I)V"⟩
abbrev cX3_goBack : ByteArray := prog_1_method_22_code
def yX3_goBack : MethodName := ⟨RX3, "goBack", "(I)V"⟩
abbrev cX3_undo : ByteArray := prog_1_method_23_code
def yX3_undo : MethodName := ⟨RX3, "undo", "()V"⟩
abbrev cX3_savedStates : ByteArray := prog_1_method_24_code
def yX3_savedStates : MethodName := ⟨RX3, "savedStates", "()I"⟩
abbrev cX3_priceOf : ByteArray := prog_1_method_25_code
def yX3_priceOf : MethodName := ⟨RX3, "priceOf", "(I)I"⟩
abbrev cX3_cutOf : ByteArray := prog_1_method_26_code
def yX3_cutOf : MethodName := ⟨RX3, "cutOf", "(I)I"⟩
abbrev cX3_pledgedOf : ByteArray := prog_1_method_27_code
def yX3_pledgedOf : MethodName := ⟨RX3, "pledgedOf", "(I)I"⟩
abbrev cX3_soldOf : ByteArray := prog_1_method_28_code
def yX3_soldOf : MethodName := ⟨RX3, "soldOf", "(I)I"⟩
abbrev cX3_piecesOf : ByteArray := prog_1_method_29_code
def yX3_piecesOf : MethodName := ⟨RX3, "piecesOf", "(II)I"⟩
abbrev cX3_coinsOf : ByteArray := prog_1_method_30_code
def yX3_coinsOf : MethodName := ⟨RX3, "coinsOf", "(I)I"⟩
abbrev cX3_debtOf : ByteArray := prog_1_method_31_code
def yX3_debtOf : MethodName := ⟨RX3, "debtOf", "(I)I"⟩
abbrev cX3_worthOf : ByteArray := prog_1_method_32_code
def yX3_worthOf : MethodName := ⟨RX3, "worthOf", "(I)I"⟩
abbrev cX3_coverOf : ByteArray := prog_1_method_33_code
def yX3_coverOf : MethodName := ⟨RX3, "coverOf", "(I)I"⟩
abbrev cX3_roomOf : ByteArray := prog_1_method_34_code
def yX3_roomOf : MethodName := ⟨RX3, "roomOf", "(I)I"⟩
abbrev cX3_isCalled : ByteArray := prog_1_method_35_code
def yX3_isCalled : MethodName := ⟨RX3, "isCalled", "(I)Z"⟩
abbrev cX3_hoursLeft : ByteArray := prog_1_method_36_code
def yX3_hoursLeft : MethodName := ⟨RX3, "hoursLeft", "(I)I"⟩
abbrev cX3_isBarred : ByteArray := prog_1_method_37_code
def yX3_isBarred : MethodName := ⟨RX3, "isBarred", "(I)Z"⟩
abbrev cX3_rankOf : ByteArray := prog_1_method_38_code
def yX3_rankOf : MethodName := ⟨RX3, "rankOf", "(I)I"⟩
abbrev cX3_riskyBySorting : ByteArray := prog_1_method_39_code
def yX3_riskyBySorting : MethodName := ⟨RX3, "riskyBySorting", "(I)I"⟩
abbrev cX3_riskyByTaking : ByteArray := prog_1_method_40_code
def yX3_riskyByTaking : MethodName := ⟨RX3, "riskyByTaking", "(I)I"⟩
abbrev cX3_calledNow : ByteArray := prog_1_method_41_code
def yX3_calledNow : MethodName := ⟨RX3, "calledNow", "()I"⟩
abbrev cX3_rate : ByteArray := prog_1_method_42_code
def yX3_rate : MethodName := ⟨RX3, "rate", "()I"⟩
abbrev cX3_grace : ByteArray := prog_1_method_43_code
def yX3_grace : MethodName := ⟨RX3, "grace", "()I"⟩
abbrev cX3_slip : ByteArray := prog_1_method_44_code
def yX3_slip : MethodName := ⟨RX3, "slip", "()I"⟩
abbrev cX3_order : ByteArray := prog_1_method_45_code
def yX3_order : MethodName := ⟨RX3, "order", "()I"⟩
abbrev cX3_fallToCallByTrying : ByteArray := prog_1_method_46_code
def yX3_fallToCallByTrying : MethodName := ⟨RX3, "fallToCallByTrying", "(I)I"⟩
abbrev cX3_fallToCallByHalving : ByteArray := prog_1_method_47_code
def yX3_fallToCallByHalving : MethodName := ⟨RX3, "fallToCallByHalving", "(I)I"⟩
abbrev cX3_hoursToCall : ByteArray := prog_1_method_48_code
def yX3_hoursToCall : MethodName := ⟨RX3, "hoursToCall", "(I)I"⟩
abbrev cX3_wouldSell : ByteArray := prog_1_method_49_code
def yX3_wouldSell : MethodName := ⟨RX3, "wouldSell", "(I)I"⟩
abbrev cX3_wouldLose : ByteArray := prog_1_method_50_code
def yX3_wouldLose : MethodName := ⟨RX3, "wouldLose", "(I)I"⟩
abbrev cX3_calledIfFallen : ByteArray := prog_1_method_51_code
def yX3_calledIfFallen : MethodName := ⟨RX3, "calledIfFallen", "(I)I"⟩
abbrev cX3_hours : ByteArray := prog_1_method_52_code
def yX3_hours : MethodName := ⟨RX3, "hours", "()I"⟩
abbrev cX3_debtsByClients : ByteArray := prog_1_method_53_code
def yX3_debtsByClients : MethodName := ⟨RX3, "debtsByClients", "()I"⟩
abbrev cX3_debtsByAccount : ByteArray := prog_1_method_54_code
def yX3_debtsByAccount : MethodName := ⟨RX3, "debtsByAccount", "()I"⟩
abbrev cX3_lent : ByteArray := prog_1_method_55_code
def yX3_lent : MethodName := ⟨RX3, "lent", "()I"⟩
abbrev cX3_interest : ByteArray := prog_1_method_56_code
def yX3_interest : MethodName := ⟨RX3, "interest", "()I"⟩
abbrev cX3_repaid : ByteArray := prog_1_method_57_code
def yX3_repaid : MethodName := ⟨RX3, "repaid", "()I"⟩
abbrev cX3_lost : ByteArray := prog_1_method_58_code
def yX3_lost : MethodName := ⟨RX3, "lost", "()I"⟩
abbrev cX3_calls : ByteArray := prog_1_method_59_code
def yX3_calls : MethodName := ⟨RX3, "calls", "()I"⟩
abbrev cX3_soldOut : ByteArray := prog_1_method_60_code
def yX3_soldOut : MethodName := ⟨RX3, "soldOut", "()I"⟩
abbrev cX3_usedShare : ByteArray := prog_1_method_61_code
def yX3_usedShare : MethodName := ⟨RX3, "usedShare", "()D"⟩
abbrev cX3_digest : ByteArray := prog_1_method_62_code
def yX3_digest : MethodName := ⟨RX3, "digest", "()J"⟩
abbrev cX3_hashKind : ByteArray := prog_1_method_63_code
def yX3_hashKind : MethodName := ⟨RX3, "hashKind", "(JI)J"⟩
abbrev cX3_hashPledges : ByteArray := prog_1_method_64_code
def yX3_hashPledges : MethodName := ⟨RX3, "hashPledges", "(JI)J"⟩
abbrev cX3_hashOutlook : ByteArray := prog_1_method_65_code
def yX3_hashOutlook : MethodName := ⟨RX3, "hashOutlook", "(JI)J"⟩
abbrev cX3_hashRules : ByteArray := prog_1_method_66_code
def yX3_hashRules : MethodName := ⟨RX3, "hashRules", "(J)J"⟩
abbrev cX3_hashAccounts : ByteArray := prog_1_method_67_code
def yX3_hashAccounts : MethodName := ⟨RX3, "hashAccounts", "(J)J"⟩
abbrev cX3_hashSlotsAndText : ByteArray := prog_1_method_68_code
def yX3_hashSlotsAndText : MethodName := ⟨RX3, "hashSlotsAndText", "(J)J"⟩
abbrev cX3_mixed : ByteArray := prog_1_method_69_code
def yX3_mixed : MethodName := ⟨RX3, "mixed", "(JJ)J"⟩
abbrev cX3_bitsOf : ByteArray := prog_1_method_70_code
def yX3_bitsOf : MethodName := ⟨RX3, "bitsOf", "(D)J"⟩
abbrev cX3_carryOutPart : ByteArray := prog_1_method_71_code
def yX3_carryOutPart : MethodName := ⟨RX3, "carryOutPart", "()Z"⟩
abbrev cX3_save : ByteArray := prog_1_method_72_code
def yX3_save : MethodName := ⟨RX3, "save", "()V"⟩
abbrev cX3_saveBefore : ByteArray := prog_1_method_73_code
def yX3_saveBefore : MethodName := ⟨RX3, "saveBefore", "()V"⟩
abbrev cX3_at : ByteArray := prog_1_method_74_code
def yX3_at : MethodName := ⟨RX3, "at", "(II)I"⟩
abbrev cX3_fallen : ByteArray := prog_1_method_75_code
def yX3_fallen : MethodName := ⟨RX3, "fallen", "(III)I"⟩
abbrev cX3_needKind : ByteArray := prog_1_method_76_code
def yX3_needKind : MethodName := ⟨RX3, "needKind", "(I)V"⟩
abbrev cX3_needClient : ByteArray := prog_1_method_77_code
def yX3_needClient : MethodName := ⟨RX3, "needClient", "(I)V"⟩
abbrev cX3_needPlace : ByteArray := prog_1_method_78_code
def yX3_needPlace : MethodName := ⟨RX3, "needPlace", "(I)V"⟩
abbrev cX3_needRange : ByteArray := prog_1_method_79_code
def yX3_needRange : MethodName := ⟨RX3, "needRange", "(III)V"⟩
abbrev cX3_need : ByteArray := prog_1_method_80_code
def yX3_need : MethodName := ⟨RX3, "need", "(Z)V"⟩
def RX4 : String := "PledgeHouseModel"
def TX4 : u_T := fun k => match k with
  | 0 => ("PledgeHouseModel", "s", "[I", true)
  | 1 => ("PledgeHouseModel", "before", "[I", true)
  | 2 => ("PledgeHouseModel", "known", "I", false)
  | 3 => ("PledgeHouseModel", "slots", "[I", true)
  | 4 => ("PledgeHouseModel", "isKept", "[Z", true)
  | 5 => ("PledgeHouseModel", "aside", "[I", true)
  | 6 => ("PledgeHouseModel", "buffer", "[I", true)
  | 7 => ("PledgeHouseModel", "length", "I", false)
  | 8 => ("PledgeHouseModel", "thrown", "I", false)
  | 9 => ("PledgeHouseModel", "at", "I", false)
  | 10 => ("PledgeHouseModel", "isWrong", "Z", false)
  | _ => ("PledgeHouseModel", "hash", "J", false)
def tyX4 : Nat → FieldType := fun k => match k with
  | 0 => .array .int
  | 1 => .array .int
  | 2 => .int
  | 3 => .array .int
  | 4 => .array .boolean
  | 5 => .array .int
  | 6 => .array .int
  | 7 => .int
  | 8 => .int
  | 9 => .int
  | 10 => .boolean
  | _ => .long
abbrev wsX40 : List Cond := u_ws RX4 TX4 12
theorem nmX4 : ∀ a, a < 12 → ∀ b, b < 12 → a ≠ b → (TX4 a).2.1 ≠ (TX4 b).2.1 := by decide +kernel
theorem tyX4_ok : ∀ k, k < 12 → parseFieldDescriptor (TX4 k).2.2.1 = some (tyX4 k) := by decide +kernel
abbrev cX4_init : ByteArray := prog_6_method_1_code
def yX4_init : MethodName := ⟨RX4, "<init>", "()V"⟩
abbrev cX4_thrown : ByteArray := prog_6_method_2_code
def yX4_thrown : MethodName := ⟨RX4, "thrown", "()I"⟩
abbrev cX4_throwing : ByteArray := prog_6_method_3_code
def yX4_throwing : MethodName := ⟨RX4, "throwing", "(I)I"⟩
abbrev cX4_in : ByteArray := prog_6_method_4_code
def yX4_in : MethodName := ⟨RX4, "in", "(III)Z"⟩
abbrev cX4_isKind : ByteArray := prog_6_method_5_code
def yX4_isKind : MethodName := ⟨RX4, "isKind", "(I)Z"⟩
abbrev cX4_isClient : ByteArray := prog_6_method_6_code
def yX4_isClient : MethodName := ⟨RX4, "isClient", "(I)Z"⟩
abbrev cX4_save : ByteArray := prog_6_method_7_code
def yX4_save : MethodName := ⟨RX4, "save", "()V"⟩
abbrev cX4_keepsAside : ByteArray := prog_6_method_8_code
def yX4_keepsAside : MethodName := ⟨RX4, "keepsAside", "()V"⟩
abbrev cX4_putsBack : ByteArray := prog_6_method_9_code
def yX4_putsBack : MethodName := ⟨RX4, "putsBack", "()V"⟩
abbrev cX4_of : ByteArray := prog_6_method_10_code
def yX4_of : MethodName := ⟨RX4, "of", "(II)I"⟩
abbrev cX4_lay : ByteArray := prog_6_method_11_code
def yX4_lay : MethodName := ⟨RX4, "lay", "(III)V"⟩
abbrev cX4_grow : ByteArray := prog_6_method_12_code
def yX4_grow : MethodName := ⟨RX4, "grow", "(III)V"⟩
abbrev cX4_fallen : ByteArray := prog_6_method_13_code
def yX4_fallen : MethodName := ⟨RX4, "fallen", "(II)I"⟩
abbrev cX4_coverIf : ByteArray := prog_6_method_14_code
def yX4_coverIf : MethodName := ⟨RX4, "coverIf", "(III)I"⟩
abbrev cX4_cover : ByteArray := prog_6_method_15_code
def yX4_cover : MethodName := ⟨RX4, "cover", "(I)I"⟩
abbrev cX4_isCovered : ByteArray := prog_6_method_16_code
def yX4_isCovered : MethodName := ⟨RX4, "isCovered", "(I)Z"⟩
abbrev cX4_called : ByteArray := prog_6_method_17_code
def yX4_called : MethodName := ⟨RX4, "called", "(I)Z"⟩
abbrev cX4_looks : ByteArray := prog_6_method_18_code
def yX4_looks : MethodName := ⟨RX4, "looks", "()V"⟩
abbrev cX4_isAhead : ByteArray := prog_6_method_19_code
def yX4_isAhead : MethodName := ⟨RX4, "isAhead", "(II)Z"⟩
abbrev cX4_selling : ByteArray := prog_6_method_20_code
def yX4_selling : MethodName := ⟨RX4, "selling", "(I)I"⟩
abbrev cX4_pays : ByteArray := prog_6_method_21_code
def yX4_pays : MethodName := ⟨RX4, "pays", "(II)V"⟩
abbrev cX4_sellsOut : ByteArray := prog_6_method_22_code
def yX4_sellsOut : MethodName := ⟨RX4, "sellsOut", "(I)I"⟩
abbrev cX4_interestOf : ByteArray := prog_6_method_23_code
def yX4_interestOf : MethodName := ⟨RX4, "interestOf", "(II)I"⟩
abbrev cX4_hour : ByteArray := prog_6_method_24_code
def yX4_hour : MethodName := ⟨RX4, "hour", "()I"⟩
abbrev cX4_canPledge : ByteArray := prog_6_method_25_code
def yX4_canPledge : MethodName := ⟨RX4, "canPledge", "(III)Z"⟩
abbrev cX4_canLack : ByteArray := prog_6_method_26_code
def yX4_canLack : MethodName := ⟨RX4, "canLack", "(III)Z"⟩
abbrev cX4_canLend : ByteArray := prog_6_method_27_code
def yX4_canLend : MethodName := ⟨RX4, "canLend", "(II)Z"⟩
abbrev cX4_lends : ByteArray := prog_6_method_28_code
def yX4_lends : MethodName := ⟨RX4, "lends", "(II)V"⟩
abbrev cX4_paysBack : ByteArray := prog_6_method_29_code
def yX4_paysBack : MethodName := ⟨RX4, "paysBack", "(II)I"⟩
abbrev cX4_passes : ByteArray := prog_6_method_30_code
def yX4_passes : MethodName := ⟨RX4, "passes", "(I)I"⟩
abbrev cX4_sets : ByteArray := prog_6_method_31_code
def yX4_sets : MethodName := ⟨RX4, "sets", "(IIII)I"⟩
abbrev cX4_setPrice : ByteArray := prog_6_method_32_code
def yX4_setPrice : MethodName := ⟨RX4, "setPrice", "(II)I"⟩
abbrev cX4_setCut : ByteArray := prog_6_method_33_code
def yX4_setCut : MethodName := ⟨RX4, "setCut", "(II)I"⟩
abbrev cX4_fall : ByteArray := prog_6_method_34_code
def yX4_fall : MethodName := ⟨RX4, "fall", "(I)I"⟩
abbrev cX4_areThere : ByteArray := prog_6_method_35_code
def yX4_areThere : MethodName := ⟨RX4, "areThere", "(II)Z"⟩
abbrev cX4_isThere : ByteArray := prog_6_method_36_code
def yX4_isThere : MethodName := ⟨RX4, "isThere", "(I)Z"⟩
abbrev cX4_pledge : ByteArray := prog_6_method_37_code
def yX4_pledge : MethodName := ⟨RX4, "pledge", "(III)I"⟩
abbrev cX4_release : ByteArray := prog_6_method_38_code
def yX4_release : MethodName := ⟨RX4, "release", "(III)I"⟩
abbrev cX4_deposit : ByteArray := prog_6_method_39_code
def yX4_deposit : MethodName := ⟨RX4, "deposit", "(II)I"⟩
abbrev cX4_withdraw : ByteArray := prog_6_method_40_code
def yX4_withdraw : MethodName := ⟨RX4, "withdraw", "(II)I"⟩
abbrev cX4_lend : ByteArray := prog_6_method_41_code
def yX4_lend : MethodName := ⟨RX4, "lend", "(II)I"⟩
abbrev cX4_payBack : ByteArray := prog_6_method_42_code
def yX4_payBack : MethodName := ⟨RX4, "payBack", "(II)I"⟩
abbrev cX4_readmit : ByteArray := prog_6_method_43_code
def yX4_readmit : MethodName := ⟨RX4, "readmit", "(I)V"⟩
abbrev cX4_pass : ByteArray := prog_6_method_44_code
def yX4_pass : MethodName := ⟨RX4, "pass", "(I)I"⟩
abbrev cX4_rules : ByteArray := prog_6_method_45_code
def yX4_rules : MethodName := ⟨RX4, "rules", "(IIII)I"⟩
abbrev cX4_changeRate : ByteArray := prog_6_method_46_code
def yX4_changeRate : MethodName := ⟨RX4, "changeRate", "(I)I"⟩
abbrev cX4_changeGrace : ByteArray := prog_6_method_47_code
def yX4_changeGrace : MethodName := ⟨RX4, "changeGrace", "(I)I"⟩
abbrev cX4_changeSlip : ByteArray := prog_6_method_48_code
def yX4_changeSlip : MethodName := ⟨RX4, "changeSlip", "(I)I"⟩
abbrev cX4_turnOrder : ByteArray := prog_6_method_49_code
def yX4_turnOrder : MethodName := ⟨RX4, "turnOrder", "()I"⟩
abbrev cX4_append : ByteArray := prog_6_method_50_code
def yX4_append : MethodName := ⟨RX4, "append", "(I)I"⟩
abbrev cX4_clearBuffer : ByteArray := prog_6_method_51_code
def yX4_clearBuffer : MethodName := ⟨RX4, "clearBuffer", "()I"⟩
abbrev cX4_sign : ByteArray := prog_6_method_52_code
def yX4_sign : MethodName := ⟨RX4, "sign", "(II)I"⟩
abbrev cX4_number : ByteArray := prog_6_method_53_code
def yX4_number : MethodName := ⟨RX4, "number", "(II)I"⟩
abbrev cX4_isOrdered : ByteArray := prog_6_method_54_code
def yX4_isOrdered : MethodName := ⟨RX4, "isOrdered", "(Z)Z"⟩
abbrev cX4_isFollowed : ByteArray := prog_6_method_55_code
def yX4_isFollowed : MethodName := ⟨RX4, "isFollowed", "(IIII)Z"⟩
abbrev cX4_go : ByteArray := prog_6_method_56_code
def yX4_go : MethodName := ⟨RX4, "go", "(Z)Z"⟩
abbrev cX4_firstError : ByteArray := prog_6_method_57_code
def yX4_firstError : MethodName := ⟨RX4, "firstError", "()I"⟩
abbrev cX4_follow : ByteArray := prog_6_method_58_code
def yX4_follow : MethodName := ⟨RX4, "follow", "()I"⟩
abbrev cX4_keep : ByteArray := prog_6_method_59_code
def yX4_keep : MethodName := ⟨RX4, "keep", "(I)V"⟩
abbrev cX4_goBack : ByteArray := prog_6_method_60_code
def yX4_goBack : MethodName := ⟨RX4, "goBack", "(I)V"⟩
abbrev cX4_undo : ByteArray := prog_6_method_61_code
def yX4_undo : MethodName := ⟨RX4, "undo", "()V"⟩
abbrev cX4_savedStates : ByteArray := prog_6_method_62_code
def yX4_savedStates : MethodName := ⟨RX4, "savedStates", "()I"⟩
abbrev cX4_told : ByteArray := prog_6_method_63_code
def yX4_told : MethodName := ⟨RX4, "told", "(II)I"⟩
abbrev cX4_priceOf : ByteArray := prog_6_method_64_code
def yX4_priceOf : MethodName := ⟨RX4, "priceOf", "(I)I"⟩
abbrev cX4_cutOf : ByteArray := prog_6_method_65_code
def yX4_cutOf : MethodName := ⟨RX4, "cutOf", "(I)I"⟩
abbrev cX4_pledged : ByteArray := prog_6_method_66_code
def yX4_pledged : MethodName := ⟨RX4, "pledged", "(I)I"⟩
abbrev cX4_pledgedOf : ByteArray := prog_6_method_67_code
def yX4_pledgedOf : MethodName := ⟨RX4, "pledgedOf", "(I)I"⟩
abbrev cX4_soldOf : ByteArray := prog_6_method_68_code
def yX4_soldOf : MethodName := ⟨RX4, "soldOf", "(I)I"⟩
abbrev cX4_piecesOf : ByteArray := prog_6_method_69_code
def yX4_piecesOf : MethodName := ⟨RX4, "piecesOf", "(II)I"⟩
abbrev cX4_coinsOf : ByteArray := prog_6_method_70_code
def yX4_coinsOf : MethodName := ⟨RX4, "coinsOf", "(I)I"⟩
abbrev cX4_debtOf : ByteArray := prog_6_method_71_code
def yX4_debtOf : MethodName := ⟨RX4, "debtOf", "(I)I"⟩
abbrev cX4_worth : ByteArray := prog_6_method_72_code
def yX4_worth : MethodName := ⟨RX4, "worth", "(I)I"⟩
abbrev cX4_worthOf : ByteArray := prog_6_method_73_code
def yX4_worthOf : MethodName := ⟨RX4, "worthOf", "(I)I"⟩
abbrev cX4_coverOf : ByteArray := prog_6_method_74_code
def yX4_coverOf : MethodName := ⟨RX4, "coverOf", "(I)I"⟩
abbrev cX4_room : ByteArray := prog_6_method_75_code
def yX4_room : MethodName := ⟨RX4, "room", "(I)I"⟩
abbrev cX4_roomOf : ByteArray := prog_6_method_76_code
def yX4_roomOf : MethodName := ⟨RX4, "roomOf", "(I)I"⟩
abbrev cX4_isCalled : ByteArray := prog_6_method_77_code
def yX4_isCalled : MethodName := ⟨RX4, "isCalled", "(I)Z"⟩
abbrev cX4_hoursLeft : ByteArray := prog_6_method_78_code
def yX4_hoursLeft : MethodName := ⟨RX4, "hoursLeft", "(I)I"⟩
abbrev cX4_isBarred : ByteArray := prog_6_method_79_code
def yX4_isBarred : MethodName := ⟨RX4, "isBarred", "(I)Z"⟩
abbrev cX4_isRiskier : ByteArray := prog_6_method_80_code
def yX4_isRiskier : MethodName := ⟨RX4, "isRiskier", "(II)Z"⟩
abbrev cX4_rank : ByteArray := prog_6_method_81_code
def yX4_rank : MethodName := ⟨RX4, "rank", "(I)I"⟩
abbrev cX4_risky : ByteArray := prog_6_method_82_code
def yX4_risky : MethodName := ⟨RX4, "risky", "(I)I"⟩
abbrev cX4_rankOf : ByteArray := prog_6_method_83_code
def yX4_rankOf : MethodName := ⟨RX4, "rankOf", "(I)I"⟩
abbrev cX4_riskyBySorting : ByteArray := prog_6_method_84_code
def yX4_riskyBySorting : MethodName := ⟨RX4, "riskyBySorting", "(I)I"⟩
abbrev cX4_riskyByTaking : ByteArray := prog_6_method_85_code
def yX4_riskyByTaking : MethodName := ⟨RX4, "riskyByTaking", "(I)I"⟩
abbrev cX4_allCalled : ByteArray := prog_6_method_86_code
def yX4_allCalled : MethodName := ⟨RX4, "allCalled", "()I"⟩
abbrev cX4_calledNow : ByteArray := prog_6_method_87_code
def yX4_calledNow : MethodName := ⟨RX4, "calledNow", "()I"⟩
abbrev cX4_rule : ByteArray := prog_6_method_88_code
def yX4_rule : MethodName := ⟨RX4, "rule", "(I)I"⟩
abbrev cX4_rate : ByteArray := prog_6_method_89_code
def yX4_rate : MethodName := ⟨RX4, "rate", "()I"⟩
abbrev cX4_grace : ByteArray := prog_6_method_90_code
def yX4_grace : MethodName := ⟨RX4, "grace", "()I"⟩
abbrev cX4_slip : ByteArray := prog_6_method_91_code
def yX4_slip : MethodName := ⟨RX4, "slip", "()I"⟩
abbrev cX4_order : ByteArray := prog_6_method_92_code
def yX4_order : MethodName := ⟨RX4, "order", "()I"⟩
abbrev cX4_falling : ByteArray := prog_6_method_93_code
def yX4_falling : MethodName := ⟨RX4, "falling", "(I)I"⟩
abbrev cX4_toldFall : ByteArray := prog_6_method_94_code
def yX4_toldFall : MethodName := ⟨RX4, "toldFall", "(I)I"⟩
abbrev cX4_fallToCallByTrying : ByteArray := prog_6_method_95_code
def yX4_fallToCallByTrying : MethodName := ⟨RX4, "fallToCallByTrying", "(I)I"⟩
abbrev cX4_fallToCallByHalving : ByteArray := prog_6_method_96_code
def yX4_fallToCallByHalving : MethodName := ⟨RX4, "fallToCallByHalving", "(I)I"⟩
abbrev cX4_hoursToCall : ByteArray := prog_6_method_97_code
def yX4_hoursToCall : MethodName := ⟨RX4, "hoursToCall", "(I)I"⟩
abbrev cX4_would : ByteArray := prog_6_method_98_code
def yX4_would : MethodName := ⟨RX4, "would", "(IZ)I"⟩
abbrev cX4_wouldSell : ByteArray := prog_6_method_99_code
def yX4_wouldSell : MethodName := ⟨RX4, "wouldSell", "(I)I"⟩
abbrev cX4_wouldLose : ByteArray := prog_6_method_100_code
def yX4_wouldLose : MethodName := ⟨RX4, "wouldLose", "(I)I"⟩
abbrev cX4_ifFallen : ByteArray := prog_6_method_101_code
def yX4_ifFallen : MethodName := ⟨RX4, "ifFallen", "(I)I"⟩
abbrev cX4_calledIfFallen : ByteArray := prog_6_method_102_code
def yX4_calledIfFallen : MethodName := ⟨RX4, "calledIfFallen", "(I)I"⟩
abbrev cX4_hours : ByteArray := prog_6_method_103_code
def yX4_hours : MethodName := ⟨RX4, "hours", "()I"⟩
abbrev cX4_debts : ByteArray := prog_6_method_104_code
def yX4_debts : MethodName := ⟨RX4, "debts", "()I"⟩
abbrev cX4_debtsByClients : ByteArray := prog_6_method_105_code
def yX4_debtsByClients : MethodName := ⟨RX4, "debtsByClients", "()I"⟩
abbrev cX4_debtsByAccount : ByteArray := prog_6_method_106_code
def yX4_debtsByAccount : MethodName := ⟨RX4, "debtsByAccount", "()I"⟩
abbrev cX4_lent : ByteArray := prog_6_method_107_code
def yX4_lent : MethodName := ⟨RX4, "lent", "()I"⟩
abbrev cX4_interest : ByteArray := prog_6_method_108_code
def yX4_interest : MethodName := ⟨RX4, "interest", "()I"⟩
abbrev cX4_repaid : ByteArray := prog_6_method_109_code
def yX4_repaid : MethodName := ⟨RX4, "repaid", "()I"⟩
abbrev cX4_lost : ByteArray := prog_6_method_110_code
def yX4_lost : MethodName := ⟨RX4, "lost", "()I"⟩
abbrev cX4_calls : ByteArray := prog_6_method_111_code
def yX4_calls : MethodName := ⟨RX4, "calls", "()I"⟩
abbrev cX4_soldOut : ByteArray := prog_6_method_112_code
def yX4_soldOut : MethodName := ⟨RX4, "soldOut", "()I"⟩
abbrev cX4_used : ByteArray := prog_6_method_113_code
def yX4_used : MethodName := ⟨RX4, "used", "()D"⟩
abbrev cX4_usedShare : ByteArray := prog_6_method_114_code
def yX4_usedShare : MethodName := ⟨RX4, "usedShare", "()D"⟩
abbrev cX4_bitsOf : ByteArray := prog_6_method_115_code
def yX4_bitsOf : MethodName := ⟨RX4, "bitsOf", "(DII)J"⟩
abbrev cX4_mix : ByteArray := prog_6_method_116_code
def yX4_mix : MethodName := ⟨RX4, "mix", "(J)V"⟩
abbrev cX4_digest : ByteArray := prog_6_method_117_code
def yX4_digest : MethodName := ⟨RX4, "digest", "()J"⟩
def RJx145de : String := "java/io/Serializable"
def TJx145de : u_T := fun k => match k with
  | _ => ("", "", "", false)
def tyJx145de : Nat → FieldType := fun k => match k with
  | _ => .int
abbrev wsJx145de0 : List Cond := u_ws RJx145de TJx145de 0
theorem nmJx145de : ∀ a, a < 0 → ∀ b, b < 0 → a ≠ b → (TJx145de a).2.1 ≠ (TJx145de b).2.1 := by decide +kernel
theorem tyJx145de_ok : ∀ k, k < 0 → parseFieldDescriptor (TJx145de k).2.2.1 = some (tyJx145de k) := by decide +kernel
def RJx9f9b0 : String := "java/lang/CharSequence"
def TJx9f9b0 : u_T := fun k => match k with
  | _ => ("", "", "", false)
def tyJx9f9b0 : Nat → FieldType := fun k => match k with
  | _ => .int
abbrev wsJx9f9b00 : List Cond := u_ws RJx9f9b0 TJx9f9b0 0
theorem nmJx9f9b0 : ∀ a, a < 0 → ∀ b, b < 0 → a ≠ b → (TJx9f9b0 a).2.1 ≠ (TJx9f9b0 b).2.1 := by decide +kernel
theorem tyJx9f9b0_ok : ∀ k, k < 0 → parseFieldDescriptor (TJx9f9b0 k).2.2.1 = some (tyJx9f9b0 k) := by decide +kernel
def RJxb160c : String := "java/lang/Comparable"
def TJxb160c : u_T := fun k => match k with
  | _ => ("", "", "", false)
def tyJxb160c : Nat → FieldType := fun k => match k with
  | _ => .int
abbrev wsJxb160c0 : List Cond := u_ws RJxb160c TJxb160c 0
theorem nmJxb160c : ∀ a, a < 0 → ∀ b, b < 0 → a ≠ b → (TJxb160c a).2.1 ≠ (TJxb160c b).2.1 := by decide +kernel
theorem tyJxb160c_ok : ∀ k, k < 0 → parseFieldDescriptor (TJxb160c k).2.2.1 = some (tyJxb160c k) := by decide +kernel
def RJ0 : String := "java/lang/String"
def TJ0 : u_T := fun k => match k with
  | _ => ("", "", "", false)
def tyJ0 : Nat → FieldType := fun k => match k with
  | _ => .int
abbrev wsJ00 : List Cond := u_ws RJ0 TJ0 0
theorem nmJ0 : ∀ a, a < 0 → ∀ b, b < 0 → a ≠ b → (TJ0 a).2.1 ≠ (TJ0 b).2.1 := by decide +kernel
theorem tyJ0_ok : ∀ k, k < 0 → parseFieldDescriptor (TJ0 k).2.2.1 = some (tyJ0 k) := by decide +kernel
abbrev cJ0_length_8abf5 : ByteArray := prog_12_method_54_code
def yJ0_length_8abf5 : MethodName := ⟨RJ0, "length", "()I"⟩
abbrev cJ0_isEmpty_aae02 : ByteArray := prog_12_method_55_code
def yJ0_isEmpty_aae02 : MethodName := ⟨RJ0, "isEmpty", "()Z"⟩
abbrev cJ0_charAt_5068e : ByteArray := prog_12_method_56_code
def yJ0_charAt_5068e : MethodName := ⟨RJ0, "charAt", "(I)C"⟩
abbrev cJ0_coder_7d493 : ByteArray := prog_12_method_152_code
def yJ0_coder_7d493 : MethodName := ⟨RJ0, "coder", "()B"⟩
abbrev cJ0_isLatin1_aae02 : ByteArray := prog_12_method_154_code
def yJ0_isLatin1_aae02 : MethodName := ⟨RJ0, "isLatin1", "()Z"⟩
abbrev cJ0_checkIndex_df160 : ByteArray := prog_12_method_155_code
def yJ0_checkIndex_df160 : MethodName := ⟨RJ0, "checkIndex", "(II)V"⟩
def RJ1 : String := "java/lang/StringLatin1"
def TJ1 : u_T := fun k => match k with
  | _ => ("", "", "", false)
def tyJ1 : Nat → FieldType := fun k => match k with
  | _ => .int
abbrev wsJ10 : List Cond := u_ws RJ1 TJ1 0
theorem nmJ1 : ∀ a, a < 0 → ∀ b, b < 0 → a ≠ b → (TJ1 a).2.1 ≠ (TJ1 b).2.1 := by decide +kernel
theorem tyJ1_ok : ∀ k, k < 0 → parseFieldDescriptor (TJ1 k).2.2.1 = some (tyJ1 k) := by decide +kernel
abbrev cJ1_charAt_3b067 : ByteArray := prog_13_method_2_code
def yJ1_charAt_3b067 : MethodName := ⟨RJ1, "charAt", "([BI)C"⟩
def RJ2 : String := "java/lang/StringUTF16"
def TJ2 : u_T := fun k => match k with
  | _ => ("", "", "", false)
def tyJ2 : Nat → FieldType := fun k => match k with
  | _ => .int
abbrev wsJ20 : List Cond := u_ws RJ2 TJ2 0
theorem nmJ2 : ∀ a, a < 0 → ∀ b, b < 0 → a ≠ b → (TJ2 a).2.1 ≠ (TJ2 b).2.1 := by decide +kernel
theorem tyJ2_ok : ∀ k, k < 0 → parseFieldDescriptor (TJ2 k).2.2.1 = some (tyJ2 k) := by decide +kernel
abbrev cJ2_getChar_3b067 : ByteArray := prog_14_method_5_code
def yJ2_getChar_3b067 : MethodName := ⟨RJ2, "getChar", "([BI)C"⟩
abbrev cJ2_length_9d52b : ByteArray := prog_14_method_6_code
def yJ2_length_9d52b : MethodName := ⟨RJ2, "length", "([B)I"⟩
abbrev cJ2_charAt_3b067 : ByteArray := prog_14_method_83_code
def yJ2_charAt_3b067 : MethodName := ⟨RJ2, "charAt", "([BI)C"⟩
abbrev cJ2_checkIndex_2214a : ByteArray := prog_14_method_91_code
def yJ2_checkIndex_2214a : MethodName := ⟨RJ2, "checkIndex", "(I[B)V"⟩
def RJ10 : String := "java/lang/System"
def TJ10 : u_T := fun k => match k with
  | _ => ("", "", "", false)
def tyJ10 : Nat → FieldType := fun k => match k with
  | _ => .int
abbrev wsJ100 : List Cond := u_ws RJ10 TJ10 0
theorem nmJ10 : ∀ a, a < 0 → ∀ b, b < 0 → a ≠ b → (TJ10 a).2.1 ≠ (TJ10 b).2.1 := by decide +kernel
theorem tyJ10_ok : ∀ k, k < 0 → parseFieldDescriptor (TJ10 k).2.2.1 = some (tyJ10 k) := by decide +kernel
def RJxfd54e : String := "java/lang/constant/Constable"
def TJxfd54e : u_T := fun k => match k with
  | _ => ("", "", "", false)
def tyJxfd54e : Nat → FieldType := fun k => match k with
  | _ => .int
abbrev wsJxfd54e0 : List Cond := u_ws RJxfd54e TJxfd54e 0
theorem nmJxfd54e : ∀ a, a < 0 → ∀ b, b < 0 → a ≠ b → (TJxfd54e a).2.1 ≠ (TJxfd54e b).2.1 := by decide +kernel
theorem tyJxfd54e_ok : ∀ k, k < 0 → parseFieldDescriptor (TJxfd54e k).2.2.1 = some (tyJxfd54e k) := by decide +kernel
def RJx3cf43 : String := "java/lang/constant/ConstantDesc"
def TJx3cf43 : u_T := fun k => match k with
  | _ => ("", "", "", false)
def tyJx3cf43 : Nat → FieldType := fun k => match k with
  | _ => .int
abbrev wsJx3cf430 : List Cond := u_ws RJx3cf43 TJx3cf43 0
theorem nmJx3cf43 : ∀ a, a < 0 → ∀ b, b < 0 → a ≠ b → (TJx3cf43 a).2.1 ≠ (TJx3cf43 b).2.1 := by decide +kernel
theorem tyJx3cf43_ok : ∀ k, k < 0 → parseFieldDescriptor (TJx3cf43 k).2.2.1 = some (tyJx3cf43 k) := by decide +kernel
def RJ7 : String := "java/util/Arrays"
def TJ7 : u_T := fun k => match k with
  | _ => ("", "", "", false)
def tyJ7 : Nat → FieldType := fun k => match k with
  | _ => .int
abbrev wsJ70 : List Cond := u_ws RJ7 TJ7 0
theorem nmJ7 : ∀ a, a < 0 → ∀ b, b < 0 → a ≠ b → (TJ7 a).2.1 ≠ (TJ7 b).2.1 := by decide +kernel
theorem tyJ7_ok : ∀ k, k < 0 → parseFieldDescriptor (TJ7 k).2.2.1 = some (tyJ7 k) := by decide +kernel
abbrev cJ7_fill_53178 : ByteArray := prog_17_method_103_code
def yJ7_fill_53178 : MethodName := ⟨RJ7, "fill", "([II)V"⟩
def RJ3 : String := "jdk/internal/util/Preconditions"
def TJ3 : u_T := fun k => match k with
  | _ => ("", "", "", false)
def tyJ3 : Nat → FieldType := fun k => match k with
  | _ => .int
abbrev wsJ30 : List Cond := u_ws RJ3 TJ3 0
theorem nmJ3 : ∀ a, a < 0 → ∀ b, b < 0 → a ≠ b → (TJ3 a).2.1 ≠ (TJ3 b).2.1 := by decide +kernel
theorem tyJ3_ok : ∀ k, k < 0 → parseFieldDescriptor (TJ3 k).2.2.1 = some (tyJ3 k) := by decide +kernel
abbrev cJ3_checkIndex_8e157 : ByteArray := prog_18_method_11_code
def yJ3_checkIndex_8e157 : MethodName := ⟨RJ3, "checkIndex", "(IILjava/util/function/BiFunction;)I"⟩
def RL : String := "PledgeHouseLaw"
abbrev cL_setPrice : ByteArray := method_3_code
def yL_setPrice : MethodName := ⟨RL, "setPrice", "(LPledgeHouse;II[J)I"⟩
abbrev cL_setCut : ByteArray := method_4_code
def yL_setCut : MethodName := ⟨RL, "setCut", "(LPledgeHouse;II[J)I"⟩
abbrev cL_fall : ByteArray := method_5_code
def yL_fall : MethodName := ⟨RL, "fall", "(LPledgeHouse;I[J)I"⟩
abbrev cL_pledge : ByteArray := method_6_code
def yL_pledge : MethodName := ⟨RL, "pledge", "(LPledgeHouse;III[J)I"⟩
abbrev cL_release : ByteArray := method_7_code
def yL_release : MethodName := ⟨RL, "release", "(LPledgeHouse;III[J)I"⟩
abbrev cL_deposit : ByteArray := method_8_code
def yL_deposit : MethodName := ⟨RL, "deposit", "(LPledgeHouse;II[J)I"⟩
abbrev cL_withdraw : ByteArray := method_9_code
def yL_withdraw : MethodName := ⟨RL, "withdraw", "(LPledgeHouse;II[J)I"⟩
abbrev cL_lend : ByteArray := method_10_code
def yL_lend : MethodName := ⟨RL, "lend", "(LPledgeHouse;II[J)I"⟩
abbrev cL_payBack : ByteArray := method_11_code
def yL_payBack : MethodName := ⟨RL, "payBack", "(LPledgeHouse;II[J)I"⟩
abbrev cL_readmit : ByteArray := method_12_code
def yL_readmit : MethodName := ⟨RL, "readmit", "(LPledgeHouse;I)I"⟩
abbrev cL_pass : ByteArray := method_13_code
def yL_pass : MethodName := ⟨RL, "pass", "(LPledgeHouse;I[J)I"⟩
abbrev cL_changeRate : ByteArray := method_14_code
def yL_changeRate : MethodName := ⟨RL, "changeRate", "(LPledgeHouse;I[J)I"⟩
abbrev cL_changeGrace : ByteArray := method_15_code
def yL_changeGrace : MethodName := ⟨RL, "changeGrace", "(LPledgeHouse;I[J)I"⟩
abbrev cL_changeSlip : ByteArray := method_16_code
def yL_changeSlip : MethodName := ⟨RL, "changeSlip", "(LPledgeHouse;I[J)I"⟩
abbrev cL_append : ByteArray := method_17_code
def yL_append : MethodName := ⟨RL, "append", "(LPledgeHouse;I[J)I"⟩
abbrev cL_follow : ByteArray := method_18_code
def yL_follow : MethodName := ⟨RL, "follow", "(LPledgeHouse;[J)I"⟩
abbrev cL_keep : ByteArray := method_19_code
def yL_keep : MethodName := ⟨RL, "keep", "(LPledgeHouse;I)I"⟩
abbrev cL_goBack : ByteArray := method_20_code
def yL_goBack : MethodName := ⟨RL, "goBack", "(LPledgeHouse;I)I"⟩
abbrev cL_undo : ByteArray := method_21_code
def yL_undo : MethodName := ⟨RL, "undo", "(LPledgeHouse;)I"⟩
abbrev cL_priceOf : ByteArray := method_22_code
def yL_priceOf : MethodName := ⟨RL, "priceOf", "(LPledgeHouse;I[J)I"⟩
abbrev cL_cutOf : ByteArray := method_23_code
def yL_cutOf : MethodName := ⟨RL, "cutOf", "(LPledgeHouse;I[J)I"⟩
abbrev cL_pledgedOf : ByteArray := method_24_code
def yL_pledgedOf : MethodName := ⟨RL, "pledgedOf", "(LPledgeHouse;I[J)I"⟩
abbrev cL_soldOf : ByteArray := method_25_code
def yL_soldOf : MethodName := ⟨RL, "soldOf", "(LPledgeHouse;I[J)I"⟩
abbrev cL_piecesOf : ByteArray := method_26_code
def yL_piecesOf : MethodName := ⟨RL, "piecesOf", "(LPledgeHouse;II[J)I"⟩
abbrev cL_coinsOf : ByteArray := method_27_code
def yL_coinsOf : MethodName := ⟨RL, "coinsOf", "(LPledgeHouse;I[J)I"⟩
abbrev cL_debtOf : ByteArray := method_28_code
def yL_debtOf : MethodName := ⟨RL, "debtOf", "(LPledgeHouse;I[J)I"⟩
abbrev cL_worthOf : ByteArray := method_29_code
def yL_worthOf : MethodName := ⟨RL, "worthOf", "(LPledgeHouse;I[J)I"⟩
abbrev cL_coverOf : ByteArray := method_30_code
def yL_coverOf : MethodName := ⟨RL, "coverOf", "(LPledgeHouse;I[J)I"⟩
abbrev cL_roomOf : ByteArray := method_31_code
def yL_roomOf : MethodName := ⟨RL, "roomOf", "(LPledgeHouse;I[J)I"⟩
abbrev cL_isCalled : ByteArray := method_32_code
def yL_isCalled : MethodName := ⟨RL, "isCalled", "(LPledgeHouse;I[J)I"⟩
abbrev cL_hoursLeft : ByteArray := method_33_code
def yL_hoursLeft : MethodName := ⟨RL, "hoursLeft", "(LPledgeHouse;I[J)I"⟩
abbrev cL_isBarred : ByteArray := method_34_code
def yL_isBarred : MethodName := ⟨RL, "isBarred", "(LPledgeHouse;I[J)I"⟩
abbrev cL_rankOf : ByteArray := method_35_code
def yL_rankOf : MethodName := ⟨RL, "rankOf", "(LPledgeHouse;I[J)I"⟩
abbrev cL_riskyBySorting : ByteArray := method_36_code
def yL_riskyBySorting : MethodName := ⟨RL, "riskyBySorting", "(LPledgeHouse;I[J)I"⟩
abbrev cL_riskyByTaking : ByteArray := method_37_code
def yL_riskyByTaking : MethodName := ⟨RL, "riskyByTaking", "(LPledgeHouse;I[J)I"⟩
abbrev cL_fallToCallByTrying : ByteArray := method_38_code
def yL_fallToCallByTrying : MethodName := ⟨RL, "fallToCallByTrying", "(LPledgeHouse;I[J)I"⟩
abbrev cL_fallToCallByHalving : ByteArray := method_39_code
def yL_fallToCallByHalving : MethodName := ⟨RL, "fallToCallByHalving", "(LPledgeHouse;I[J)I"⟩
abbrev cL_hoursToCall : ByteArray := method_40_code
def yL_hoursToCall : MethodName := ⟨RL, "hoursToCall", "(LPledgeHouse;I[J)I"⟩
abbrev cL_wouldSell : ByteArray := method_41_code
def yL_wouldSell : MethodName := ⟨RL, "wouldSell", "(LPledgeHouse;I[J)I"⟩
abbrev cL_wouldLose : ByteArray := method_42_code
def yL_wouldLose : MethodName := ⟨RL, "wouldLose", "(LPledgeHouse;I[J)I"⟩
abbrev cL_calledIfFallen : ByteArray := method_43_code
def yL_calledIfFallen : MethodName := ⟨RL, "calledIfFallen", "(LPledgeHouse;I[J)I"⟩
abbrev cL_law : ByteArray := code
def yL_law : MethodName := ⟨RL, "law", "([I)Z"⟩
abbrev vwCl : List vw_C := [(RX0, TX0, 19), (RX1, TX1, 8), (RX2, TX2, 8), (RX3, TX3, 9), (RX4, TX4, 12)]
end
section
def Gw : List Cond := lw_tbl.filter goodWord
theorem Gw_in : ∀ w ∈ Gw, w ∈ lw_tbl := fun w h => (List.mem_filter.mp h).1
theorem Gw_good : ∀ w ∈ Gw, goodWord w = true := fun w h => (List.mem_filter.mp h).2
theorem Gw_of {w : Cond} (i : Nat) (h : lw_tbl[i]? = some w) (g : goodWord w = true) : w ∈ Gw := List.mem_filter.mpr ⟨List.mem_of_getElem? h, g⟩
theorem g0 : Cond.selects "PledgeHouse" yX3_save yX3_save ∈ Gw := Gw_of 0 (by decide +kernel) (by decide +kernel)
theorem g1 : Cond.selects "PledgeHouse" yX3_saveBefore yX3_saveBefore ∈ Gw := Gw_of 1 (by decide +kernel) (by decide +kernel)
theorem g2 : Cond.selects "PledgeHouse" yX3_hashKind yX3_hashKind ∈ Gw := Gw_of 2 (by decide +kernel) (by decide +kernel)
theorem g3 : Cond.selects "PledgeHouse" yX3_hashPledges yX3_hashPledges ∈ Gw := Gw_of 3 (by decide +kernel) (by decide +kernel)
theorem g4 : Cond.selects "PledgeHouse" yX3_hashOutlook yX3_hashOutlook ∈ Gw := Gw_of 4 (by decide +kernel) (by decide +kernel)
theorem g5 : Cond.selects "PledgeHouse" yX3_hashRules yX3_hashRules ∈ Gw := Gw_of 5 (by decide +kernel) (by decide +kernel)
theorem g6 : Cond.selects "PledgeHouse" yX3_hashAccounts yX3_hashAccounts ∈ Gw := Gw_of 6 (by decide +kernel) (by decide +kernel)
theorem g7 : Cond.selects "PledgeHouse" yX3_hashSlotsAndText yX3_hashSlotsAndText ∈ Gw := Gw_of 7 (by decide +kernel) (by decide +kernel)
theorem g8 : Cond.selects "java/lang/Throwable" ⟨"java/lang/Throwable", "fillInStackTrace", "(I)Ljava/lang/Throwable;"⟩ ⟨"java/lang/Throwable", "fillInStackTrace", "(I)Ljava/lang/Throwable;"⟩ ∈ Gw := Gw_of 8 (by decide +kernel) (by decide +kernel)
theorem g9 : Cond.selects "PledgeHouse" yX3_carryOutPart yX3_carryOutPart ∈ Gw := Gw_of 9 (by decide +kernel) (by decide +kernel)
theorem g10 : Cond.selects "PledgeHouseModel" yX4_sets yX4_sets ∈ Gw := Gw_of 10 (by decide +kernel) (by decide +kernel)
theorem g11 : Cond.selects "PledgeHouseModel" yX4_throwing yX4_throwing ∈ Gw := Gw_of 11 (by decide +kernel) (by decide +kernel)
theorem g12 : Cond.selects "PledgeHouseModel" yX4_save yX4_save ∈ Gw := Gw_of 12 (by decide +kernel) (by decide +kernel)
theorem g13 : Cond.selects "PledgeHouseModel" yX4_looks yX4_looks ∈ Gw := Gw_of 13 (by decide +kernel) (by decide +kernel)
theorem g14 : Cond.selects "PledgeHouseModel" yX4_isCovered yX4_isCovered ∈ Gw := Gw_of 14 (by decide +kernel) (by decide +kernel)
theorem g15 : Cond.selects "PledgeHouseModel" yX4_of yX4_of ∈ Gw := Gw_of 15 (by decide +kernel) (by decide +kernel)
theorem g16 : Cond.selects "PledgeHouseModel" yX4_cover yX4_cover ∈ Gw := Gw_of 16 (by decide +kernel) (by decide +kernel)
theorem g17 : Cond.selects "PledgeHouseModel" yX4_coverIf yX4_coverIf ∈ Gw := Gw_of 17 (by decide +kernel) (by decide +kernel)
theorem g18 : Cond.selects "PledgeHouseModel" yX4_fallen yX4_fallen ∈ Gw := Gw_of 18 (by decide +kernel) (by decide +kernel)
theorem g19 : Cond.selects "PledgeHouseModel" yX4_called yX4_called ∈ Gw := Gw_of 19 (by decide +kernel) (by decide +kernel)
theorem g20 : Cond.selects "PledgeHouseModel" yX4_lay yX4_lay ∈ Gw := Gw_of 20 (by decide +kernel) (by decide +kernel)
theorem g21 : Cond.selects "PledgeHouseModel" yX4_areThere yX4_areThere ∈ Gw := Gw_of 21 (by decide +kernel) (by decide +kernel)
theorem g22 : Cond.selects "PledgeHouseModel" yX4_canPledge yX4_canPledge ∈ Gw := Gw_of 22 (by decide +kernel) (by decide +kernel)
theorem g23 : Cond.selects "PledgeHouseModel" yX4_grow yX4_grow ∈ Gw := Gw_of 23 (by decide +kernel) (by decide +kernel)
theorem g24 : Cond.selects "PledgeHouseModel" yX4_canLack yX4_canLack ∈ Gw := Gw_of 24 (by decide +kernel) (by decide +kernel)
theorem g25 : Cond.selects "PledgeHouseModel" yX4_isThere yX4_isThere ∈ Gw := Gw_of 25 (by decide +kernel) (by decide +kernel)
theorem g26 : Cond.selects "PledgeHouseModel" yX4_canLend yX4_canLend ∈ Gw := Gw_of 26 (by decide +kernel) (by decide +kernel)
theorem g27 : Cond.selects "PledgeHouseModel" yX4_lends yX4_lends ∈ Gw := Gw_of 27 (by decide +kernel) (by decide +kernel)
theorem g28 : Cond.selects "PledgeHouseModel" yX4_paysBack yX4_paysBack ∈ Gw := Gw_of 28 (by decide +kernel) (by decide +kernel)
theorem g29 : Cond.selects "PledgeHouseModel" yX4_passes yX4_passes ∈ Gw := Gw_of 29 (by decide +kernel) (by decide +kernel)
theorem g30 : Cond.selects "PledgeHouseModel" yX4_hour yX4_hour ∈ Gw := Gw_of 30 (by decide +kernel) (by decide +kernel)
theorem g31 : Cond.selects "PledgeHouseModel" yX4_sellsOut yX4_sellsOut ∈ Gw := Gw_of 31 (by decide +kernel) (by decide +kernel)
theorem g32 : Cond.selects "PledgeHouseModel" yX4_pays yX4_pays ∈ Gw := Gw_of 32 (by decide +kernel) (by decide +kernel)
theorem g33 : Cond.selects "PledgeHouseModel" yX4_selling yX4_selling ∈ Gw := Gw_of 33 (by decide +kernel) (by decide +kernel)
theorem g34 : Cond.selects "PledgeHouseModel" yX4_isAhead yX4_isAhead ∈ Gw := Gw_of 34 (by decide +kernel) (by decide +kernel)
theorem g35 : Cond.selects "PledgeHouseModel" yX4_rules yX4_rules ∈ Gw := Gw_of 35 (by decide +kernel) (by decide +kernel)
theorem g36 : Cond.selects "PledgeHouseModel" yX4_go yX4_go ∈ Gw := Gw_of 36 (by decide +kernel) (by decide +kernel)
theorem g37 : Cond.selects "PledgeHouseModel" yX4_isOrdered yX4_isOrdered ∈ Gw := Gw_of 37 (by decide +kernel) (by decide +kernel)
theorem g38 : Cond.selects "PledgeHouseModel" yX4_sign yX4_sign ∈ Gw := Gw_of 38 (by decide +kernel) (by decide +kernel)
theorem g39 : Cond.selects "PledgeHouseModel" yX4_number yX4_number ∈ Gw := Gw_of 39 (by decide +kernel) (by decide +kernel)
theorem g40 : Cond.selects "PledgeHouseModel" yX4_isFollowed yX4_isFollowed ∈ Gw := Gw_of 40 (by decide +kernel) (by decide +kernel)
theorem g41 : Cond.selects "PledgeHouseModel" yX4_keepsAside yX4_keepsAside ∈ Gw := Gw_of 41 (by decide +kernel) (by decide +kernel)
theorem g42 : Cond.selects "PledgeHouseModel" yX4_putsBack yX4_putsBack ∈ Gw := Gw_of 42 (by decide +kernel) (by decide +kernel)
theorem g43 : Cond.selects "PledgeHouseModel" yX4_allCalled yX4_allCalled ∈ Gw := Gw_of 43 (by decide +kernel) (by decide +kernel)
theorem g44 : Cond.selects "PledgeHouseModel" yX4_told yX4_told ∈ Gw := Gw_of 44 (by decide +kernel) (by decide +kernel)
theorem g45 : Cond.selects "PledgeHouseModel" yX4_pledged yX4_pledged ∈ Gw := Gw_of 45 (by decide +kernel) (by decide +kernel)
theorem g46 : Cond.selects "PledgeHouseModel" yX4_worth yX4_worth ∈ Gw := Gw_of 46 (by decide +kernel) (by decide +kernel)
theorem g47 : Cond.selects "PledgeHouseModel" yX4_room yX4_room ∈ Gw := Gw_of 47 (by decide +kernel) (by decide +kernel)
theorem g48 : Cond.selects "PledgeHouseModel" yX4_rank yX4_rank ∈ Gw := Gw_of 48 (by decide +kernel) (by decide +kernel)
theorem g49 : Cond.selects "PledgeHouseModel" yX4_isRiskier yX4_isRiskier ∈ Gw := Gw_of 49 (by decide +kernel) (by decide +kernel)
theorem g50 : Cond.selects "PledgeHouseModel" yX4_risky yX4_risky ∈ Gw := Gw_of 50 (by decide +kernel) (by decide +kernel)
theorem g51 : Cond.selects "PledgeHouseModel" yX4_rule yX4_rule ∈ Gw := Gw_of 51 (by decide +kernel) (by decide +kernel)
theorem g52 : Cond.selects "PledgeHouseModel" yX4_toldFall yX4_toldFall ∈ Gw := Gw_of 52 (by decide +kernel) (by decide +kernel)
theorem g53 : Cond.selects "PledgeHouseModel" yX4_falling yX4_falling ∈ Gw := Gw_of 53 (by decide +kernel) (by decide +kernel)
theorem g54 : Cond.selects "PledgeHouseModel" yX4_would yX4_would ∈ Gw := Gw_of 54 (by decide +kernel) (by decide +kernel)
theorem g55 : Cond.selects "PledgeHouseModel" yX4_ifFallen yX4_ifFallen ∈ Gw := Gw_of 55 (by decide +kernel) (by decide +kernel)
theorem g56 : Cond.selects "PledgeHouseModel" yX4_debts yX4_debts ∈ Gw := Gw_of 56 (by decide +kernel) (by decide +kernel)
theorem g57 : Cond.selects "PledgeHouseModel" yX4_used yX4_used ∈ Gw := Gw_of 57 (by decide +kernel) (by decide +kernel)
theorem g58 : Cond.selects "PledgeHouseModel" yX4_mix yX4_mix ∈ Gw := Gw_of 58 (by decide +kernel) (by decide +kernel)
theorem g59 : Cond.initialized "PledgeHouseLaw" ∈ Gw := Gw_of 59 (by decide +kernel) (by decide +kernel)
theorem g60 : Cond.initialized "PledgeHouse" ∈ Gw := Gw_of 60 (by decide +kernel) (by decide +kernel)
theorem g61 : Cond.initialized "PledgeHouse$OrderText" ∈ Gw := Gw_of 61 (by decide +kernel) (by decide +kernel)
theorem g62 : Cond.initialized "PledgeHouse$Sale" ∈ Gw := Gw_of 62 (by decide +kernel) (by decide +kernel)
theorem g63 : Cond.initialized "PledgeHouse$Ledger" ∈ Gw := Gw_of 63 (by decide +kernel) (by decide +kernel)
theorem g64 : Cond.initialized "java/util/Arrays" ∈ Gw := Gw_of 64 (by decide +kernel) (by decide +kernel)
theorem g65 : Cond.initialized "PledgeHouseModel" ∈ Gw := Gw_of 65 (by decide +kernel) (by decide +kernel)
theorem g66 : Cond.initialized "java/lang/Throwable" ∈ Gw := Gw_of 66 (by decide +kernel) (by decide +kernel)
theorem g67 : Cond.initialized "java/lang/Exception" ∈ Gw := Gw_of 67 (by decide +kernel) (by decide +kernel)
theorem g68 : Cond.initialized "java/lang/RuntimeException" ∈ Gw := Gw_of 68 (by decide +kernel) (by decide +kernel)
theorem g69 : Cond.initialized "java/lang/IndexOutOfBoundsException" ∈ Gw := Gw_of 69 (by decide +kernel) (by decide +kernel)
theorem g70 : Cond.initialized "java/lang/IllegalArgumentException" ∈ Gw := Gw_of 70 (by decide +kernel) (by decide +kernel)
theorem g71 : Cond.initialized "java/lang/System" ∈ Gw := Gw_of 71 (by decide +kernel) (by decide +kernel)
theorem g72 : Cond.initialized "java/lang/IllegalStateException" ∈ Gw := Gw_of 72 (by decide +kernel) (by decide +kernel)
theorem g73 : Cond.initialized "java/lang/String" ∈ Gw := Gw_of 73 (by decide +kernel) (by decide +kernel)
theorem g74 : Cond.initialized "java/lang/StringLatin1" ∈ Gw := Gw_of 74 (by decide +kernel) (by decide +kernel)
theorem g75 : Cond.initialized "jdk/internal/util/Preconditions" ∈ Gw := Gw_of 75 (by decide +kernel) (by decide +kernel)
theorem g76 : Cond.initialized "java/lang/StringUTF16" ∈ Gw := Gw_of 76 (by decide +kernel) (by decide +kernel)
theorem g77 : Cond.classLink "PledgeHouseLaw" 8 "PledgeHouse" ∈ Gw := Gw_of 77 (by decide +kernel) (by decide +kernel)
theorem g78 : Cond.instantiable "PledgeHouse" 9 ∈ Gw := Gw_of 78 (by decide +kernel) (by decide +kernel)
theorem g79 : Cond.methodLink "PledgeHouseLaw" 144 yX3_init ∈ Gw := Gw_of 79 (by decide +kernel) (by decide +kernel)
theorem g80 : Cond.instanceMethod yX3_init ∈ Gw := Gw_of 80 (by decide +kernel) (by decide +kernel)
theorem g81 : Cond.code yX3_init prog_1_method_1_code 2 (Option.none : Option Jvm.ClassFile.FieldType) ∈ Gw := Gw_of 81 (by decide +kernel) (by decide +kernel)
theorem g82 : Cond.methodLink "PledgeHouse" 1 ⟨"java/lang/Object", "<init>", "()V"⟩ ∈ Gw := Gw_of 82 (by decide +kernel) (by decide +kernel)
theorem g83 : Cond.instanceMethod ⟨"java/lang/Object", "<init>", "()V"⟩ ∈ Gw := Gw_of 83 (by decide +kernel) (by decide +kernel)
theorem g84 : Cond.code ⟨"java/lang/Object", "<init>", "()V"⟩ object_method_1_code 1 (Option.none : Option Jvm.ClassFile.FieldType) ∈ Gw := Gw_of 84 (by decide +kernel) (by decide +kernel)
theorem g85 : Cond.classLink "PledgeHouse" 7 "PledgeHouse$OrderText" ∈ Gw := Gw_of 85 (by decide +kernel) (by decide +kernel)
theorem g86 : Cond.instantiable "PledgeHouse$OrderText" 8 ∈ Gw := Gw_of 86 (by decide +kernel) (by decide +kernel)
theorem g88 : Cond.instanceMethod yX1_init ∈ Gw := Gw_of 88 (by decide +kernel) (by decide +kernel)
theorem g89 : Cond.code yX1_init prog_3_method_1_code 1 (Option.none : Option Jvm.ClassFile.FieldType) ∈ Gw := Gw_of 89 (by decide +kernel) (by decide +kernel)
theorem g90 : Cond.methodLink "PledgeHouse$OrderText" 3 ⟨"java/lang/Object", "<init>", "()V"⟩ ∈ Gw := Gw_of 90 (by decide +kernel) (by decide +kernel)
theorem g91 : Cond.fieldLink "PledgeHouse$OrderText" 9 "PledgeHouse$OrderText" "codes" "[I" ∈ Gw := Gw_of 91 (by decide +kernel) (by decide +kernel)
theorem g92 : Cond.fieldLink "PledgeHouse" 143 "PledgeHouse$OrderText" "codes" "[I" ∈ Gw := Gw_of 92 (by decide +kernel) (by decide +kernel)
theorem g93 : Cond.fieldLink "PledgeHouse$OrderText" 37 "PledgeHouse$OrderText" "length" "I" ∈ Gw := Gw_of 93 (by decide +kernel) (by decide +kernel)
theorem g94 : Cond.fieldLink "PledgeHouse" 137 "PledgeHouse$OrderText" "length" "I" ∈ Gw := Gw_of 94 (by decide +kernel) (by decide +kernel)
theorem g95 : Cond.fieldLink "PledgeHouse$OrderText" 15 "PledgeHouse$OrderText" "letter" "I" ∈ Gw := Gw_of 95 (by decide +kernel) (by decide +kernel)
theorem g96 : Cond.fieldLink "PledgeHouse" 310 "PledgeHouse$OrderText" "letter" "I" ∈ Gw := Gw_of 96 (by decide +kernel) (by decide +kernel)
theorem g97 : Cond.fieldLink "PledgeHouse$OrderText" 19 "PledgeHouse$OrderText" "step" "I" ∈ Gw := Gw_of 97 (by decide +kernel) (by decide +kernel)
theorem g98 : Cond.fieldLink "PledgeHouse$OrderText" 22 "PledgeHouse$OrderText" "client" "I" ∈ Gw := Gw_of 98 (by decide +kernel) (by decide +kernel)
theorem g99 : Cond.fieldLink "PledgeHouse" 319 "PledgeHouse$OrderText" "client" "I" ∈ Gw := Gw_of 99 (by decide +kernel) (by decide +kernel)
theorem g100 : Cond.fieldLink "PledgeHouse$OrderText" 25 "PledgeHouse$OrderText" "kind" "I" ∈ Gw := Gw_of 100 (by decide +kernel) (by decide +kernel)
theorem g101 : Cond.fieldLink "PledgeHouse" 313 "PledgeHouse$OrderText" "kind" "I" ∈ Gw := Gw_of 101 (by decide +kernel) (by decide +kernel)
theorem g102 : Cond.fieldLink "PledgeHouse$OrderText" 28 "PledgeHouse$OrderText" "number" "I" ∈ Gw := Gw_of 102 (by decide +kernel) (by decide +kernel)
theorem g103 : Cond.fieldLink "PledgeHouse" 316 "PledgeHouse$OrderText" "number" "I" ∈ Gw := Gw_of 103 (by decide +kernel) (by decide +kernel)
theorem g104 : Cond.fieldLink "PledgeHouse$OrderText" 31 "PledgeHouse$OrderText" "digits" "I" ∈ Gw := Gw_of 104 (by decide +kernel) (by decide +kernel)
theorem g122 : Cond.arrayClass Jvm.ClassFile.FieldType.int ∈ Gw := Gw_of 122 (by decide +kernel) (by decide +kernel)
theorem g123 : Cond.classLink "PledgeHouse" 16 "PledgeHouse$Sale" ∈ Gw := Gw_of 123 (by decide +kernel) (by decide +kernel)
theorem g124 : Cond.instantiable "PledgeHouse$Sale" 8 ∈ Gw := Gw_of 124 (by decide +kernel) (by decide +kernel)
theorem g126 : Cond.instanceMethod yX2_init ∈ Gw := Gw_of 126 (by decide +kernel) (by decide +kernel)
theorem g127 : Cond.code yX2_init prog_4_method_1_code 1 (Option.none : Option Jvm.ClassFile.FieldType) ∈ Gw := Gw_of 127 (by decide +kernel) (by decide +kernel)
theorem g128 : Cond.methodLink "PledgeHouse$Sale" 3 ⟨"java/lang/Object", "<init>", "()V"⟩ ∈ Gw := Gw_of 128 (by decide +kernel) (by decide +kernel)
theorem g129 : Cond.fieldLink "PledgeHouse$Sale" 9 "PledgeHouse$Sale" "piecesLeft" "[I" ∈ Gw := Gw_of 129 (by decide +kernel) (by decide +kernel)
theorem g130 : Cond.fieldLink "PledgeHouse$Ledger" 141 "PledgeHouse$Sale" "piecesLeft" "[I" ∈ Gw := Gw_of 130 (by decide +kernel) (by decide +kernel)
theorem g131 : Cond.fieldLink "PledgeHouse$Sale" 15 "PledgeHouse$Sale" "keys" "[I" ∈ Gw := Gw_of 131 (by decide +kernel) (by decide +kernel)
theorem g132 : Cond.fieldLink "PledgeHouse$Sale" 23 "PledgeHouse$Sale" "coinsLeft" "I" ∈ Gw := Gw_of 132 (by decide +kernel) (by decide +kernel)
theorem g133 : Cond.fieldLink "PledgeHouse$Ledger" 144 "PledgeHouse$Sale" "coinsLeft" "I" ∈ Gw := Gw_of 133 (by decide +kernel) (by decide +kernel)
theorem g134 : Cond.fieldLink "PledgeHouse$Sale" 30 "PledgeHouse$Sale" "debtLeft" "I" ∈ Gw := Gw_of 134 (by decide +kernel) (by decide +kernel)
theorem g135 : Cond.fieldLink "PledgeHouse$Ledger" 147 "PledgeHouse$Sale" "debtLeft" "I" ∈ Gw := Gw_of 135 (by decide +kernel) (by decide +kernel)
theorem g136 : Cond.fieldLink "PledgeHouse$Sale" 57 "PledgeHouse$Sale" "coverLeft" "I" ∈ Gw := Gw_of 136 (by decide +kernel) (by decide +kernel)
theorem g137 : Cond.fieldLink "PledgeHouse$Sale" 33 "PledgeHouse$Sale" "piecesSold" "I" ∈ Gw := Gw_of 137 (by decide +kernel) (by decide +kernel)
theorem g138 : Cond.fieldLink "PledgeHouse" 228 "PledgeHouse$Sale" "piecesSold" "I" ∈ Gw := Gw_of 138 (by decide +kernel) (by decide +kernel)
theorem g139 : Cond.fieldLink "PledgeHouse$Sale" 36 "PledgeHouse$Sale" "coinsPaid" "I" ∈ Gw := Gw_of 139 (by decide +kernel) (by decide +kernel)
theorem g140 : Cond.fieldLink "PledgeHouse$Ledger" 150 "PledgeHouse$Sale" "coinsPaid" "I" ∈ Gw := Gw_of 140 (by decide +kernel) (by decide +kernel)
theorem g141 : Cond.fieldLink "PledgeHouse$Sale" 39 "PledgeHouse$Sale" "coinsLost" "I" ∈ Gw := Gw_of 141 (by decide +kernel) (by decide +kernel)
theorem g142 : Cond.fieldLink "PledgeHouse$Ledger" 153 "PledgeHouse$Sale" "coinsLost" "I" ∈ Gw := Gw_of 142 (by decide +kernel) (by decide +kernel)
theorem g143 : Cond.fieldLink "PledgeHouse" 231 "PledgeHouse$Sale" "coinsLost" "I" ∈ Gw := Gw_of 143 (by decide +kernel) (by decide +kernel)
theorem g161 : Cond.classLink "PledgeHouse" 27 "PledgeHouse$Ledger" ∈ Gw := Gw_of 161 (by decide +kernel) (by decide +kernel)
theorem g163 : Cond.instantiable "PledgeHouse$Ledger" 19 ∈ Gw := Gw_of 163 (by decide +kernel) (by decide +kernel)
theorem g164 : Cond.methodLink "PledgeHouse" 40 yX0_init ∈ Gw := Gw_of 164 (by decide +kernel) (by decide +kernel)
theorem g165 : Cond.instanceMethod yX0_init ∈ Gw := Gw_of 165 (by decide +kernel) (by decide +kernel)
theorem g166 : Cond.code yX0_init prog_2_method_1_code 1 (Option.none : Option Jvm.ClassFile.FieldType) ∈ Gw := Gw_of 166 (by decide +kernel) (by decide +kernel)
theorem g167 : Cond.methodLink "PledgeHouse$Ledger" 3 ⟨"java/lang/Object", "<init>", "()V"⟩ ∈ Gw := Gw_of 167 (by decide +kernel) (by decide +kernel)
theorem g168 : Cond.methodLink "PledgeHouse$Ledger" 50 yJ7_fill_53178 ∈ Gw := Gw_of 168 (by decide +kernel) (by decide +kernel)
theorem g169 : Cond.static yJ7_fill_53178 ∈ Gw := Gw_of 169 (by decide +kernel) (by decide +kernel)
theorem g170 : Cond.code yJ7_fill_53178 prog_17_method_103_code 4 (Option.none : Option Jvm.ClassFile.FieldType) ∈ Gw := Gw_of 170 (by decide +kernel) (by decide +kernel)
theorem g171 : Cond.fieldLink "PledgeHouse$Ledger" 9 "PledgeHouse$Ledger" "prices" "[I" ∈ Gw := Gw_of 171 (by decide +kernel) (by decide +kernel)
theorem g172 : Cond.fieldLink "PledgeHouse$Sale" 79 "PledgeHouse$Ledger" "prices" "[I" ∈ Gw := Gw_of 172 (by decide +kernel) (by decide +kernel)
theorem g173 : Cond.fieldLink "PledgeHouse" 175 "PledgeHouse$Ledger" "prices" "[I" ∈ Gw := Gw_of 173 (by decide +kernel) (by decide +kernel)
theorem g174 : Cond.fieldLink "PledgeHouse$Ledger" 15 "PledgeHouse$Ledger" "cuts" "[I" ∈ Gw := Gw_of 174 (by decide +kernel) (by decide +kernel)
theorem g175 : Cond.fieldLink "PledgeHouse$Sale" 76 "PledgeHouse$Ledger" "cuts" "[I" ∈ Gw := Gw_of 175 (by decide +kernel) (by decide +kernel)
theorem g176 : Cond.fieldLink "PledgeHouse" 178 "PledgeHouse$Ledger" "cuts" "[I" ∈ Gw := Gw_of 176 (by decide +kernel) (by decide +kernel)
theorem g177 : Cond.fieldLink "PledgeHouse$Ledger" 18 "PledgeHouse$Ledger" "soldPieces" "[I" ∈ Gw := Gw_of 177 (by decide +kernel) (by decide +kernel)
theorem g178 : Cond.fieldLink "PledgeHouse" 184 "PledgeHouse$Ledger" "soldPieces" "[I" ∈ Gw := Gw_of 178 (by decide +kernel) (by decide +kernel)
theorem g179 : Cond.fieldLink "PledgeHouse$Ledger" 21 "PledgeHouse$Ledger" "pieces" "[I" ∈ Gw := Gw_of 179 (by decide +kernel) (by decide +kernel)
theorem g180 : Cond.fieldLink "PledgeHouse$Sale" 60 "PledgeHouse$Ledger" "pieces" "[I" ∈ Gw := Gw_of 180 (by decide +kernel) (by decide +kernel)
theorem g181 : Cond.fieldLink "PledgeHouse" 88 "PledgeHouse$Ledger" "pieces" "[I" ∈ Gw := Gw_of 181 (by decide +kernel) (by decide +kernel)
theorem g182 : Cond.fieldLink "PledgeHouse$Ledger" 24 "PledgeHouse$Ledger" "coins" "[I" ∈ Gw := Gw_of 182 (by decide +kernel) (by decide +kernel)
theorem g183 : Cond.fieldLink "PledgeHouse$Sale" 18 "PledgeHouse$Ledger" "coins" "[I" ∈ Gw := Gw_of 183 (by decide +kernel) (by decide +kernel)
theorem g184 : Cond.fieldLink "PledgeHouse" 101 "PledgeHouse$Ledger" "coins" "[I" ∈ Gw := Gw_of 184 (by decide +kernel) (by decide +kernel)
theorem g185 : Cond.fieldLink "PledgeHouse$Ledger" 27 "PledgeHouse$Ledger" "debts" "[I" ∈ Gw := Gw_of 185 (by decide +kernel) (by decide +kernel)
theorem g186 : Cond.fieldLink "PledgeHouse$Sale" 27 "PledgeHouse$Ledger" "debts" "[I" ∈ Gw := Gw_of 186 (by decide +kernel) (by decide +kernel)
theorem g187 : Cond.fieldLink "PledgeHouse" 110 "PledgeHouse$Ledger" "debts" "[I" ∈ Gw := Gw_of 187 (by decide +kernel) (by decide +kernel)
theorem g188 : Cond.fieldLink "PledgeHouse$Ledger" 30 "PledgeHouse$Ledger" "callHours" "[I" ∈ Gw := Gw_of 188 (by decide +kernel) (by decide +kernel)
theorem g189 : Cond.fieldLink "PledgeHouse" 196 "PledgeHouse$Ledger" "callHours" "[I" ∈ Gw := Gw_of 189 (by decide +kernel) (by decide +kernel)
theorem g190 : Cond.fieldLink "PledgeHouse$Ledger" 33 "PledgeHouse$Ledger" "barred" "[Z" ∈ Gw := Gw_of 190 (by decide +kernel) (by decide +kernel)
theorem g191 : Cond.fieldLink "PledgeHouse" 199 "PledgeHouse$Ledger" "barred" "[Z" ∈ Gw := Gw_of 191 (by decide +kernel) (by decide +kernel)
theorem g192 : Cond.fieldLink "PledgeHouse$Ledger" 37 "PledgeHouse$Ledger" "interestRate" "I" ∈ Gw := Gw_of 192 (by decide +kernel) (by decide +kernel)
theorem g193 : Cond.fieldLink "PledgeHouse" 124 "PledgeHouse$Ledger" "interestRate" "I" ∈ Gw := Gw_of 193 (by decide +kernel) (by decide +kernel)
theorem g194 : Cond.fieldLink "PledgeHouse$Ledger" 41 "PledgeHouse$Ledger" "graceHours" "I" ∈ Gw := Gw_of 194 (by decide +kernel) (by decide +kernel)
theorem g195 : Cond.fieldLink "PledgeHouse" 128 "PledgeHouse$Ledger" "graceHours" "I" ∈ Gw := Gw_of 195 (by decide +kernel) (by decide +kernel)
theorem g196 : Cond.fieldLink "PledgeHouse$Ledger" 44 "PledgeHouse$Ledger" "slipPercent" "I" ∈ Gw := Gw_of 196 (by decide +kernel) (by decide +kernel)
theorem g197 : Cond.fieldLink "PledgeHouse$Sale" 90 "PledgeHouse$Ledger" "slipPercent" "I" ∈ Gw := Gw_of 197 (by decide +kernel) (by decide +kernel)
theorem g198 : Cond.fieldLink "PledgeHouse" 131 "PledgeHouse$Ledger" "slipPercent" "I" ∈ Gw := Gw_of 198 (by decide +kernel) (by decide +kernel)
theorem g199 : Cond.fieldLink "PledgeHouse$Ledger" 47 "PledgeHouse$Ledger" "salesOrder" "I" ∈ Gw := Gw_of 199 (by decide +kernel) (by decide +kernel)
theorem g200 : Cond.fieldLink "PledgeHouse$Sale" 73 "PledgeHouse$Ledger" "salesOrder" "I" ∈ Gw := Gw_of 200 (by decide +kernel) (by decide +kernel)
theorem g201 : Cond.fieldLink "PledgeHouse" 134 "PledgeHouse$Ledger" "salesOrder" "I" ∈ Gw := Gw_of 201 (by decide +kernel) (by decide +kernel)
theorem g202 : Cond.fieldLink "PledgeHouse$Ledger" 62 "PledgeHouse$Ledger" "passedHours" "I" ∈ Gw := Gw_of 202 (by decide +kernel) (by decide +kernel)
theorem g203 : Cond.fieldLink "PledgeHouse" 237 "PledgeHouse$Ledger" "passedHours" "I" ∈ Gw := Gw_of 203 (by decide +kernel) (by decide +kernel)
theorem g204 : Cond.fieldLink "PledgeHouse$Ledger" 65 "PledgeHouse$Ledger" "lentCoins" "I" ∈ Gw := Gw_of 204 (by decide +kernel) (by decide +kernel)
theorem g205 : Cond.fieldLink "PledgeHouse" 243 "PledgeHouse$Ledger" "lentCoins" "I" ∈ Gw := Gw_of 205 (by decide +kernel) (by decide +kernel)
theorem g206 : Cond.fieldLink "PledgeHouse$Ledger" 68 "PledgeHouse$Ledger" "interestCoins" "I" ∈ Gw := Gw_of 206 (by decide +kernel) (by decide +kernel)
theorem g207 : Cond.fieldLink "PledgeHouse" 246 "PledgeHouse$Ledger" "interestCoins" "I" ∈ Gw := Gw_of 207 (by decide +kernel) (by decide +kernel)
theorem g208 : Cond.fieldLink "PledgeHouse$Ledger" 71 "PledgeHouse$Ledger" "repaidCoins" "I" ∈ Gw := Gw_of 208 (by decide +kernel) (by decide +kernel)
theorem g209 : Cond.fieldLink "PledgeHouse" 249 "PledgeHouse$Ledger" "repaidCoins" "I" ∈ Gw := Gw_of 209 (by decide +kernel) (by decide +kernel)
theorem g210 : Cond.fieldLink "PledgeHouse$Ledger" 74 "PledgeHouse$Ledger" "lostCoins" "I" ∈ Gw := Gw_of 210 (by decide +kernel) (by decide +kernel)
theorem g211 : Cond.fieldLink "PledgeHouse" 252 "PledgeHouse$Ledger" "lostCoins" "I" ∈ Gw := Gw_of 211 (by decide +kernel) (by decide +kernel)
theorem g212 : Cond.fieldLink "PledgeHouse$Ledger" 77 "PledgeHouse$Ledger" "callCount" "I" ∈ Gw := Gw_of 212 (by decide +kernel) (by decide +kernel)
theorem g213 : Cond.fieldLink "PledgeHouse" 255 "PledgeHouse$Ledger" "callCount" "I" ∈ Gw := Gw_of 213 (by decide +kernel) (by decide +kernel)
theorem g214 : Cond.fieldLink "PledgeHouse$Ledger" 80 "PledgeHouse$Ledger" "soldOutCount" "I" ∈ Gw := Gw_of 214 (by decide +kernel) (by decide +kernel)
theorem g215 : Cond.fieldLink "PledgeHouse" 258 "PledgeHouse$Ledger" "soldOutCount" "I" ∈ Gw := Gw_of 215 (by decide +kernel) (by decide +kernel)
theorem g255 : Cond.arrayClass Jvm.ClassFile.FieldType.boolean ∈ Gw := Gw_of 255 (by decide +kernel) (by decide +kernel)
theorem g256 : Cond.fieldLink "PledgeHouse" 10 "PledgeHouse" "text" "LPledgeHouse$OrderText;" ∈ Gw := Gw_of 256 (by decide +kernel) (by decide +kernel)
theorem g257 : Cond.fieldLink "PledgeHouse" 19 "PledgeHouse" "sale" "LPledgeHouse$Sale;" ∈ Gw := Gw_of 257 (by decide +kernel) (by decide +kernel)
theorem g258 : Cond.fieldLink "PledgeHouse" 23 "PledgeHouse" "riskRow" "[I" ∈ Gw := Gw_of 258 (by decide +kernel) (by decide +kernel)
theorem g259 : Cond.fieldLink "PledgeHouse" 29 "PledgeHouse" "slots" "[LPledgeHouse$Ledger;" ∈ Gw := Gw_of 259 (by decide +kernel) (by decide +kernel)
theorem g260 : Cond.fieldLink "PledgeHouse" 33 "PledgeHouse" "slotFilled" "[Z" ∈ Gw := Gw_of 260 (by decide +kernel) (by decide +kernel)
theorem g261 : Cond.fieldLink "PledgeHouse" 37 "PledgeHouse" "saved" "[LPledgeHouse$Ledger;" ∈ Gw := Gw_of 261 (by decide +kernel) (by decide +kernel)
theorem g262 : Cond.fieldLink "PledgeHouse" 172 "PledgeHouse" "savedCount" "I" ∈ Gw := Gw_of 262 (by decide +kernel) (by decide +kernel)
theorem g263 : Cond.fieldLink "PledgeHouse" 41 "PledgeHouse" "now" "LPledgeHouse$Ledger;" ∈ Gw := Gw_of 263 (by decide +kernel) (by decide +kernel)
theorem g264 : Cond.fieldLink "PledgeHouse" 45 "PledgeHouse" "before" "LPledgeHouse$Ledger;" ∈ Gw := Gw_of 264 (by decide +kernel) (by decide +kernel)
theorem g284 : Cond.methodLink "PledgeHouseLaw" 199 yX3_turnOrder ∈ Gw := Gw_of 284 (by decide +kernel) (by decide +kernel)
theorem g285 : Cond.instanceMethod yX3_turnOrder ∈ Gw := Gw_of 285 (by decide +kernel) (by decide +kernel)
theorem g286 : Cond.selects "PledgeHouse" yX3_turnOrder yX3_turnOrder ∈ Gw := Gw_of 286 (by decide +kernel) (by decide +kernel)
theorem g287 : Cond.code yX3_turnOrder prog_1_method_16_code 1 (Option.some Jvm.ClassFile.FieldType.int) ∈ Gw := Gw_of 287 (by decide +kernel) (by decide +kernel)
theorem g288 : Cond.methodLink "PledgeHouse" 56 yX3_save ∈ Gw := Gw_of 288 (by decide +kernel) (by decide +kernel)
theorem g290 : Cond.instanceMethod yX3_save ∈ Gw := Gw_of 290 (by decide +kernel) (by decide +kernel)
theorem g291 : Cond.code yX3_save prog_1_method_72_code 1 (Option.none : Option Jvm.ClassFile.FieldType) ∈ Gw := Gw_of 291 (by decide +kernel) (by decide +kernel)
theorem g292 : Cond.methodLink "PledgeHouse" 73 yX0_copyFrom ∈ Gw := Gw_of 292 (by decide +kernel) (by decide +kernel)
theorem g293 : Cond.instanceMethod yX0_copyFrom ∈ Gw := Gw_of 293 (by decide +kernel) (by decide +kernel)
theorem g294 : Cond.selects "PledgeHouse$Ledger" yX0_copyFrom yX0_copyFrom ∈ Gw := Gw_of 294 (by decide +kernel) (by decide +kernel)
theorem g295 : Cond.code yX0_copyFrom prog_2_method_2_code 2 (Option.none : Option Jvm.ClassFile.FieldType) ∈ Gw := Gw_of 295 (by decide +kernel) (by decide +kernel)
theorem g296 : Cond.methodLink "PledgeHouse$Ledger" 56 ⟨"java/lang/System", "arraycopy", "(Ljava/lang/Object;ILjava/lang/Object;II)V"⟩ ∈ Gw := Gw_of 296 (by decide +kernel) (by decide +kernel)
theorem g297 : Cond.static ⟨"java/lang/System", "arraycopy", "(Ljava/lang/Object;ILjava/lang/Object;II)V"⟩ ∈ Gw := Gw_of 297 (by decide +kernel) (by decide +kernel)
theorem g298 : Cond.native ⟨"java/lang/System", "arraycopy", "(Ljava/lang/Object;ILjava/lang/Object;II)V"⟩ ∈ Gw := Gw_of 298 (by decide +kernel) (by decide +kernel)
theorem g299 : Cond.methodLink "PledgeHouse" 85 yX3_saveBefore ∈ Gw := Gw_of 299 (by decide +kernel) (by decide +kernel)
theorem g301 : Cond.instanceMethod yX3_saveBefore ∈ Gw := Gw_of 301 (by decide +kernel) (by decide +kernel)
theorem g302 : Cond.code yX3_saveBefore prog_1_method_73_code 3 (Option.none : Option Jvm.ClassFile.FieldType) ∈ Gw := Gw_of 302 (by decide +kernel) (by decide +kernel)
theorem g303 : Cond.methodLink "PledgeHouseLaw" 206 yX3_clearBuffer ∈ Gw := Gw_of 303 (by decide +kernel) (by decide +kernel)
theorem g304 : Cond.instanceMethod yX3_clearBuffer ∈ Gw := Gw_of 304 (by decide +kernel) (by decide +kernel)
theorem g305 : Cond.selects "PledgeHouse" yX3_clearBuffer yX3_clearBuffer ∈ Gw := Gw_of 305 (by decide +kernel) (by decide +kernel)
theorem g306 : Cond.code yX3_clearBuffer prog_1_method_18_code 2 (Option.some Jvm.ClassFile.FieldType.int) ∈ Gw := Gw_of 306 (by decide +kernel) (by decide +kernel)
theorem g307 : Cond.methodLink "PledgeHouseLaw" 210 yX3_firstError ∈ Gw := Gw_of 307 (by decide +kernel) (by decide +kernel)
theorem g308 : Cond.instanceMethod yX3_firstError ∈ Gw := Gw_of 308 (by decide +kernel) (by decide +kernel)
theorem g309 : Cond.selects "PledgeHouse" yX3_firstError yX3_firstError ∈ Gw := Gw_of 309 (by decide +kernel) (by decide +kernel)
theorem g310 : Cond.code yX3_firstError prog_1_method_19_code 1 (Option.some Jvm.ClassFile.FieldType.int) ∈ Gw := Gw_of 310 (by decide +kernel) (by decide +kernel)
theorem g311 : Cond.methodLink "PledgeHouse" 146 yX1_findError ∈ Gw := Gw_of 311 (by decide +kernel) (by decide +kernel)
theorem g312 : Cond.instanceMethod yX1_findError ∈ Gw := Gw_of 312 (by decide +kernel) (by decide +kernel)
theorem g313 : Cond.selects "PledgeHouse$OrderText" yX1_findError yX1_findError ∈ Gw := Gw_of 313 (by decide +kernel) (by decide +kernel)
theorem g314 : Cond.code yX1_findError prog_3_method_3_code 2 (Option.some Jvm.ClassFile.FieldType.int) ∈ Gw := Gw_of 314 (by decide +kernel) (by decide +kernel)
theorem g315 : Cond.methodLink "PledgeHouse$OrderText" 34 yX1_startPart ∈ Gw := Gw_of 315 (by decide +kernel) (by decide +kernel)
theorem g316 : Cond.instanceMethod yX1_startPart ∈ Gw := Gw_of 316 (by decide +kernel) (by decide +kernel)
theorem g317 : Cond.selects "PledgeHouse$OrderText" yX1_startPart yX1_startPart ∈ Gw := Gw_of 317 (by decide +kernel) (by decide +kernel)
theorem g318 : Cond.code yX1_startPart prog_3_method_2_code 1 (Option.none : Option Jvm.ClassFile.FieldType) ∈ Gw := Gw_of 318 (by decide +kernel) (by decide +kernel)
theorem g319 : Cond.methodLink "PledgeHouse$OrderText" 40 yX1_take ∈ Gw := Gw_of 319 (by decide +kernel) (by decide +kernel)
theorem g320 : Cond.instanceMethod yX1_take ∈ Gw := Gw_of 320 (by decide +kernel) (by decide +kernel)
theorem g321 : Cond.selects "PledgeHouse$OrderText" yX1_take yX1_take ∈ Gw := Gw_of 321 (by decide +kernel) (by decide +kernel)
theorem g322 : Cond.code yX1_take prog_3_method_7_code 2 (Option.some Jvm.ClassFile.FieldType.boolean) ∈ Gw := Gw_of 322 (by decide +kernel) (by decide +kernel)
theorem g323 : Cond.methodLink "PledgeHouse$OrderText" 52 yX1_shapeOf ∈ Gw := Gw_of 323 (by decide +kernel) (by decide +kernel)
theorem g324 : Cond.static yX1_shapeOf ∈ Gw := Gw_of 324 (by decide +kernel) (by decide +kernel)
theorem g325 : Cond.code yX1_shapeOf prog_3_method_10_code 1 (Option.some (Jvm.ClassFile.FieldType.object "java/lang/String")) ∈ Gw := Gw_of 325 (by decide +kernel) (by decide +kernel)
theorem g331 : Cond.methodLink "PledgeHouse$OrderText" 56 yJ0_isEmpty_aae02 ∈ Gw := Gw_of 331 (by decide +kernel) (by decide +kernel)
theorem g332 : Cond.instanceMethod yJ0_isEmpty_aae02 ∈ Gw := Gw_of 332 (by decide +kernel) (by decide +kernel)
theorem g333 : Cond.selects "java/lang/String" yJ0_isEmpty_aae02 yJ0_isEmpty_aae02 ∈ Gw := Gw_of 333 (by decide +kernel) (by decide +kernel)
theorem g334 : Cond.code yJ0_isEmpty_aae02 prog_12_method_55_code 1 (Option.some Jvm.ClassFile.FieldType.boolean) ∈ Gw := Gw_of 334 (by decide +kernel) (by decide +kernel)
theorem g335 : Cond.methodLink "PledgeHouse$OrderText" 48 yX1_isWholePart ∈ Gw := Gw_of 335 (by decide +kernel) (by decide +kernel)
theorem g336 : Cond.instanceMethod yX1_isWholePart ∈ Gw := Gw_of 336 (by decide +kernel) (by decide +kernel)
theorem g337 : Cond.selects "PledgeHouse$OrderText" yX1_isWholePart yX1_isWholePart ∈ Gw := Gw_of 337 (by decide +kernel) (by decide +kernel)
theorem g338 : Cond.code yX1_isWholePart prog_3_method_5_code 1 (Option.some Jvm.ClassFile.FieldType.boolean) ∈ Gw := Gw_of 338 (by decide +kernel) (by decide +kernel)
theorem g339 : Cond.methodLink "PledgeHouse$OrderText" 61 yX1_takeInside ∈ Gw := Gw_of 339 (by decide +kernel) (by decide +kernel)
theorem g340 : Cond.instanceMethod yX1_takeInside ∈ Gw := Gw_of 340 (by decide +kernel) (by decide +kernel)
theorem g341 : Cond.selects "PledgeHouse$OrderText" yX1_takeInside yX1_takeInside ∈ Gw := Gw_of 341 (by decide +kernel) (by decide +kernel)
theorem g342 : Cond.code yX1_takeInside prog_3_method_8_code 4 (Option.some Jvm.ClassFile.FieldType.boolean) ∈ Gw := Gw_of 342 (by decide +kernel) (by decide +kernel)
theorem g343 : Cond.methodLink "PledgeHouse$OrderText" 64 yJ0_length_8abf5 ∈ Gw := Gw_of 343 (by decide +kernel) (by decide +kernel)
theorem g344 : Cond.instanceMethod yJ0_length_8abf5 ∈ Gw := Gw_of 344 (by decide +kernel) (by decide +kernel)
theorem g345 : Cond.selects "java/lang/String" yJ0_length_8abf5 yJ0_length_8abf5 ∈ Gw := Gw_of 345 (by decide +kernel) (by decide +kernel)
theorem g346 : Cond.code yJ0_length_8abf5 prog_12_method_54_code 1 (Option.some Jvm.ClassFile.FieldType.int) ∈ Gw := Gw_of 346 (by decide +kernel) (by decide +kernel)
theorem g347 : Cond.methodLink "java/lang/String" 335 yJ0_coder_7d493 ∈ Gw := Gw_of 347 (by decide +kernel) (by decide +kernel)
theorem g348 : Cond.instanceMethod yJ0_coder_7d493 ∈ Gw := Gw_of 348 (by decide +kernel) (by decide +kernel)
theorem g349 : Cond.selects "java/lang/String" yJ0_coder_7d493 yJ0_coder_7d493 ∈ Gw := Gw_of 349 (by decide +kernel) (by decide +kernel)
theorem g350 : Cond.code yJ0_coder_7d493 prog_12_method_152_code 1 (Option.some Jvm.ClassFile.FieldType.byte) ∈ Gw := Gw_of 350 (by decide +kernel) (by decide +kernel)
theorem g351 : Cond.fieldLink "java/lang/String" 38 "java/lang/String" "COMPACT_STRINGS" "Z" ∈ Gw := Gw_of 351 (by decide +kernel) (by decide +kernel)
theorem g353 : Cond.methodLink "PledgeHouse$OrderText" 66 yJ0_charAt_5068e ∈ Gw := Gw_of 353 (by decide +kernel) (by decide +kernel)
theorem g354 : Cond.instanceMethod yJ0_charAt_5068e ∈ Gw := Gw_of 354 (by decide +kernel) (by decide +kernel)
theorem g355 : Cond.selects "java/lang/String" yJ0_charAt_5068e yJ0_charAt_5068e ∈ Gw := Gw_of 355 (by decide +kernel) (by decide +kernel)
theorem g356 : Cond.code yJ0_charAt_5068e prog_12_method_56_code 2 (Option.some Jvm.ClassFile.FieldType.char) ∈ Gw := Gw_of 356 (by decide +kernel) (by decide +kernel)
theorem g357 : Cond.methodLink "java/lang/String" 492 yJ0_isLatin1_aae02 ∈ Gw := Gw_of 357 (by decide +kernel) (by decide +kernel)
theorem g358 : Cond.instanceMethod yJ0_isLatin1_aae02 ∈ Gw := Gw_of 358 (by decide +kernel) (by decide +kernel)
theorem g359 : Cond.selects "java/lang/String" yJ0_isLatin1_aae02 yJ0_isLatin1_aae02 ∈ Gw := Gw_of 359 (by decide +kernel) (by decide +kernel)
theorem g360 : Cond.code yJ0_isLatin1_aae02 prog_12_method_154_code 1 (Option.some Jvm.ClassFile.FieldType.boolean) ∈ Gw := Gw_of 360 (by decide +kernel) (by decide +kernel)
theorem g361 : Cond.methodLink "java/lang/String" 495 yJ1_charAt_3b067 ∈ Gw := Gw_of 361 (by decide +kernel) (by decide +kernel)
theorem g362 : Cond.static yJ1_charAt_3b067 ∈ Gw := Gw_of 362 (by decide +kernel) (by decide +kernel)
theorem g363 : Cond.code yJ1_charAt_3b067 prog_13_method_2_code 2 (Option.some Jvm.ClassFile.FieldType.char) ∈ Gw := Gw_of 363 (by decide +kernel) (by decide +kernel)
theorem g364 : Cond.methodLink "java/lang/StringLatin1" 9 yJ0_checkIndex_df160 ∈ Gw := Gw_of 364 (by decide +kernel) (by decide +kernel)
theorem g365 : Cond.static yJ0_checkIndex_df160 ∈ Gw := Gw_of 365 (by decide +kernel) (by decide +kernel)
theorem g366 : Cond.code yJ0_checkIndex_df160 prog_12_method_155_code 2 (Option.none : Option Jvm.ClassFile.FieldType) ∈ Gw := Gw_of 366 (by decide +kernel) (by decide +kernel)
theorem g367 : Cond.fieldLink "java/lang/String" 1053 "jdk/internal/util/Preconditions" "SIOOBE_FORMATTER" "Ljava/util/function/BiFunction;" ∈ Gw := Gw_of 367 (by decide +kernel) (by decide +kernel)
theorem g369 : Cond.methodLink "java/lang/String" 1059 yJ3_checkIndex_8e157 ∈ Gw := Gw_of 369 (by decide +kernel) (by decide +kernel)
theorem g370 : Cond.static yJ3_checkIndex_8e157 ∈ Gw := Gw_of 370 (by decide +kernel) (by decide +kernel)
theorem g371 : Cond.code yJ3_checkIndex_8e157 prog_18_method_11_code 3 (Option.some Jvm.ClassFile.FieldType.int) ∈ Gw := Gw_of 371 (by decide +kernel) (by decide +kernel)
theorem g372 : Cond.methodLink "java/lang/String" 498 yJ2_charAt_3b067 ∈ Gw := Gw_of 372 (by decide +kernel) (by decide +kernel)
theorem g373 : Cond.static yJ2_charAt_3b067 ∈ Gw := Gw_of 373 (by decide +kernel) (by decide +kernel)
theorem g374 : Cond.code yJ2_charAt_3b067 prog_14_method_83_code 2 (Option.some Jvm.ClassFile.FieldType.char) ∈ Gw := Gw_of 374 (by decide +kernel) (by decide +kernel)
theorem g375 : Cond.methodLink "java/lang/StringUTF16" 67 yJ2_checkIndex_2214a ∈ Gw := Gw_of 375 (by decide +kernel) (by decide +kernel)
theorem g376 : Cond.static yJ2_checkIndex_2214a ∈ Gw := Gw_of 376 (by decide +kernel) (by decide +kernel)
theorem g377 : Cond.code yJ2_checkIndex_2214a prog_14_method_91_code 2 (Option.none : Option Jvm.ClassFile.FieldType) ∈ Gw := Gw_of 377 (by decide +kernel) (by decide +kernel)
theorem g378 : Cond.methodLink "java/lang/StringUTF16" 48 yJ2_length_9d52b ∈ Gw := Gw_of 378 (by decide +kernel) (by decide +kernel)
theorem g379 : Cond.static yJ2_length_9d52b ∈ Gw := Gw_of 379 (by decide +kernel) (by decide +kernel)
theorem g380 : Cond.code yJ2_length_9d52b prog_14_method_6_code 1 (Option.some Jvm.ClassFile.FieldType.int) ∈ Gw := Gw_of 380 (by decide +kernel) (by decide +kernel)
theorem g381 : Cond.methodLink "java/lang/StringUTF16" 414 yJ0_checkIndex_df160 ∈ Gw := Gw_of 381 (by decide +kernel) (by decide +kernel)
theorem g382 : Cond.methodLink "java/lang/StringUTF16" 71 yJ2_getChar_3b067 ∈ Gw := Gw_of 382 (by decide +kernel) (by decide +kernel)
theorem g383 : Cond.static yJ2_getChar_3b067 ∈ Gw := Gw_of 383 (by decide +kernel) (by decide +kernel)
theorem g384 : Cond.code yJ2_getChar_3b067 prog_14_method_5_code 2 (Option.some Jvm.ClassFile.FieldType.char) ∈ Gw := Gw_of 384 (by decide +kernel) (by decide +kernel)
theorem g385 : Cond.fieldLink "java/lang/StringUTF16" 44 "java/lang/StringUTF16" "$assertionsDisabled" "Z" ∈ Gw := Gw_of 385 (by decide +kernel) (by decide +kernel)
theorem g387 : Cond.fieldLink "java/lang/StringUTF16" 59 "java/lang/StringUTF16" "HI_BYTE_SHIFT" "I" ∈ Gw := Gw_of 387 (by decide +kernel) (by decide +kernel)
theorem g389 : Cond.fieldLink "java/lang/StringUTF16" 63 "java/lang/StringUTF16" "LO_BYTE_SHIFT" "I" ∈ Gw := Gw_of 389 (by decide +kernel) (by decide +kernel)
theorem g391 : Cond.methodLink "PledgeHouse$OrderText" 70 yX1_takeDigit ∈ Gw := Gw_of 391 (by decide +kernel) (by decide +kernel)
theorem g392 : Cond.instanceMethod yX1_takeDigit ∈ Gw := Gw_of 392 (by decide +kernel) (by decide +kernel)
theorem g393 : Cond.selects "PledgeHouse$OrderText" yX1_takeDigit yX1_takeDigit ∈ Gw := Gw_of 393 (by decide +kernel) (by decide +kernel)
theorem g394 : Cond.code yX1_takeDigit prog_3_method_9_code 3 (Option.some Jvm.ClassFile.FieldType.boolean) ∈ Gw := Gw_of 394 (by decide +kernel) (by decide +kernel)
theorem g395 : Cond.methodLink "PledgeHouse$OrderText" 73 yX1_leastNumber ∈ Gw := Gw_of 395 (by decide +kernel) (by decide +kernel)
theorem g396 : Cond.instanceMethod yX1_leastNumber ∈ Gw := Gw_of 396 (by decide +kernel) (by decide +kernel)
theorem g397 : Cond.selects "PledgeHouse$OrderText" yX1_leastNumber yX1_leastNumber ∈ Gw := Gw_of 397 (by decide +kernel) (by decide +kernel)
theorem g398 : Cond.code yX1_leastNumber prog_3_method_11_code 1 (Option.some Jvm.ClassFile.FieldType.int) ∈ Gw := Gw_of 398 (by decide +kernel) (by decide +kernel)
theorem g399 : Cond.methodLink "PledgeHouse$OrderText" 76 yX1_mostNumber ∈ Gw := Gw_of 399 (by decide +kernel) (by decide +kernel)
theorem g400 : Cond.instanceMethod yX1_mostNumber ∈ Gw := Gw_of 400 (by decide +kernel) (by decide +kernel)
theorem g401 : Cond.selects "PledgeHouse$OrderText" yX1_mostNumber yX1_mostNumber ∈ Gw := Gw_of 401 (by decide +kernel) (by decide +kernel)
theorem g402 : Cond.code yX1_mostNumber prog_3_method_12_code 1 (Option.some Jvm.ClassFile.FieldType.int) ∈ Gw := Gw_of 402 (by decide +kernel) (by decide +kernel)
theorem g403 : Cond.arrayClass Jvm.ClassFile.FieldType.byte ∈ Gw := Gw_of 403 (by decide +kernel) (by decide +kernel)
theorem g404 : Cond.methodLink "PledgeHouseLaw" 228 yX3_savedStates ∈ Gw := Gw_of 404 (by decide +kernel) (by decide +kernel)
theorem g405 : Cond.instanceMethod yX3_savedStates ∈ Gw := Gw_of 405 (by decide +kernel) (by decide +kernel)
theorem g406 : Cond.selects "PledgeHouse" yX3_savedStates yX3_savedStates ∈ Gw := Gw_of 406 (by decide +kernel) (by decide +kernel)
theorem g407 : Cond.code yX3_savedStates prog_1_method_24_code 1 (Option.some Jvm.ClassFile.FieldType.int) ∈ Gw := Gw_of 407 (by decide +kernel) (by decide +kernel)
theorem g408 : Cond.methodLink "PledgeHouseLaw" 280 yX3_calledNow ∈ Gw := Gw_of 408 (by decide +kernel) (by decide +kernel)
theorem g409 : Cond.instanceMethod yX3_calledNow ∈ Gw := Gw_of 409 (by decide +kernel) (by decide +kernel)
theorem g410 : Cond.selects "PledgeHouse" yX3_calledNow yX3_calledNow ∈ Gw := Gw_of 410 (by decide +kernel) (by decide +kernel)
theorem g411 : Cond.code yX3_calledNow prog_1_method_41_code 1 (Option.some Jvm.ClassFile.FieldType.int) ∈ Gw := Gw_of 411 (by decide +kernel) (by decide +kernel)
theorem g412 : Cond.methodLink "PledgeHouse" 169 yX0_countCalled ∈ Gw := Gw_of 412 (by decide +kernel) (by decide +kernel)
theorem g413 : Cond.instanceMethod yX0_countCalled ∈ Gw := Gw_of 413 (by decide +kernel) (by decide +kernel)
theorem g414 : Cond.selects "PledgeHouse$Ledger" yX0_countCalled yX0_countCalled ∈ Gw := Gw_of 414 (by decide +kernel) (by decide +kernel)
theorem g415 : Cond.code yX0_countCalled prog_2_method_12_code 3 (Option.some Jvm.ClassFile.FieldType.int) ∈ Gw := Gw_of 415 (by decide +kernel) (by decide +kernel)
theorem g416 : Cond.methodLink "PledgeHouseLaw" 284 yX3_rate ∈ Gw := Gw_of 416 (by decide +kernel) (by decide +kernel)
theorem g417 : Cond.instanceMethod yX3_rate ∈ Gw := Gw_of 417 (by decide +kernel) (by decide +kernel)
theorem g418 : Cond.selects "PledgeHouse" yX3_rate yX3_rate ∈ Gw := Gw_of 418 (by decide +kernel) (by decide +kernel)
theorem g419 : Cond.code yX3_rate prog_1_method_42_code 1 (Option.some Jvm.ClassFile.FieldType.int) ∈ Gw := Gw_of 419 (by decide +kernel) (by decide +kernel)
theorem g420 : Cond.methodLink "PledgeHouseLaw" 288 yX3_grace ∈ Gw := Gw_of 420 (by decide +kernel) (by decide +kernel)
theorem g421 : Cond.instanceMethod yX3_grace ∈ Gw := Gw_of 421 (by decide +kernel) (by decide +kernel)
theorem g422 : Cond.selects "PledgeHouse" yX3_grace yX3_grace ∈ Gw := Gw_of 422 (by decide +kernel) (by decide +kernel)
theorem g423 : Cond.code yX3_grace prog_1_method_43_code 1 (Option.some Jvm.ClassFile.FieldType.int) ∈ Gw := Gw_of 423 (by decide +kernel) (by decide +kernel)
theorem g424 : Cond.methodLink "PledgeHouseLaw" 292 yX3_slip ∈ Gw := Gw_of 424 (by decide +kernel) (by decide +kernel)
theorem g425 : Cond.instanceMethod yX3_slip ∈ Gw := Gw_of 425 (by decide +kernel) (by decide +kernel)
theorem g426 : Cond.selects "PledgeHouse" yX3_slip yX3_slip ∈ Gw := Gw_of 426 (by decide +kernel) (by decide +kernel)
theorem g427 : Cond.code yX3_slip prog_1_method_44_code 1 (Option.some Jvm.ClassFile.FieldType.int) ∈ Gw := Gw_of 427 (by decide +kernel) (by decide +kernel)
theorem g428 : Cond.methodLink "PledgeHouseLaw" 296 yX3_order ∈ Gw := Gw_of 428 (by decide +kernel) (by decide +kernel)
theorem g429 : Cond.instanceMethod yX3_order ∈ Gw := Gw_of 429 (by decide +kernel) (by decide +kernel)
theorem g430 : Cond.selects "PledgeHouse" yX3_order yX3_order ∈ Gw := Gw_of 430 (by decide +kernel) (by decide +kernel)
theorem g431 : Cond.code yX3_order prog_1_method_45_code 1 (Option.some Jvm.ClassFile.FieldType.int) ∈ Gw := Gw_of 431 (by decide +kernel) (by decide +kernel)
theorem g432 : Cond.methodLink "PledgeHouseLaw" 318 yX3_hours ∈ Gw := Gw_of 432 (by decide +kernel) (by decide +kernel)
theorem g433 : Cond.instanceMethod yX3_hours ∈ Gw := Gw_of 433 (by decide +kernel) (by decide +kernel)
theorem g434 : Cond.selects "PledgeHouse" yX3_hours yX3_hours ∈ Gw := Gw_of 434 (by decide +kernel) (by decide +kernel)
theorem g435 : Cond.code yX3_hours prog_1_method_52_code 1 (Option.some Jvm.ClassFile.FieldType.int) ∈ Gw := Gw_of 435 (by decide +kernel) (by decide +kernel)
theorem g436 : Cond.methodLink "PledgeHouseLaw" 322 yX3_debtsByClients ∈ Gw := Gw_of 436 (by decide +kernel) (by decide +kernel)
theorem g437 : Cond.instanceMethod yX3_debtsByClients ∈ Gw := Gw_of 437 (by decide +kernel) (by decide +kernel)
theorem g438 : Cond.selects "PledgeHouse" yX3_debtsByClients yX3_debtsByClients ∈ Gw := Gw_of 438 (by decide +kernel) (by decide +kernel)
theorem g439 : Cond.code yX3_debtsByClients prog_1_method_53_code 1 (Option.some Jvm.ClassFile.FieldType.int) ∈ Gw := Gw_of 439 (by decide +kernel) (by decide +kernel)
theorem g440 : Cond.methodLink "PledgeHouse" 240 yX0_debtsOfAll ∈ Gw := Gw_of 440 (by decide +kernel) (by decide +kernel)
theorem g441 : Cond.instanceMethod yX0_debtsOfAll ∈ Gw := Gw_of 441 (by decide +kernel) (by decide +kernel)
theorem g442 : Cond.selects "PledgeHouse$Ledger" yX0_debtsOfAll yX0_debtsOfAll ∈ Gw := Gw_of 442 (by decide +kernel) (by decide +kernel)
theorem g443 : Cond.code yX0_debtsOfAll prog_2_method_10_code 3 (Option.some Jvm.ClassFile.FieldType.int) ∈ Gw := Gw_of 443 (by decide +kernel) (by decide +kernel)
theorem g444 : Cond.methodLink "PledgeHouseLaw" 326 yX3_debtsByAccount ∈ Gw := Gw_of 444 (by decide +kernel) (by decide +kernel)
theorem g445 : Cond.instanceMethod yX3_debtsByAccount ∈ Gw := Gw_of 445 (by decide +kernel) (by decide +kernel)
theorem g446 : Cond.selects "PledgeHouse" yX3_debtsByAccount yX3_debtsByAccount ∈ Gw := Gw_of 446 (by decide +kernel) (by decide +kernel)
theorem g447 : Cond.code yX3_debtsByAccount prog_1_method_54_code 1 (Option.some Jvm.ClassFile.FieldType.int) ∈ Gw := Gw_of 447 (by decide +kernel) (by decide +kernel)
theorem g448 : Cond.methodLink "PledgeHouseLaw" 330 yX3_lent ∈ Gw := Gw_of 448 (by decide +kernel) (by decide +kernel)
theorem g449 : Cond.instanceMethod yX3_lent ∈ Gw := Gw_of 449 (by decide +kernel) (by decide +kernel)
theorem g450 : Cond.selects "PledgeHouse" yX3_lent yX3_lent ∈ Gw := Gw_of 450 (by decide +kernel) (by decide +kernel)
theorem g451 : Cond.code yX3_lent prog_1_method_55_code 1 (Option.some Jvm.ClassFile.FieldType.int) ∈ Gw := Gw_of 451 (by decide +kernel) (by decide +kernel)
theorem g452 : Cond.methodLink "PledgeHouseLaw" 334 yX3_interest ∈ Gw := Gw_of 452 (by decide +kernel) (by decide +kernel)
theorem g453 : Cond.instanceMethod yX3_interest ∈ Gw := Gw_of 453 (by decide +kernel) (by decide +kernel)
theorem g454 : Cond.selects "PledgeHouse" yX3_interest yX3_interest ∈ Gw := Gw_of 454 (by decide +kernel) (by decide +kernel)
theorem g455 : Cond.code yX3_interest prog_1_method_56_code 1 (Option.some Jvm.ClassFile.FieldType.int) ∈ Gw := Gw_of 455 (by decide +kernel) (by decide +kernel)
theorem g456 : Cond.methodLink "PledgeHouseLaw" 338 yX3_repaid ∈ Gw := Gw_of 456 (by decide +kernel) (by decide +kernel)
theorem g457 : Cond.instanceMethod yX3_repaid ∈ Gw := Gw_of 457 (by decide +kernel) (by decide +kernel)
theorem g458 : Cond.selects "PledgeHouse" yX3_repaid yX3_repaid ∈ Gw := Gw_of 458 (by decide +kernel) (by decide +kernel)
theorem g459 : Cond.code yX3_repaid prog_1_method_57_code 1 (Option.some Jvm.ClassFile.FieldType.int) ∈ Gw := Gw_of 459 (by decide +kernel) (by decide +kernel)
theorem g460 : Cond.methodLink "PledgeHouseLaw" 342 yX3_lost ∈ Gw := Gw_of 460 (by decide +kernel) (by decide +kernel)
theorem g461 : Cond.instanceMethod yX3_lost ∈ Gw := Gw_of 461 (by decide +kernel) (by decide +kernel)
theorem g462 : Cond.selects "PledgeHouse" yX3_lost yX3_lost ∈ Gw := Gw_of 462 (by decide +kernel) (by decide +kernel)
theorem g463 : Cond.code yX3_lost prog_1_method_58_code 1 (Option.some Jvm.ClassFile.FieldType.int) ∈ Gw := Gw_of 463 (by decide +kernel) (by decide +kernel)
theorem g464 : Cond.methodLink "PledgeHouseLaw" 346 yX3_calls ∈ Gw := Gw_of 464 (by decide +kernel) (by decide +kernel)
theorem g465 : Cond.instanceMethod yX3_calls ∈ Gw := Gw_of 465 (by decide +kernel) (by decide +kernel)
theorem g466 : Cond.selects "PledgeHouse" yX3_calls yX3_calls ∈ Gw := Gw_of 466 (by decide +kernel) (by decide +kernel)
theorem g467 : Cond.code yX3_calls prog_1_method_59_code 1 (Option.some Jvm.ClassFile.FieldType.int) ∈ Gw := Gw_of 467 (by decide +kernel) (by decide +kernel)
theorem g468 : Cond.methodLink "PledgeHouseLaw" 350 yX3_soldOut ∈ Gw := Gw_of 468 (by decide +kernel) (by decide +kernel)
theorem g469 : Cond.instanceMethod yX3_soldOut ∈ Gw := Gw_of 469 (by decide +kernel) (by decide +kernel)
theorem g470 : Cond.selects "PledgeHouse" yX3_soldOut yX3_soldOut ∈ Gw := Gw_of 470 (by decide +kernel) (by decide +kernel)
theorem g471 : Cond.code yX3_soldOut prog_1_method_60_code 1 (Option.some Jvm.ClassFile.FieldType.int) ∈ Gw := Gw_of 471 (by decide +kernel) (by decide +kernel)
theorem g472 : Cond.methodLink "PledgeHouseLaw" 354 yX3_usedShare ∈ Gw := Gw_of 472 (by decide +kernel) (by decide +kernel)
theorem g473 : Cond.instanceMethod yX3_usedShare ∈ Gw := Gw_of 473 (by decide +kernel) (by decide +kernel)
theorem g474 : Cond.selects "PledgeHouse" yX3_usedShare yX3_usedShare ∈ Gw := Gw_of 474 (by decide +kernel) (by decide +kernel)
theorem g475 : Cond.code yX3_usedShare prog_1_method_61_code 2 (Option.some Jvm.ClassFile.FieldType.double) ∈ Gw := Gw_of 475 (by decide +kernel) (by decide +kernel)
theorem g476 : Cond.methodLink "PledgeHouse" 261 yX0_coverOfAll ∈ Gw := Gw_of 476 (by decide +kernel) (by decide +kernel)
theorem g477 : Cond.instanceMethod yX0_coverOfAll ∈ Gw := Gw_of 477 (by decide +kernel) (by decide +kernel)
theorem g478 : Cond.selects "PledgeHouse$Ledger" yX0_coverOfAll yX0_coverOfAll ∈ Gw := Gw_of 478 (by decide +kernel) (by decide +kernel)
theorem g479 : Cond.code yX0_coverOfAll prog_2_method_11_code 3 (Option.some Jvm.ClassFile.FieldType.int) ∈ Gw := Gw_of 479 (by decide +kernel) (by decide +kernel)
theorem g480 : Cond.methodLink "PledgeHouse$Ledger" 94 yX0_cover ∈ Gw := Gw_of 480 (by decide +kernel) (by decide +kernel)
theorem g481 : Cond.instanceMethod yX0_cover ∈ Gw := Gw_of 481 (by decide +kernel) (by decide +kernel)
theorem g482 : Cond.selects "PledgeHouse$Ledger" yX0_cover yX0_cover ∈ Gw := Gw_of 482 (by decide +kernel) (by decide +kernel)
theorem g483 : Cond.code yX0_cover prog_2_method_4_code 2 (Option.some Jvm.ClassFile.FieldType.int) ∈ Gw := Gw_of 483 (by decide +kernel) (by decide +kernel)
theorem g484 : Cond.methodLink "PledgeHouse$Ledger" 87 yX0_coverAfterFall ∈ Gw := Gw_of 484 (by decide +kernel) (by decide +kernel)
theorem g485 : Cond.instanceMethod yX0_coverAfterFall ∈ Gw := Gw_of 485 (by decide +kernel) (by decide +kernel)
theorem g486 : Cond.selects "PledgeHouse$Ledger" yX0_coverAfterFall yX0_coverAfterFall ∈ Gw := Gw_of 486 (by decide +kernel) (by decide +kernel)
theorem g487 : Cond.code yX0_coverAfterFall prog_2_method_5_code 6 (Option.some Jvm.ClassFile.FieldType.int) ∈ Gw := Gw_of 487 (by decide +kernel) (by decide +kernel)
theorem g489 : Cond.static yX3_at ∈ Gw := Gw_of 489 (by decide +kernel) (by decide +kernel)
theorem g490 : Cond.code yX3_at prog_1_method_74_code 2 (Option.some Jvm.ClassFile.FieldType.int) ∈ Gw := Gw_of 490 (by decide +kernel) (by decide +kernel)
theorem g492 : Cond.static yX3_fallen ∈ Gw := Gw_of 492 (by decide +kernel) (by decide +kernel)
theorem g493 : Cond.code yX3_fallen prog_1_method_75_code 4 (Option.some Jvm.ClassFile.FieldType.int) ∈ Gw := Gw_of 493 (by decide +kernel) (by decide +kernel)
theorem g494 : Cond.methodLink "PledgeHouseLaw" 359 yX3_digest ∈ Gw := Gw_of 494 (by decide +kernel) (by decide +kernel)
theorem g495 : Cond.instanceMethod yX3_digest ∈ Gw := Gw_of 495 (by decide +kernel) (by decide +kernel)
theorem g496 : Cond.selects "PledgeHouse" yX3_digest yX3_digest ∈ Gw := Gw_of 496 (by decide +kernel) (by decide +kernel)
theorem g497 : Cond.code yX3_digest prog_1_method_62_code 4 (Option.some Jvm.ClassFile.FieldType.long) ∈ Gw := Gw_of 497 (by decide +kernel) (by decide +kernel)
theorem g498 : Cond.constantLong "PledgeHouse" 264 (4397 : Int64) ∈ Gw := Gw_of 498 (by decide +kernel) (by decide +kernel)
theorem g499 : Cond.methodLink "PledgeHouse" 266 yX3_hashKind ∈ Gw := Gw_of 499 (by decide +kernel) (by decide +kernel)
theorem g501 : Cond.instanceMethod yX3_hashKind ∈ Gw := Gw_of 501 (by decide +kernel) (by decide +kernel)
theorem g502 : Cond.code yX3_hashKind prog_1_method_63_code 6 (Option.some Jvm.ClassFile.FieldType.long) ∈ Gw := Gw_of 502 (by decide +kernel) (by decide +kernel)
theorem g503 : Cond.methodLink "PledgeHouse" 276 yX3_mixed ∈ Gw := Gw_of 503 (by decide +kernel) (by decide +kernel)
theorem g504 : Cond.static yX3_mixed ∈ Gw := Gw_of 504 (by decide +kernel) (by decide +kernel)
theorem g505 : Cond.code yX3_mixed prog_1_method_69_code 4 (Option.some Jvm.ClassFile.FieldType.long) ∈ Gw := Gw_of 505 (by decide +kernel) (by decide +kernel)
theorem g506 : Cond.constantLong "PledgeHouse" 304 (31 : Int64) ∈ Gw := Gw_of 506 (by decide +kernel) (by decide +kernel)
theorem g507 : Cond.methodLink "PledgeHouse" 181 yX0_piecesOfAll ∈ Gw := Gw_of 507 (by decide +kernel) (by decide +kernel)
theorem g508 : Cond.instanceMethod yX0_piecesOfAll ∈ Gw := Gw_of 508 (by decide +kernel) (by decide +kernel)
theorem g509 : Cond.selects "PledgeHouse$Ledger" yX0_piecesOfAll yX0_piecesOfAll ∈ Gw := Gw_of 509 (by decide +kernel) (by decide +kernel)
theorem g510 : Cond.code yX0_piecesOfAll prog_2_method_9_code 4 (Option.some Jvm.ClassFile.FieldType.int) ∈ Gw := Gw_of 510 (by decide +kernel) (by decide +kernel)
theorem g511 : Cond.methodLink "PledgeHouse" 270 yX3_hashPledges ∈ Gw := Gw_of 511 (by decide +kernel) (by decide +kernel)
theorem g513 : Cond.instanceMethod yX3_hashPledges ∈ Gw := Gw_of 513 (by decide +kernel) (by decide +kernel)
theorem g514 : Cond.code yX3_hashPledges prog_1_method_64_code 7 (Option.some Jvm.ClassFile.FieldType.long) ∈ Gw := Gw_of 514 (by decide +kernel) (by decide +kernel)
theorem g515 : Cond.methodLink "PledgeHouse" 91 yX3_at ∈ Gw := Gw_of 515 (by decide +kernel) (by decide +kernel)
theorem g516 : Cond.methodLink "PledgeHouse" 187 yX0_worth ∈ Gw := Gw_of 516 (by decide +kernel) (by decide +kernel)
theorem g517 : Cond.instanceMethod yX0_worth ∈ Gw := Gw_of 517 (by decide +kernel) (by decide +kernel)
theorem g518 : Cond.selects "PledgeHouse$Ledger" yX0_worth yX0_worth ∈ Gw := Gw_of 518 (by decide +kernel) (by decide +kernel)
theorem g519 : Cond.code yX0_worth prog_2_method_3_code 4 (Option.some Jvm.ClassFile.FieldType.int) ∈ Gw := Gw_of 519 (by decide +kernel) (by decide +kernel)
theorem g520 : Cond.methodLink "PledgeHouse" 190 yX0_cover ∈ Gw := Gw_of 520 (by decide +kernel) (by decide +kernel)
theorem g521 : Cond.methodLink "PledgeHouse" 193 yX0_openRoom ∈ Gw := Gw_of 521 (by decide +kernel) (by decide +kernel)
theorem g522 : Cond.instanceMethod yX0_openRoom ∈ Gw := Gw_of 522 (by decide +kernel) (by decide +kernel)
theorem g523 : Cond.selects "PledgeHouse$Ledger" yX0_openRoom yX0_openRoom ∈ Gw := Gw_of 523 (by decide +kernel) (by decide +kernel)
theorem g524 : Cond.code yX0_openRoom prog_2_method_7_code 3 (Option.some Jvm.ClassFile.FieldType.int) ∈ Gw := Gw_of 524 (by decide +kernel) (by decide +kernel)
theorem g525 : Cond.methodLink "PledgeHouse" 273 yX3_hashOutlook ∈ Gw := Gw_of 525 (by decide +kernel) (by decide +kernel)
theorem g527 : Cond.instanceMethod yX3_hashOutlook ∈ Gw := Gw_of 527 (by decide +kernel) (by decide +kernel)
theorem g528 : Cond.code yX3_hashOutlook prog_1_method_65_code 6 (Option.some Jvm.ClassFile.FieldType.long) ∈ Gw := Gw_of 528 (by decide +kernel) (by decide +kernel)
theorem g529 : Cond.methodLink "PledgeHouse" 202 yX0_riskPlace ∈ Gw := Gw_of 529 (by decide +kernel) (by decide +kernel)
theorem g530 : Cond.instanceMethod yX0_riskPlace ∈ Gw := Gw_of 530 (by decide +kernel) (by decide +kernel)
theorem g531 : Cond.selects "PledgeHouse$Ledger" yX0_riskPlace yX0_riskPlace ∈ Gw := Gw_of 531 (by decide +kernel) (by decide +kernel)
theorem g532 : Cond.code yX0_riskPlace prog_2_method_18_code 4 (Option.some Jvm.ClassFile.FieldType.int) ∈ Gw := Gw_of 532 (by decide +kernel) (by decide +kernel)
theorem g533 : Cond.methodLink "PledgeHouse$Ledger" 109 yX0_isRiskier ∈ Gw := Gw_of 533 (by decide +kernel) (by decide +kernel)
theorem g534 : Cond.instanceMethod yX0_isRiskier ∈ Gw := Gw_of 534 (by decide +kernel) (by decide +kernel)
theorem g535 : Cond.selects "PledgeHouse$Ledger" yX0_isRiskier yX0_isRiskier ∈ Gw := Gw_of 535 (by decide +kernel) (by decide +kernel)
theorem g536 : Cond.code yX0_isRiskier prog_2_method_17_code 9 (Option.some Jvm.ClassFile.FieldType.boolean) ∈ Gw := Gw_of 536 (by decide +kernel) (by decide +kernel)
theorem g537 : Cond.methodLink "PledgeHouse" 215 yX0_callingFallByTrying ∈ Gw := Gw_of 537 (by decide +kernel) (by decide +kernel)
theorem g538 : Cond.instanceMethod yX0_callingFallByTrying ∈ Gw := Gw_of 538 (by decide +kernel) (by decide +kernel)
theorem g539 : Cond.selects "PledgeHouse$Ledger" yX0_callingFallByTrying yX0_callingFallByTrying ∈ Gw := Gw_of 539 (by decide +kernel) (by decide +kernel)
theorem g540 : Cond.code yX0_callingFallByTrying prog_2_method_14_code 3 (Option.some Jvm.ClassFile.FieldType.int) ∈ Gw := Gw_of 540 (by decide +kernel) (by decide +kernel)
theorem g541 : Cond.methodLink "PledgeHouse$Ledger" 102 yX0_staysCovered ∈ Gw := Gw_of 541 (by decide +kernel) (by decide +kernel)
theorem g542 : Cond.instanceMethod yX0_staysCovered ∈ Gw := Gw_of 542 (by decide +kernel) (by decide +kernel)
theorem g543 : Cond.selects "PledgeHouse$Ledger" yX0_staysCovered yX0_staysCovered ∈ Gw := Gw_of 543 (by decide +kernel) (by decide +kernel)
theorem g544 : Cond.code yX0_staysCovered prog_2_method_6_code 4 (Option.some Jvm.ClassFile.FieldType.boolean) ∈ Gw := Gw_of 544 (by decide +kernel) (by decide +kernel)
theorem g545 : Cond.methodLink "PledgeHouse" 218 yX0_callingFallByHalving ∈ Gw := Gw_of 545 (by decide +kernel) (by decide +kernel)
theorem g546 : Cond.instanceMethod yX0_callingFallByHalving ∈ Gw := Gw_of 546 (by decide +kernel) (by decide +kernel)
theorem g547 : Cond.selects "PledgeHouse$Ledger" yX0_callingFallByHalving yX0_callingFallByHalving ∈ Gw := Gw_of 547 (by decide +kernel) (by decide +kernel)
theorem g548 : Cond.code yX0_callingFallByHalving prog_2_method_15_code 6 (Option.some Jvm.ClassFile.FieldType.int) ∈ Gw := Gw_of 548 (by decide +kernel) (by decide +kernel)
theorem g549 : Cond.methodLink "PledgeHouse" 224 yX2_reckon ∈ Gw := Gw_of 549 (by decide +kernel) (by decide +kernel)
theorem g550 : Cond.instanceMethod yX2_reckon ∈ Gw := Gw_of 550 (by decide +kernel) (by decide +kernel)
theorem g551 : Cond.selects "PledgeHouse$Sale" yX2_reckon yX2_reckon ∈ Gw := Gw_of 551 (by decide +kernel) (by decide +kernel)
theorem g552 : Cond.code yX2_reckon prog_4_method_2_code 5 (Option.none : Option Jvm.ClassFile.FieldType) ∈ Gw := Gw_of 552 (by decide +kernel) (by decide +kernel)
theorem g553 : Cond.methodLink "PledgeHouse$Sale" 42 yX2_layOutPieces ∈ Gw := Gw_of 553 (by decide +kernel) (by decide +kernel)
theorem g554 : Cond.instanceMethod yX2_layOutPieces ∈ Gw := Gw_of 554 (by decide +kernel) (by decide +kernel)
theorem g555 : Cond.selects "PledgeHouse$Sale" yX2_layOutPieces yX2_layOutPieces ∈ Gw := Gw_of 555 (by decide +kernel) (by decide +kernel)
theorem g556 : Cond.code yX2_layOutPieces prog_4_method_3_code 5 (Option.some Jvm.ClassFile.FieldType.int) ∈ Gw := Gw_of 556 (by decide +kernel) (by decide +kernel)
theorem g558 : Cond.methodLink "PledgeHouse$Sale" 67 yX2_keyOf ∈ Gw := Gw_of 558 (by decide +kernel) (by decide +kernel)
theorem g559 : Cond.instanceMethod yX2_keyOf ∈ Gw := Gw_of 559 (by decide +kernel) (by decide +kernel)
theorem g560 : Cond.selects "PledgeHouse$Sale" yX2_keyOf yX2_keyOf ∈ Gw := Gw_of 560 (by decide +kernel) (by decide +kernel)
theorem g561 : Cond.code yX2_keyOf prog_4_method_4_code 3 (Option.some Jvm.ClassFile.FieldType.int) ∈ Gw := Gw_of 561 (by decide +kernel) (by decide +kernel)
theorem g562 : Cond.methodLink "PledgeHouse$Sale" 70 yX2_coverOfOne ∈ Gw := Gw_of 562 (by decide +kernel) (by decide +kernel)
theorem g563 : Cond.instanceMethod yX2_coverOfOne ∈ Gw := Gw_of 563 (by decide +kernel) (by decide +kernel)
theorem g564 : Cond.selects "PledgeHouse$Sale" yX2_coverOfOne yX2_coverOfOne ∈ Gw := Gw_of 564 (by decide +kernel) (by decide +kernel)
theorem g565 : Cond.code yX2_coverOfOne prog_4_method_5_code 3 (Option.some Jvm.ClassFile.FieldType.int) ∈ Gw := Gw_of 565 (by decide +kernel) (by decide +kernel)
theorem g566 : Cond.methodLink "PledgeHouse$Sale" 46 yX2_payFromCoins ∈ Gw := Gw_of 566 (by decide +kernel) (by decide +kernel)
theorem g567 : Cond.instanceMethod yX2_payFromCoins ∈ Gw := Gw_of 567 (by decide +kernel) (by decide +kernel)
theorem g568 : Cond.selects "PledgeHouse$Sale" yX2_payFromCoins yX2_payFromCoins ∈ Gw := Gw_of 568 (by decide +kernel) (by decide +kernel)
theorem g569 : Cond.code yX2_payFromCoins prog_4_method_7_code 2 (Option.none : Option Jvm.ClassFile.FieldType) ∈ Gw := Gw_of 569 (by decide +kernel) (by decide +kernel)
theorem g570 : Cond.methodLink "PledgeHouse$Sale" 82 yX2_payWith ∈ Gw := Gw_of 570 (by decide +kernel) (by decide +kernel)
theorem g571 : Cond.instanceMethod yX2_payWith ∈ Gw := Gw_of 571 (by decide +kernel) (by decide +kernel)
theorem g572 : Cond.selects "PledgeHouse$Sale" yX2_payWith yX2_payWith ∈ Gw := Gw_of 572 (by decide +kernel) (by decide +kernel)
theorem g573 : Cond.code yX2_payWith prog_4_method_10_code 3 (Option.none : Option Jvm.ClassFile.FieldType) ∈ Gw := Gw_of 573 (by decide +kernel) (by decide +kernel)
theorem g574 : Cond.methodLink "PledgeHouse$Sale" 49 yX2_isCovered ∈ Gw := Gw_of 574 (by decide +kernel) (by decide +kernel)
theorem g575 : Cond.instanceMethod yX2_isCovered ∈ Gw := Gw_of 575 (by decide +kernel) (by decide +kernel)
theorem g576 : Cond.selects "PledgeHouse$Sale" yX2_isCovered yX2_isCovered ∈ Gw := Gw_of 576 (by decide +kernel) (by decide +kernel)
theorem g577 : Cond.code yX2_isCovered prog_4_method_6_code 1 (Option.some Jvm.ClassFile.FieldType.boolean) ∈ Gw := Gw_of 577 (by decide +kernel) (by decide +kernel)
theorem g578 : Cond.methodLink "PledgeHouse$Sale" 53 yX2_sellOne ∈ Gw := Gw_of 578 (by decide +kernel) (by decide +kernel)
theorem g579 : Cond.instanceMethod yX2_sellOne ∈ Gw := Gw_of 579 (by decide +kernel) (by decide +kernel)
theorem g580 : Cond.selects "PledgeHouse$Sale" yX2_sellOne yX2_sellOne ∈ Gw := Gw_of 580 (by decide +kernel) (by decide +kernel)
theorem g581 : Cond.code yX2_sellOne prog_4_method_8_code 3 (Option.none : Option Jvm.ClassFile.FieldType) ∈ Gw := Gw_of 581 (by decide +kernel) (by decide +kernel)
theorem g582 : Cond.methodLink "PledgeHouse$Sale" 86 yX2_firstKind ∈ Gw := Gw_of 582 (by decide +kernel) (by decide +kernel)
theorem g583 : Cond.instanceMethod yX2_firstKind ∈ Gw := Gw_of 583 (by decide +kernel) (by decide +kernel)
theorem g584 : Cond.selects "PledgeHouse$Sale" yX2_firstKind yX2_firstKind ∈ Gw := Gw_of 584 (by decide +kernel) (by decide +kernel)
theorem g585 : Cond.code yX2_firstKind prog_4_method_9_code 3 (Option.some Jvm.ClassFile.FieldType.int) ∈ Gw := Gw_of 585 (by decide +kernel) (by decide +kernel)
theorem g586 : Cond.methodLink "PledgeHouse" 208 yX0_sortByRisk ∈ Gw := Gw_of 586 (by decide +kernel) (by decide +kernel)
theorem g587 : Cond.instanceMethod yX0_sortByRisk ∈ Gw := Gw_of 587 (by decide +kernel) (by decide +kernel)
theorem g588 : Cond.selects "PledgeHouse$Ledger" yX0_sortByRisk yX0_sortByRisk ∈ Gw := Gw_of 588 (by decide +kernel) (by decide +kernel)
theorem g589 : Cond.code yX0_sortByRisk prog_2_method_19_code 4 (Option.none : Option Jvm.ClassFile.FieldType) ∈ Gw := Gw_of 589 (by decide +kernel) (by decide +kernel)
theorem g590 : Cond.methodLink "PledgeHouse" 212 yX0_takeRiskiest ∈ Gw := Gw_of 590 (by decide +kernel) (by decide +kernel)
theorem g591 : Cond.instanceMethod yX0_takeRiskiest ∈ Gw := Gw_of 591 (by decide +kernel) (by decide +kernel)
theorem g592 : Cond.selects "PledgeHouse$Ledger" yX0_takeRiskiest yX0_takeRiskiest ∈ Gw := Gw_of 592 (by decide +kernel) (by decide +kernel)
theorem g593 : Cond.code yX0_takeRiskiest prog_2_method_20_code 5 (Option.some Jvm.ClassFile.FieldType.int) ∈ Gw := Gw_of 593 (by decide +kernel) (by decide +kernel)
theorem g594 : Cond.methodLink "PledgeHouse$Ledger" 113 yX0_riskiestBut ∈ Gw := Gw_of 594 (by decide +kernel) (by decide +kernel)
theorem g595 : Cond.instanceMethod yX0_riskiestBut ∈ Gw := Gw_of 595 (by decide +kernel) (by decide +kernel)
theorem g596 : Cond.selects "PledgeHouse$Ledger" yX0_riskiestBut yX0_riskiestBut ∈ Gw := Gw_of 596 (by decide +kernel) (by decide +kernel)
theorem g597 : Cond.code yX0_riskiestBut prog_2_method_21_code 5 (Option.some Jvm.ClassFile.FieldType.int) ∈ Gw := Gw_of 597 (by decide +kernel) (by decide +kernel)
theorem g598 : Cond.methodLink "PledgeHouse" 280 yX3_hashRules ∈ Gw := Gw_of 598 (by decide +kernel) (by decide +kernel)
theorem g600 : Cond.instanceMethod yX3_hashRules ∈ Gw := Gw_of 600 (by decide +kernel) (by decide +kernel)
theorem g601 : Cond.code yX3_hashRules prog_1_method_66_code 5 (Option.some Jvm.ClassFile.FieldType.long) ∈ Gw := Gw_of 601 (by decide +kernel) (by decide +kernel)
theorem g602 : Cond.methodLink "PledgeHouse" 234 yX0_countUncoveredAfterFall ∈ Gw := Gw_of 602 (by decide +kernel) (by decide +kernel)
theorem g603 : Cond.instanceMethod yX0_countUncoveredAfterFall ∈ Gw := Gw_of 603 (by decide +kernel) (by decide +kernel)
theorem g604 : Cond.selects "PledgeHouse$Ledger" yX0_countUncoveredAfterFall yX0_countUncoveredAfterFall ∈ Gw := Gw_of 604 (by decide +kernel) (by decide +kernel)
theorem g605 : Cond.code yX0_countUncoveredAfterFall prog_2_method_13_code 4 (Option.some Jvm.ClassFile.FieldType.int) ∈ Gw := Gw_of 605 (by decide +kernel) (by decide +kernel)
theorem g606 : Cond.methodLink "PledgeHouse" 284 yX3_hashAccounts ∈ Gw := Gw_of 606 (by decide +kernel) (by decide +kernel)
theorem g608 : Cond.instanceMethod yX3_hashAccounts ∈ Gw := Gw_of 608 (by decide +kernel) (by decide +kernel)
theorem g609 : Cond.code yX3_hashAccounts prog_1_method_67_code 5 (Option.some Jvm.ClassFile.FieldType.long) ∈ Gw := Gw_of 609 (by decide +kernel) (by decide +kernel)
theorem g610 : Cond.methodLink "PledgeHouse" 290 yX3_debtsByClients ∈ Gw := Gw_of 610 (by decide +kernel) (by decide +kernel)
theorem g611 : Cond.methodLink "PledgeHouse" 293 yX3_debtsByAccount ∈ Gw := Gw_of 611 (by decide +kernel) (by decide +kernel)
theorem g612 : Cond.methodLink "PledgeHouse" 296 yX3_usedShare ∈ Gw := Gw_of 612 (by decide +kernel) (by decide +kernel)
theorem g613 : Cond.methodLink "PledgeHouse" 300 yX3_bitsOf ∈ Gw := Gw_of 613 (by decide +kernel) (by decide +kernel)
theorem g614 : Cond.static yX3_bitsOf ∈ Gw := Gw_of 614 (by decide +kernel) (by decide +kernel)
theorem g615 : Cond.code yX3_bitsOf prog_1_method_70_code 7 (Option.some Jvm.ClassFile.FieldType.long) ∈ Gw := Gw_of 615 (by decide +kernel) (by decide +kernel)
theorem g616 : Cond.constantDouble "PledgeHouse" 306 (4611686018427387904 : UInt64) ∈ Gw := Gw_of 616 (by decide +kernel) (by decide +kernel)
theorem g617 : Cond.constantDouble "PledgeHouse" 308 (4841369599423283200 : UInt64) ∈ Gw := Gw_of 617 (by decide +kernel) (by decide +kernel)
theorem g618 : Cond.methodLink "PledgeHouse" 287 yX3_hashSlotsAndText ∈ Gw := Gw_of 618 (by decide +kernel) (by decide +kernel)
theorem g620 : Cond.instanceMethod yX3_hashSlotsAndText ∈ Gw := Gw_of 620 (by decide +kernel) (by decide +kernel)
theorem g621 : Cond.code yX3_hashSlotsAndText prog_1_method_68_code 6 (Option.some Jvm.ClassFile.FieldType.long) ∈ Gw := Gw_of 621 (by decide +kernel) (by decide +kernel)
theorem g622 : Cond.methodLink "PledgeHouseLaw" 148 yL_setPrice ∈ Gw := Gw_of 622 (by decide +kernel) (by decide +kernel)
theorem g623 : Cond.static yL_setPrice ∈ Gw := Gw_of 623 (by decide +kernel) (by decide +kernel)
theorem g624 : Cond.codeWith yL_setPrice method_3_code 5 (Option.some Jvm.ClassFile.FieldType.int) [(0, 10, 13, 13), (0, 10, 17, 15)] ∈ Gw := Gw_of 624 (by decide +kernel) (by decide +kernel)
theorem g625 : Cond.classLink "PledgeHouseLaw" 13 "java/lang/IndexOutOfBoundsException" ∈ Gw := Gw_of 625 (by decide +kernel) (by decide +kernel)
theorem g626 : Cond.classLink "PledgeHouseLaw" 15 "java/lang/IllegalArgumentException" ∈ Gw := Gw_of 626 (by decide +kernel) (by decide +kernel)
theorem g627 : Cond.methodLink "PledgeHouseLaw" 7 yX3_setPrice ∈ Gw := Gw_of 627 (by decide +kernel) (by decide +kernel)
theorem g628 : Cond.instanceMethod yX3_setPrice ∈ Gw := Gw_of 628 (by decide +kernel) (by decide +kernel)
theorem g629 : Cond.selects "PledgeHouse" yX3_setPrice yX3_setPrice ∈ Gw := Gw_of 629 (by decide +kernel) (by decide +kernel)
theorem g630 : Cond.code yX3_setPrice prog_1_method_2_code 3 (Option.some Jvm.ClassFile.FieldType.int) ∈ Gw := Gw_of 630 (by decide +kernel) (by decide +kernel)
theorem g631 : Cond.methodLink "PledgeHouse" 48 yX3_needKind ∈ Gw := Gw_of 631 (by decide +kernel) (by decide +kernel)
theorem g632 : Cond.static yX3_needKind ∈ Gw := Gw_of 632 (by decide +kernel) (by decide +kernel)
theorem g633 : Cond.code yX3_needKind prog_1_method_76_code 1 (Option.none : Option Jvm.ClassFile.FieldType) ∈ Gw := Gw_of 633 (by decide +kernel) (by decide +kernel)
theorem g634 : Cond.classLink "PledgeHouse" 322 "java/lang/IndexOutOfBoundsException" ∈ Gw := Gw_of 634 (by decide +kernel) (by decide +kernel)
theorem g635 : Cond.instantiable "java/lang/IndexOutOfBoundsException" 6 ∈ Gw := Gw_of 635 (by decide +kernel) (by decide +kernel)
theorem g643 : Cond.selects "java/lang/IndexOutOfBoundsException" ⟨"java/lang/Throwable", "fillInStackTrace", "(I)Ljava/lang/Throwable;"⟩ ⟨"java/lang/Throwable", "fillInStackTrace", "(I)Ljava/lang/Throwable;"⟩ ∈ Gw := Gw_of 643 (by decide +kernel) (by decide +kernel)
theorem g644 : Cond.selects "java/lang/IndexOutOfBoundsException" ⟨"java/lang/Throwable", "fillInStackTrace", "()Ljava/lang/Throwable;"⟩ ⟨"java/lang/Throwable", "fillInStackTrace", "()Ljava/lang/Throwable;"⟩ ∈ Gw := Gw_of 644 (by decide +kernel) (by decide +kernel)
theorem g655 : Cond.fieldLink "java/lang/Throwable" 198 "java/lang/Throwable" "backtrace" "Ljava/lang/Object;" ∈ Gw := Gw_of 655 (by decide +kernel) (by decide +kernel)
theorem g657 : Cond.instanceMethod ⟨"java/lang/Throwable", "<init>", "()V"⟩ ∈ Gw := Gw_of 657 (by decide +kernel) (by decide +kernel)
theorem g658 : Cond.code ⟨"java/lang/Throwable", "<init>", "()V"⟩ prog_16_method_1_code 1 (Option.none : Option Jvm.ClassFile.FieldType) ∈ Gw := Gw_of 658 (by decide +kernel) (by decide +kernel)
theorem g659 : Cond.methodLink "java/lang/Throwable" 1 ⟨"java/lang/Object", "<init>", "()V"⟩ ∈ Gw := Gw_of 659 (by decide +kernel) (by decide +kernel)
theorem g660 : Cond.fieldLink "java/lang/Throwable" 13 "java/lang/Throwable" "UNASSIGNED_STACK" "[Ljava/lang/StackTraceElement;" ∈ Gw := Gw_of 660 (by decide +kernel) (by decide +kernel)
theorem g662 : Cond.fieldLink "java/lang/Throwable" 20 "java/lang/Throwable" "SUPPRESSED_SENTINEL" "Ljava/util/List;" ∈ Gw := Gw_of 662 (by decide +kernel) (by decide +kernel)
theorem g664 : Cond.methodLink "java/lang/Throwable" 27 ⟨"java/lang/Throwable", "fillInStackTrace", "()Ljava/lang/Throwable;"⟩ ∈ Gw := Gw_of 664 (by decide +kernel) (by decide +kernel)
theorem g665 : Cond.instanceMethod ⟨"java/lang/Throwable", "fillInStackTrace", "()Ljava/lang/Throwable;"⟩ ∈ Gw := Gw_of 665 (by decide +kernel) (by decide +kernel)
theorem g667 : Cond.selects "java/lang/IllegalArgumentException" ⟨"java/lang/Throwable", "fillInStackTrace", "()Ljava/lang/Throwable;"⟩ ⟨"java/lang/Throwable", "fillInStackTrace", "()Ljava/lang/Throwable;"⟩ ∈ Gw := Gw_of 667 (by decide +kernel) (by decide +kernel)
theorem g668 : Cond.selects "java/lang/IllegalStateException" ⟨"java/lang/Throwable", "fillInStackTrace", "()Ljava/lang/Throwable;"⟩ ⟨"java/lang/Throwable", "fillInStackTrace", "()Ljava/lang/Throwable;"⟩ ∈ Gw := Gw_of 668 (by decide +kernel) (by decide +kernel)
theorem g670 : Cond.methodLink "java/lang/Throwable" 202 ⟨"java/lang/Throwable", "fillInStackTrace", "(I)Ljava/lang/Throwable;"⟩ ∈ Gw := Gw_of 670 (by decide +kernel) (by decide +kernel)
theorem g672 : Cond.instanceMethod ⟨"java/lang/Throwable", "fillInStackTrace", "(I)Ljava/lang/Throwable;"⟩ ∈ Gw := Gw_of 672 (by decide +kernel) (by decide +kernel)
theorem g673 : Cond.instantiable "java/lang/Throwable" 6 ∈ Gw := Gw_of 673 (by decide +kernel) (by decide +kernel)
theorem g674 : Cond.native ⟨"java/lang/Throwable", "fillInStackTrace", "(I)Ljava/lang/Throwable;"⟩ ∈ Gw := Gw_of 674 (by decide +kernel) (by decide +kernel)
theorem g675 : Cond.methodLink "PledgeHouse" 324 ⟨"java/lang/IndexOutOfBoundsException", "<init>", "()V"⟩ ∈ Gw := Gw_of 675 (by decide +kernel) (by decide +kernel)
theorem g676 : Cond.instanceMethod ⟨"java/lang/IndexOutOfBoundsException", "<init>", "()V"⟩ ∈ Gw := Gw_of 676 (by decide +kernel) (by decide +kernel)
theorem g677 : Cond.code ⟨"java/lang/IndexOutOfBoundsException", "<init>", "()V"⟩ prog_10_method_1_code 1 (Option.none : Option Jvm.ClassFile.FieldType) ∈ Gw := Gw_of 677 (by decide +kernel) (by decide +kernel)
theorem g678 : Cond.methodLink "java/lang/IndexOutOfBoundsException" 1 ⟨"java/lang/RuntimeException", "<init>", "()V"⟩ ∈ Gw := Gw_of 678 (by decide +kernel) (by decide +kernel)
theorem g679 : Cond.instanceMethod ⟨"java/lang/RuntimeException", "<init>", "()V"⟩ ∈ Gw := Gw_of 679 (by decide +kernel) (by decide +kernel)
theorem g680 : Cond.code ⟨"java/lang/RuntimeException", "<init>", "()V"⟩ prog_11_method_1_code 1 (Option.none : Option Jvm.ClassFile.FieldType) ∈ Gw := Gw_of 680 (by decide +kernel) (by decide +kernel)
theorem g681 : Cond.methodLink "java/lang/RuntimeException" 1 ⟨"java/lang/Exception", "<init>", "()V"⟩ ∈ Gw := Gw_of 681 (by decide +kernel) (by decide +kernel)
theorem g682 : Cond.instanceMethod ⟨"java/lang/Exception", "<init>", "()V"⟩ ∈ Gw := Gw_of 682 (by decide +kernel) (by decide +kernel)
theorem g683 : Cond.code ⟨"java/lang/Exception", "<init>", "()V"⟩ prog_7_method_1_code 1 (Option.none : Option Jvm.ClassFile.FieldType) ∈ Gw := Gw_of 683 (by decide +kernel) (by decide +kernel)
theorem g684 : Cond.methodLink "java/lang/Exception" 1 ⟨"java/lang/Throwable", "<init>", "()V"⟩ ∈ Gw := Gw_of 684 (by decide +kernel) (by decide +kernel)
theorem g685 : Cond.fieldLink "java/lang/Throwable" 198 "java/lang/Throwable" "backtrace" "Ljava/lang/Object;" ∈ Gw := Gw_of 685 (by decide +kernel) (by decide +kernel)
theorem g686 : Cond.fieldLink "java/lang/Throwable" 7 "java/lang/Throwable" "cause" "Ljava/lang/Throwable;" ∈ Gw := Gw_of 686 (by decide +kernel) (by decide +kernel)
theorem g687 : Cond.fieldLink "java/lang/Throwable" 17 "java/lang/Throwable" "stackTrace" "[Ljava/lang/StackTraceElement;" ∈ Gw := Gw_of 687 (by decide +kernel) (by decide +kernel)
theorem g688 : Cond.fieldLink "java/lang/Throwable" 24 "java/lang/Throwable" "suppressedExceptions" "Ljava/util/List;" ∈ Gw := Gw_of 688 (by decide +kernel) (by decide +kernel)
theorem g697 : Cond.methodLink "PledgeHouse" 52 yX3_needRange ∈ Gw := Gw_of 697 (by decide +kernel) (by decide +kernel)
theorem g698 : Cond.static yX3_needRange ∈ Gw := Gw_of 698 (by decide +kernel) (by decide +kernel)
theorem g699 : Cond.code yX3_needRange prog_1_method_79_code 3 (Option.none : Option Jvm.ClassFile.FieldType) ∈ Gw := Gw_of 699 (by decide +kernel) (by decide +kernel)
theorem g700 : Cond.classLink "PledgeHouse" 154 "java/lang/IllegalArgumentException" ∈ Gw := Gw_of 700 (by decide +kernel) (by decide +kernel)
theorem g701 : Cond.instantiable "java/lang/IllegalArgumentException" 6 ∈ Gw := Gw_of 701 (by decide +kernel) (by decide +kernel)
theorem g703 : Cond.selects "java/lang/IllegalArgumentException" ⟨"java/lang/Throwable", "fillInStackTrace", "(I)Ljava/lang/Throwable;"⟩ ⟨"java/lang/Throwable", "fillInStackTrace", "(I)Ljava/lang/Throwable;"⟩ ∈ Gw := Gw_of 703 (by decide +kernel) (by decide +kernel)
theorem g709 : Cond.methodLink "PledgeHouse" 156 ⟨"java/lang/IllegalArgumentException", "<init>", "()V"⟩ ∈ Gw := Gw_of 709 (by decide +kernel) (by decide +kernel)
theorem g710 : Cond.instanceMethod ⟨"java/lang/IllegalArgumentException", "<init>", "()V"⟩ ∈ Gw := Gw_of 710 (by decide +kernel) (by decide +kernel)
theorem g711 : Cond.code ⟨"java/lang/IllegalArgumentException", "<init>", "()V"⟩ prog_8_method_1_code 1 (Option.none : Option Jvm.ClassFile.FieldType) ∈ Gw := Gw_of 711 (by decide +kernel) (by decide +kernel)
theorem g712 : Cond.methodLink "java/lang/IllegalArgumentException" 1 ⟨"java/lang/RuntimeException", "<init>", "()V"⟩ ∈ Gw := Gw_of 712 (by decide +kernel) (by decide +kernel)
theorem g715 : Cond.methodLink "PledgeHouse" 59 yX0_putPrice ∈ Gw := Gw_of 715 (by decide +kernel) (by decide +kernel)
theorem g716 : Cond.instanceMethod yX0_putPrice ∈ Gw := Gw_of 716 (by decide +kernel) (by decide +kernel)
theorem g717 : Cond.selects "PledgeHouse$Ledger" yX0_putPrice yX0_putPrice ∈ Gw := Gw_of 717 (by decide +kernel) (by decide +kernel)
theorem g718 : Cond.code yX0_putPrice prog_2_method_23_code 3 (Option.some Jvm.ClassFile.FieldType.int) ∈ Gw := Gw_of 718 (by decide +kernel) (by decide +kernel)
theorem g719 : Cond.methodLink "PledgeHouse$Ledger" 116 yX0_lookAtClients ∈ Gw := Gw_of 719 (by decide +kernel) (by decide +kernel)
theorem g720 : Cond.instanceMethod yX0_lookAtClients ∈ Gw := Gw_of 720 (by decide +kernel) (by decide +kernel)
theorem g721 : Cond.selects "PledgeHouse$Ledger" yX0_lookAtClients yX0_lookAtClients ∈ Gw := Gw_of 721 (by decide +kernel) (by decide +kernel)
theorem g722 : Cond.code yX0_lookAtClients prog_2_method_22_code 3 (Option.some Jvm.ClassFile.FieldType.int) ∈ Gw := Gw_of 722 (by decide +kernel) (by decide +kernel)
theorem g723 : Cond.methodLink "PledgeHouseLaw" 157 yL_setCut ∈ Gw := Gw_of 723 (by decide +kernel) (by decide +kernel)
theorem g724 : Cond.static yL_setCut ∈ Gw := Gw_of 724 (by decide +kernel) (by decide +kernel)
theorem g725 : Cond.codeWith yL_setCut method_4_code 5 (Option.some Jvm.ClassFile.FieldType.int) [(0, 10, 13, 13), (0, 10, 17, 15)] ∈ Gw := Gw_of 725 (by decide +kernel) (by decide +kernel)
theorem g726 : Cond.methodLink "PledgeHouseLaw" 17 yX3_setCut ∈ Gw := Gw_of 726 (by decide +kernel) (by decide +kernel)
theorem g727 : Cond.instanceMethod yX3_setCut ∈ Gw := Gw_of 727 (by decide +kernel) (by decide +kernel)
theorem g728 : Cond.selects "PledgeHouse" yX3_setCut yX3_setCut ∈ Gw := Gw_of 728 (by decide +kernel) (by decide +kernel)
theorem g729 : Cond.code yX3_setCut prog_1_method_3_code 3 (Option.some Jvm.ClassFile.FieldType.int) ∈ Gw := Gw_of 729 (by decide +kernel) (by decide +kernel)
theorem g730 : Cond.methodLink "PledgeHouse" 63 yX0_putCut ∈ Gw := Gw_of 730 (by decide +kernel) (by decide +kernel)
theorem g731 : Cond.instanceMethod yX0_putCut ∈ Gw := Gw_of 731 (by decide +kernel) (by decide +kernel)
theorem g732 : Cond.selects "PledgeHouse$Ledger" yX0_putCut yX0_putCut ∈ Gw := Gw_of 732 (by decide +kernel) (by decide +kernel)
theorem g733 : Cond.code yX0_putCut prog_2_method_24_code 3 (Option.some Jvm.ClassFile.FieldType.int) ∈ Gw := Gw_of 733 (by decide +kernel) (by decide +kernel)
theorem g734 : Cond.methodLink "PledgeHouseLaw" 160 yL_fall ∈ Gw := Gw_of 734 (by decide +kernel) (by decide +kernel)
theorem g735 : Cond.static yL_fall ∈ Gw := Gw_of 735 (by decide +kernel) (by decide +kernel)
theorem g736 : Cond.codeWith yL_fall method_5_code 4 (Option.some Jvm.ClassFile.FieldType.int) [(0, 9, 12, 15)] ∈ Gw := Gw_of 736 (by decide +kernel) (by decide +kernel)
theorem g737 : Cond.methodLink "PledgeHouseLaw" 20 yX3_fall ∈ Gw := Gw_of 737 (by decide +kernel) (by decide +kernel)
theorem g738 : Cond.instanceMethod yX3_fall ∈ Gw := Gw_of 738 (by decide +kernel) (by decide +kernel)
theorem g739 : Cond.selects "PledgeHouse" yX3_fall yX3_fall ∈ Gw := Gw_of 739 (by decide +kernel) (by decide +kernel)
theorem g740 : Cond.code yX3_fall prog_1_method_4_code 2 (Option.some Jvm.ClassFile.FieldType.int) ∈ Gw := Gw_of 740 (by decide +kernel) (by decide +kernel)
theorem g741 : Cond.methodLink "PledgeHouse" 66 yX0_dropPrices ∈ Gw := Gw_of 741 (by decide +kernel) (by decide +kernel)
theorem g742 : Cond.instanceMethod yX0_dropPrices ∈ Gw := Gw_of 742 (by decide +kernel) (by decide +kernel)
theorem g743 : Cond.selects "PledgeHouse$Ledger" yX0_dropPrices yX0_dropPrices ∈ Gw := Gw_of 743 (by decide +kernel) (by decide +kernel)
theorem g744 : Cond.code yX0_dropPrices prog_2_method_25_code 3 (Option.some Jvm.ClassFile.FieldType.int) ∈ Gw := Gw_of 744 (by decide +kernel) (by decide +kernel)
theorem g745 : Cond.methodLink "PledgeHouseLaw" 164 yL_pledge ∈ Gw := Gw_of 745 (by decide +kernel) (by decide +kernel)
theorem g746 : Cond.static yL_pledge ∈ Gw := Gw_of 746 (by decide +kernel) (by decide +kernel)
theorem g747 : Cond.codeWith yL_pledge method_6_code 6 (Option.some Jvm.ClassFile.FieldType.int) [(0, 12, 15, 13), (0, 12, 19, 15), (0, 12, 23, 28)] ∈ Gw := Gw_of 747 (by decide +kernel) (by decide +kernel)
theorem g748 : Cond.classLink "PledgeHouseLaw" 28 "java/lang/IllegalStateException" ∈ Gw := Gw_of 748 (by decide +kernel) (by decide +kernel)
theorem g749 : Cond.methodLink "PledgeHouseLaw" 24 yX3_pledge ∈ Gw := Gw_of 749 (by decide +kernel) (by decide +kernel)
theorem g750 : Cond.instanceMethod yX3_pledge ∈ Gw := Gw_of 750 (by decide +kernel) (by decide +kernel)
theorem g751 : Cond.selects "PledgeHouse" yX3_pledge yX3_pledge ∈ Gw := Gw_of 751 (by decide +kernel) (by decide +kernel)
theorem g752 : Cond.code yX3_pledge prog_1_method_5_code 4 (Option.some Jvm.ClassFile.FieldType.int) ∈ Gw := Gw_of 752 (by decide +kernel) (by decide +kernel)
theorem g753 : Cond.methodLink "PledgeHouse" 70 yX3_needClient ∈ Gw := Gw_of 753 (by decide +kernel) (by decide +kernel)
theorem g754 : Cond.static yX3_needClient ∈ Gw := Gw_of 754 (by decide +kernel) (by decide +kernel)
theorem g755 : Cond.code yX3_needClient prog_1_method_77_code 1 (Option.none : Option Jvm.ClassFile.FieldType) ∈ Gw := Gw_of 755 (by decide +kernel) (by decide +kernel)
theorem g756 : Cond.methodLink "PledgeHouse" 77 yX0_addPieces ∈ Gw := Gw_of 756 (by decide +kernel) (by decide +kernel)
theorem g757 : Cond.instanceMethod yX0_addPieces ∈ Gw := Gw_of 757 (by decide +kernel) (by decide +kernel)
theorem g758 : Cond.selects "PledgeHouse$Ledger" yX0_addPieces yX0_addPieces ∈ Gw := Gw_of 758 (by decide +kernel) (by decide +kernel)
theorem g759 : Cond.code yX0_addPieces prog_2_method_26_code 5 (Option.some Jvm.ClassFile.FieldType.boolean) ∈ Gw := Gw_of 759 (by decide +kernel) (by decide +kernel)
theorem g760 : Cond.methodLink "PledgeHouse" 81 yX3_need ∈ Gw := Gw_of 760 (by decide +kernel) (by decide +kernel)
theorem g761 : Cond.static yX3_need ∈ Gw := Gw_of 761 (by decide +kernel) (by decide +kernel)
theorem g762 : Cond.code yX3_need prog_1_method_80_code 1 (Option.none : Option Jvm.ClassFile.FieldType) ∈ Gw := Gw_of 762 (by decide +kernel) (by decide +kernel)
theorem g763 : Cond.classLink "PledgeHouse" 140 "java/lang/IllegalStateException" ∈ Gw := Gw_of 763 (by decide +kernel) (by decide +kernel)
theorem g764 : Cond.instantiable "java/lang/IllegalStateException" 6 ∈ Gw := Gw_of 764 (by decide +kernel) (by decide +kernel)
theorem g766 : Cond.selects "java/lang/IllegalStateException" ⟨"java/lang/Throwable", "fillInStackTrace", "(I)Ljava/lang/Throwable;"⟩ ⟨"java/lang/Throwable", "fillInStackTrace", "(I)Ljava/lang/Throwable;"⟩ ∈ Gw := Gw_of 766 (by decide +kernel) (by decide +kernel)
theorem g772 : Cond.methodLink "PledgeHouse" 142 ⟨"java/lang/IllegalStateException", "<init>", "()V"⟩ ∈ Gw := Gw_of 772 (by decide +kernel) (by decide +kernel)
theorem g773 : Cond.instanceMethod ⟨"java/lang/IllegalStateException", "<init>", "()V"⟩ ∈ Gw := Gw_of 773 (by decide +kernel) (by decide +kernel)
theorem g774 : Cond.code ⟨"java/lang/IllegalStateException", "<init>", "()V"⟩ prog_9_method_1_code 1 (Option.none : Option Jvm.ClassFile.FieldType) ∈ Gw := Gw_of 774 (by decide +kernel) (by decide +kernel)
theorem g775 : Cond.methodLink "java/lang/IllegalStateException" 1 ⟨"java/lang/RuntimeException", "<init>", "()V"⟩ ∈ Gw := Gw_of 775 (by decide +kernel) (by decide +kernel)
theorem g778 : Cond.methodLink "PledgeHouseLaw" 168 yL_release ∈ Gw := Gw_of 778 (by decide +kernel) (by decide +kernel)
theorem g779 : Cond.static yL_release ∈ Gw := Gw_of 779 (by decide +kernel) (by decide +kernel)
theorem g780 : Cond.codeWith yL_release method_7_code 6 (Option.some Jvm.ClassFile.FieldType.int) [(0, 12, 15, 13), (0, 12, 19, 15), (0, 12, 23, 28)] ∈ Gw := Gw_of 780 (by decide +kernel) (by decide +kernel)
theorem g781 : Cond.methodLink "PledgeHouseLaw" 30 yX3_release ∈ Gw := Gw_of 781 (by decide +kernel) (by decide +kernel)
theorem g782 : Cond.instanceMethod yX3_release ∈ Gw := Gw_of 782 (by decide +kernel) (by decide +kernel)
theorem g783 : Cond.selects "PledgeHouse" yX3_release yX3_release ∈ Gw := Gw_of 783 (by decide +kernel) (by decide +kernel)
theorem g784 : Cond.code yX3_release prog_1_method_6_code 4 (Option.some Jvm.ClassFile.FieldType.int) ∈ Gw := Gw_of 784 (by decide +kernel) (by decide +kernel)
theorem g785 : Cond.methodLink "PledgeHouse" 94 yX0_takePieces ∈ Gw := Gw_of 785 (by decide +kernel) (by decide +kernel)
theorem g786 : Cond.instanceMethod yX0_takePieces ∈ Gw := Gw_of 786 (by decide +kernel) (by decide +kernel)
theorem g787 : Cond.selects "PledgeHouse$Ledger" yX0_takePieces yX0_takePieces ∈ Gw := Gw_of 787 (by decide +kernel) (by decide +kernel)
theorem g788 : Cond.code yX0_takePieces prog_2_method_27_code 5 (Option.some Jvm.ClassFile.FieldType.boolean) ∈ Gw := Gw_of 788 (by decide +kernel) (by decide +kernel)
theorem g789 : Cond.methodLink "PledgeHouseLaw" 171 yL_deposit ∈ Gw := Gw_of 789 (by decide +kernel) (by decide +kernel)
theorem g790 : Cond.static yL_deposit ∈ Gw := Gw_of 790 (by decide +kernel) (by decide +kernel)
theorem g791 : Cond.codeWith yL_deposit method_8_code 5 (Option.some Jvm.ClassFile.FieldType.int) [(0, 10, 13, 13), (0, 10, 17, 15), (0, 10, 21, 28)] ∈ Gw := Gw_of 791 (by decide +kernel) (by decide +kernel)
theorem g792 : Cond.methodLink "PledgeHouseLaw" 33 yX3_deposit ∈ Gw := Gw_of 792 (by decide +kernel) (by decide +kernel)
theorem g793 : Cond.instanceMethod yX3_deposit ∈ Gw := Gw_of 793 (by decide +kernel) (by decide +kernel)
theorem g794 : Cond.selects "PledgeHouse" yX3_deposit yX3_deposit ∈ Gw := Gw_of 794 (by decide +kernel) (by decide +kernel)
theorem g795 : Cond.code yX3_deposit prog_1_method_7_code 3 (Option.some Jvm.ClassFile.FieldType.int) ∈ Gw := Gw_of 795 (by decide +kernel) (by decide +kernel)
theorem g796 : Cond.methodLink "PledgeHouse" 97 yX0_addCoins ∈ Gw := Gw_of 796 (by decide +kernel) (by decide +kernel)
theorem g797 : Cond.instanceMethod yX0_addCoins ∈ Gw := Gw_of 797 (by decide +kernel) (by decide +kernel)
theorem g798 : Cond.selects "PledgeHouse$Ledger" yX0_addCoins yX0_addCoins ∈ Gw := Gw_of 798 (by decide +kernel) (by decide +kernel)
theorem g799 : Cond.code yX0_addCoins prog_2_method_28_code 3 (Option.some Jvm.ClassFile.FieldType.boolean) ∈ Gw := Gw_of 799 (by decide +kernel) (by decide +kernel)
theorem g800 : Cond.constant "PledgeHouse$Ledger" 120 (99999 : Int32) ∈ Gw := Gw_of 800 (by decide +kernel) (by decide +kernel)
theorem g801 : Cond.methodLink "PledgeHouseLaw" 174 yL_withdraw ∈ Gw := Gw_of 801 (by decide +kernel) (by decide +kernel)
theorem g802 : Cond.static yL_withdraw ∈ Gw := Gw_of 802 (by decide +kernel) (by decide +kernel)
theorem g803 : Cond.codeWith yL_withdraw method_9_code 5 (Option.some Jvm.ClassFile.FieldType.int) [(0, 10, 13, 13), (0, 10, 17, 15), (0, 10, 21, 28)] ∈ Gw := Gw_of 803 (by decide +kernel) (by decide +kernel)
theorem g804 : Cond.methodLink "PledgeHouseLaw" 36 yX3_withdraw ∈ Gw := Gw_of 804 (by decide +kernel) (by decide +kernel)
theorem g805 : Cond.instanceMethod yX3_withdraw ∈ Gw := Gw_of 805 (by decide +kernel) (by decide +kernel)
theorem g806 : Cond.selects "PledgeHouse" yX3_withdraw yX3_withdraw ∈ Gw := Gw_of 806 (by decide +kernel) (by decide +kernel)
theorem g807 : Cond.code yX3_withdraw prog_1_method_8_code 3 (Option.some Jvm.ClassFile.FieldType.int) ∈ Gw := Gw_of 807 (by decide +kernel) (by decide +kernel)
theorem g808 : Cond.methodLink "PledgeHouse" 104 yX0_takeCoins ∈ Gw := Gw_of 808 (by decide +kernel) (by decide +kernel)
theorem g809 : Cond.instanceMethod yX0_takeCoins ∈ Gw := Gw_of 809 (by decide +kernel) (by decide +kernel)
theorem g810 : Cond.selects "PledgeHouse$Ledger" yX0_takeCoins yX0_takeCoins ∈ Gw := Gw_of 810 (by decide +kernel) (by decide +kernel)
theorem g811 : Cond.code yX0_takeCoins prog_2_method_29_code 3 (Option.some Jvm.ClassFile.FieldType.boolean) ∈ Gw := Gw_of 811 (by decide +kernel) (by decide +kernel)
theorem g812 : Cond.methodLink "PledgeHouseLaw" 177 yL_lend ∈ Gw := Gw_of 812 (by decide +kernel) (by decide +kernel)
theorem g813 : Cond.static yL_lend ∈ Gw := Gw_of 813 (by decide +kernel) (by decide +kernel)
theorem g814 : Cond.codeWith yL_lend method_10_code 5 (Option.some Jvm.ClassFile.FieldType.int) [(0, 10, 13, 13), (0, 10, 17, 15), (0, 10, 21, 28)] ∈ Gw := Gw_of 814 (by decide +kernel) (by decide +kernel)
theorem g815 : Cond.methodLink "PledgeHouseLaw" 39 yX3_lend ∈ Gw := Gw_of 815 (by decide +kernel) (by decide +kernel)
theorem g816 : Cond.instanceMethod yX3_lend ∈ Gw := Gw_of 816 (by decide +kernel) (by decide +kernel)
theorem g817 : Cond.selects "PledgeHouse" yX3_lend yX3_lend ∈ Gw := Gw_of 817 (by decide +kernel) (by decide +kernel)
theorem g818 : Cond.code yX3_lend prog_1_method_9_code 3 (Option.some Jvm.ClassFile.FieldType.int) ∈ Gw := Gw_of 818 (by decide +kernel) (by decide +kernel)
theorem g819 : Cond.methodLink "PledgeHouse" 107 yX0_addDebt ∈ Gw := Gw_of 819 (by decide +kernel) (by decide +kernel)
theorem g820 : Cond.instanceMethod yX0_addDebt ∈ Gw := Gw_of 820 (by decide +kernel) (by decide +kernel)
theorem g821 : Cond.selects "PledgeHouse$Ledger" yX0_addDebt yX0_addDebt ∈ Gw := Gw_of 821 (by decide +kernel) (by decide +kernel)
theorem g822 : Cond.code yX0_addDebt prog_2_method_30_code 3 (Option.some Jvm.ClassFile.FieldType.boolean) ∈ Gw := Gw_of 822 (by decide +kernel) (by decide +kernel)
theorem g823 : Cond.methodLink "PledgeHouseLaw" 180 yL_payBack ∈ Gw := Gw_of 823 (by decide +kernel) (by decide +kernel)
theorem g824 : Cond.static yL_payBack ∈ Gw := Gw_of 824 (by decide +kernel) (by decide +kernel)
theorem g825 : Cond.codeWith yL_payBack method_11_code 5 (Option.some Jvm.ClassFile.FieldType.int) [(0, 10, 13, 13), (0, 10, 17, 15), (0, 10, 21, 28)] ∈ Gw := Gw_of 825 (by decide +kernel) (by decide +kernel)
theorem g826 : Cond.methodLink "PledgeHouseLaw" 42 yX3_payBack ∈ Gw := Gw_of 826 (by decide +kernel) (by decide +kernel)
theorem g827 : Cond.instanceMethod yX3_payBack ∈ Gw := Gw_of 827 (by decide +kernel) (by decide +kernel)
theorem g828 : Cond.selects "PledgeHouse" yX3_payBack yX3_payBack ∈ Gw := Gw_of 828 (by decide +kernel) (by decide +kernel)
theorem g829 : Cond.code yX3_payBack prog_1_method_10_code 4 (Option.some Jvm.ClassFile.FieldType.int) ∈ Gw := Gw_of 829 (by decide +kernel) (by decide +kernel)
theorem g830 : Cond.methodLink "PledgeHouse" 113 yX0_takeDebt ∈ Gw := Gw_of 830 (by decide +kernel) (by decide +kernel)
theorem g831 : Cond.instanceMethod yX0_takeDebt ∈ Gw := Gw_of 831 (by decide +kernel) (by decide +kernel)
theorem g832 : Cond.selects "PledgeHouse$Ledger" yX0_takeDebt yX0_takeDebt ∈ Gw := Gw_of 832 (by decide +kernel) (by decide +kernel)
theorem g833 : Cond.code yX0_takeDebt prog_2_method_31_code 4 (Option.some Jvm.ClassFile.FieldType.int) ∈ Gw := Gw_of 833 (by decide +kernel) (by decide +kernel)
theorem g834 : Cond.methodLink "PledgeHouseLaw" 183 yL_readmit ∈ Gw := Gw_of 834 (by decide +kernel) (by decide +kernel)
theorem g835 : Cond.static yL_readmit ∈ Gw := Gw_of 835 (by decide +kernel) (by decide +kernel)
theorem g836 : Cond.codeWith yL_readmit method_12_code 3 (Option.some Jvm.ClassFile.FieldType.int) [(0, 5, 8, 13), (0, 5, 11, 28)] ∈ Gw := Gw_of 836 (by decide +kernel) (by decide +kernel)
theorem g837 : Cond.methodLink "PledgeHouseLaw" 45 yX3_readmit ∈ Gw := Gw_of 837 (by decide +kernel) (by decide +kernel)
theorem g838 : Cond.instanceMethod yX3_readmit ∈ Gw := Gw_of 838 (by decide +kernel) (by decide +kernel)
theorem g839 : Cond.selects "PledgeHouse" yX3_readmit yX3_readmit ∈ Gw := Gw_of 839 (by decide +kernel) (by decide +kernel)
theorem g840 : Cond.code yX3_readmit prog_1_method_11_code 2 (Option.none : Option Jvm.ClassFile.FieldType) ∈ Gw := Gw_of 840 (by decide +kernel) (by decide +kernel)
theorem g841 : Cond.methodLink "PledgeHouse" 116 yX0_liftBar ∈ Gw := Gw_of 841 (by decide +kernel) (by decide +kernel)
theorem g842 : Cond.instanceMethod yX0_liftBar ∈ Gw := Gw_of 842 (by decide +kernel) (by decide +kernel)
theorem g843 : Cond.selects "PledgeHouse$Ledger" yX0_liftBar yX0_liftBar ∈ Gw := Gw_of 843 (by decide +kernel) (by decide +kernel)
theorem g844 : Cond.code yX0_liftBar prog_2_method_32_code 2 (Option.some Jvm.ClassFile.FieldType.boolean) ∈ Gw := Gw_of 844 (by decide +kernel) (by decide +kernel)
theorem g845 : Cond.methodLink "PledgeHouseLaw" 187 yL_pass ∈ Gw := Gw_of 845 (by decide +kernel) (by decide +kernel)
theorem g846 : Cond.static yL_pass ∈ Gw := Gw_of 846 (by decide +kernel) (by decide +kernel)
theorem g847 : Cond.codeWith yL_pass method_13_code 4 (Option.some Jvm.ClassFile.FieldType.int) [(0, 9, 12, 15)] ∈ Gw := Gw_of 847 (by decide +kernel) (by decide +kernel)
theorem g848 : Cond.methodLink "PledgeHouseLaw" 49 yX3_pass ∈ Gw := Gw_of 848 (by decide +kernel) (by decide +kernel)
theorem g849 : Cond.instanceMethod yX3_pass ∈ Gw := Gw_of 849 (by decide +kernel) (by decide +kernel)
theorem g850 : Cond.selects "PledgeHouse" yX3_pass yX3_pass ∈ Gw := Gw_of 850 (by decide +kernel) (by decide +kernel)
theorem g851 : Cond.code yX3_pass prog_1_method_12_code 2 (Option.some Jvm.ClassFile.FieldType.int) ∈ Gw := Gw_of 851 (by decide +kernel) (by decide +kernel)
theorem g852 : Cond.methodLink "PledgeHouse" 120 yX0_passHours ∈ Gw := Gw_of 852 (by decide +kernel) (by decide +kernel)
theorem g853 : Cond.instanceMethod yX0_passHours ∈ Gw := Gw_of 853 (by decide +kernel) (by decide +kernel)
theorem g854 : Cond.selects "PledgeHouse$Ledger" yX0_passHours yX0_passHours ∈ Gw := Gw_of 854 (by decide +kernel) (by decide +kernel)
theorem g855 : Cond.code yX0_passHours prog_2_method_33_code 6 (Option.some Jvm.ClassFile.FieldType.int) ∈ Gw := Gw_of 855 (by decide +kernel) (by decide +kernel)
theorem g856 : Cond.methodLink "PledgeHouse$Ledger" 121 yX0_calledAsBits ∈ Gw := Gw_of 856 (by decide +kernel) (by decide +kernel)
theorem g857 : Cond.instanceMethod yX0_calledAsBits ∈ Gw := Gw_of 857 (by decide +kernel) (by decide +kernel)
theorem g858 : Cond.selects "PledgeHouse$Ledger" yX0_calledAsBits yX0_calledAsBits ∈ Gw := Gw_of 858 (by decide +kernel) (by decide +kernel)
theorem g859 : Cond.code yX0_calledAsBits prog_2_method_34_code 3 (Option.some Jvm.ClassFile.FieldType.int) ∈ Gw := Gw_of 859 (by decide +kernel) (by decide +kernel)
theorem g860 : Cond.methodLink "PledgeHouse$Ledger" 124 yX0_addInterest ∈ Gw := Gw_of 860 (by decide +kernel) (by decide +kernel)
theorem g861 : Cond.instanceMethod yX0_addInterest ∈ Gw := Gw_of 861 (by decide +kernel) (by decide +kernel)
theorem g862 : Cond.selects "PledgeHouse$Ledger" yX0_addInterest yX0_addInterest ∈ Gw := Gw_of 862 (by decide +kernel) (by decide +kernel)
theorem g863 : Cond.code yX0_addInterest prog_2_method_35_code 3 (Option.none : Option Jvm.ClassFile.FieldType) ∈ Gw := Gw_of 863 (by decide +kernel) (by decide +kernel)
theorem g864 : Cond.methodLink "PledgeHouse$Ledger" 106 yX0_interestOn ∈ Gw := Gw_of 864 (by decide +kernel) (by decide +kernel)
theorem g865 : Cond.instanceMethod yX0_interestOn ∈ Gw := Gw_of 865 (by decide +kernel) (by decide +kernel)
theorem g866 : Cond.selects "PledgeHouse$Ledger" yX0_interestOn yX0_interestOn ∈ Gw := Gw_of 866 (by decide +kernel) (by decide +kernel)
theorem g867 : Cond.code yX0_interestOn prog_2_method_8_code 2 (Option.some Jvm.ClassFile.FieldType.int) ∈ Gw := Gw_of 867 (by decide +kernel) (by decide +kernel)
theorem g868 : Cond.constantLong "PledgeHouse$Ledger" 98 (9999 : Int64) ∈ Gw := Gw_of 868 (by decide +kernel) (by decide +kernel)
theorem g869 : Cond.constantLong "PledgeHouse$Ledger" 100 (10000 : Int64) ∈ Gw := Gw_of 869 (by decide +kernel) (by decide +kernel)
theorem g870 : Cond.methodLink "PledgeHouse$Ledger" 127 yX0_countDown ∈ Gw := Gw_of 870 (by decide +kernel) (by decide +kernel)
theorem g871 : Cond.instanceMethod yX0_countDown ∈ Gw := Gw_of 871 (by decide +kernel) (by decide +kernel)
theorem g872 : Cond.selects "PledgeHouse$Ledger" yX0_countDown yX0_countDown ∈ Gw := Gw_of 872 (by decide +kernel) (by decide +kernel)
theorem g873 : Cond.code yX0_countDown prog_2_method_36_code 5 (Option.none : Option Jvm.ClassFile.FieldType) ∈ Gw := Gw_of 873 (by decide +kernel) (by decide +kernel)
theorem g874 : Cond.methodLink "PledgeHouse$Ledger" 131 yX2_reckon ∈ Gw := Gw_of 874 (by decide +kernel) (by decide +kernel)
theorem g875 : Cond.methodLink "PledgeHouse$Ledger" 137 yX0_enterSale ∈ Gw := Gw_of 875 (by decide +kernel) (by decide +kernel)
theorem g876 : Cond.instanceMethod yX0_enterSale ∈ Gw := Gw_of 876 (by decide +kernel) (by decide +kernel)
theorem g877 : Cond.selects "PledgeHouse$Ledger" yX0_enterSale yX0_enterSale ∈ Gw := Gw_of 877 (by decide +kernel) (by decide +kernel)
theorem g878 : Cond.code yX0_enterSale prog_2_method_37_code 5 (Option.none : Option Jvm.ClassFile.FieldType) ∈ Gw := Gw_of 878 (by decide +kernel) (by decide +kernel)
theorem g879 : Cond.methodLink "PledgeHouseLaw" 190 yL_changeRate ∈ Gw := Gw_of 879 (by decide +kernel) (by decide +kernel)
theorem g880 : Cond.static yL_changeRate ∈ Gw := Gw_of 880 (by decide +kernel) (by decide +kernel)
theorem g881 : Cond.codeWith yL_changeRate method_14_code 4 (Option.some Jvm.ClassFile.FieldType.int) [(0, 9, 12, 15)] ∈ Gw := Gw_of 881 (by decide +kernel) (by decide +kernel)
theorem g882 : Cond.methodLink "PledgeHouseLaw" 52 yX3_changeRate ∈ Gw := Gw_of 882 (by decide +kernel) (by decide +kernel)
theorem g883 : Cond.instanceMethod yX3_changeRate ∈ Gw := Gw_of 883 (by decide +kernel) (by decide +kernel)
theorem g884 : Cond.selects "PledgeHouse" yX3_changeRate yX3_changeRate ∈ Gw := Gw_of 884 (by decide +kernel) (by decide +kernel)
theorem g885 : Cond.code yX3_changeRate prog_1_method_13_code 3 (Option.some Jvm.ClassFile.FieldType.int) ∈ Gw := Gw_of 885 (by decide +kernel) (by decide +kernel)
theorem g886 : Cond.methodLink "PledgeHouseLaw" 193 yL_changeGrace ∈ Gw := Gw_of 886 (by decide +kernel) (by decide +kernel)
theorem g887 : Cond.static yL_changeGrace ∈ Gw := Gw_of 887 (by decide +kernel) (by decide +kernel)
theorem g888 : Cond.codeWith yL_changeGrace method_15_code 4 (Option.some Jvm.ClassFile.FieldType.int) [(0, 9, 12, 15)] ∈ Gw := Gw_of 888 (by decide +kernel) (by decide +kernel)
theorem g889 : Cond.methodLink "PledgeHouseLaw" 55 yX3_changeGrace ∈ Gw := Gw_of 889 (by decide +kernel) (by decide +kernel)
theorem g890 : Cond.instanceMethod yX3_changeGrace ∈ Gw := Gw_of 890 (by decide +kernel) (by decide +kernel)
theorem g891 : Cond.selects "PledgeHouse" yX3_changeGrace yX3_changeGrace ∈ Gw := Gw_of 891 (by decide +kernel) (by decide +kernel)
theorem g892 : Cond.code yX3_changeGrace prog_1_method_14_code 3 (Option.some Jvm.ClassFile.FieldType.int) ∈ Gw := Gw_of 892 (by decide +kernel) (by decide +kernel)
theorem g893 : Cond.methodLink "PledgeHouseLaw" 196 yL_changeSlip ∈ Gw := Gw_of 893 (by decide +kernel) (by decide +kernel)
theorem g894 : Cond.static yL_changeSlip ∈ Gw := Gw_of 894 (by decide +kernel) (by decide +kernel)
theorem g895 : Cond.codeWith yL_changeSlip method_16_code 4 (Option.some Jvm.ClassFile.FieldType.int) [(0, 9, 12, 15)] ∈ Gw := Gw_of 895 (by decide +kernel) (by decide +kernel)
theorem g896 : Cond.methodLink "PledgeHouseLaw" 58 yX3_changeSlip ∈ Gw := Gw_of 896 (by decide +kernel) (by decide +kernel)
theorem g897 : Cond.instanceMethod yX3_changeSlip ∈ Gw := Gw_of 897 (by decide +kernel) (by decide +kernel)
theorem g898 : Cond.selects "PledgeHouse" yX3_changeSlip yX3_changeSlip ∈ Gw := Gw_of 898 (by decide +kernel) (by decide +kernel)
theorem g899 : Cond.code yX3_changeSlip prog_1_method_15_code 3 (Option.some Jvm.ClassFile.FieldType.int) ∈ Gw := Gw_of 899 (by decide +kernel) (by decide +kernel)
theorem g900 : Cond.methodLink "PledgeHouseLaw" 203 yL_append ∈ Gw := Gw_of 900 (by decide +kernel) (by decide +kernel)
theorem g901 : Cond.static yL_append ∈ Gw := Gw_of 901 (by decide +kernel) (by decide +kernel)
theorem g902 : Cond.codeWith yL_append method_17_code 4 (Option.some Jvm.ClassFile.FieldType.int) [(0, 9, 12, 15), (0, 9, 15, 28)] ∈ Gw := Gw_of 902 (by decide +kernel) (by decide +kernel)
theorem g903 : Cond.methodLink "PledgeHouseLaw" 61 yX3_append ∈ Gw := Gw_of 903 (by decide +kernel) (by decide +kernel)
theorem g904 : Cond.instanceMethod yX3_append ∈ Gw := Gw_of 904 (by decide +kernel) (by decide +kernel)
theorem g905 : Cond.selects "PledgeHouse" yX3_append yX3_append ∈ Gw := Gw_of 905 (by decide +kernel) (by decide +kernel)
theorem g906 : Cond.code yX3_append prog_1_method_17_code 2 (Option.some Jvm.ClassFile.FieldType.int) ∈ Gw := Gw_of 906 (by decide +kernel) (by decide +kernel)
theorem g907 : Cond.methodLink "PledgeHouseLaw" 214 yL_follow ∈ Gw := Gw_of 907 (by decide +kernel) (by decide +kernel)
theorem g908 : Cond.static yL_follow ∈ Gw := Gw_of 908 (by decide +kernel) (by decide +kernel)
theorem g909 : Cond.codeWith yL_follow method_18_code 3 (Option.some Jvm.ClassFile.FieldType.int) [(0, 8, 11, 15), (0, 8, 14, 28)] ∈ Gw := Gw_of 909 (by decide +kernel) (by decide +kernel)
theorem g910 : Cond.methodLink "PledgeHouseLaw" 64 yX3_follow ∈ Gw := Gw_of 910 (by decide +kernel) (by decide +kernel)
theorem g911 : Cond.instanceMethod yX3_follow ∈ Gw := Gw_of 911 (by decide +kernel) (by decide +kernel)
theorem g912 : Cond.selects "PledgeHouse" yX3_follow yX3_follow ∈ Gw := Gw_of 912 (by decide +kernel) (by decide +kernel)
theorem g913 : Cond.code yX3_follow prog_1_method_20_code 3 (Option.some Jvm.ClassFile.FieldType.int) ∈ Gw := Gw_of 913 (by decide +kernel) (by decide +kernel)
theorem g914 : Cond.methodLink "PledgeHouse" 150 yX1_tellsOrders ∈ Gw := Gw_of 914 (by decide +kernel) (by decide +kernel)
theorem g915 : Cond.instanceMethod yX1_tellsOrders ∈ Gw := Gw_of 915 (by decide +kernel) (by decide +kernel)
theorem g916 : Cond.selects "PledgeHouse$OrderText" yX1_tellsOrders yX1_tellsOrders ∈ Gw := Gw_of 916 (by decide +kernel) (by decide +kernel)
theorem g917 : Cond.code yX1_tellsOrders prog_3_method_4_code 1 (Option.some Jvm.ClassFile.FieldType.boolean) ∈ Gw := Gw_of 917 (by decide +kernel) (by decide +kernel)
theorem g918 : Cond.methodLink "PledgeHouse$OrderText" 44 yX1_findError ∈ Gw := Gw_of 918 (by decide +kernel) (by decide +kernel)
theorem g919 : Cond.methodLink "PledgeHouse" 157 yX1_startPart ∈ Gw := Gw_of 919 (by decide +kernel) (by decide +kernel)
theorem g920 : Cond.methodLink "PledgeHouse" 160 yX1_take ∈ Gw := Gw_of 920 (by decide +kernel) (by decide +kernel)
theorem g921 : Cond.methodLink "PledgeHouse" 163 yX1_endsPart ∈ Gw := Gw_of 921 (by decide +kernel) (by decide +kernel)
theorem g922 : Cond.instanceMethod yX1_endsPart ∈ Gw := Gw_of 922 (by decide +kernel) (by decide +kernel)
theorem g923 : Cond.selects "PledgeHouse$OrderText" yX1_endsPart yX1_endsPart ∈ Gw := Gw_of 923 (by decide +kernel) (by decide +kernel)
theorem g924 : Cond.code yX1_endsPart prog_3_method_6_code 2 (Option.some Jvm.ClassFile.FieldType.boolean) ∈ Gw := Gw_of 924 (by decide +kernel) (by decide +kernel)
theorem g925 : Cond.methodLink "PledgeHouse" 166 yX3_carryOutPart ∈ Gw := Gw_of 925 (by decide +kernel) (by decide +kernel)
theorem g927 : Cond.instanceMethod yX3_carryOutPart ∈ Gw := Gw_of 927 (by decide +kernel) (by decide +kernel)
theorem g928 : Cond.code yX3_carryOutPart prog_1_method_71_code 1 (Option.some Jvm.ClassFile.FieldType.boolean) ∈ Gw := Gw_of 928 (by decide +kernel) (by decide +kernel)
theorem g929 : Cond.methodLink "PledgeHouseLaw" 218 yL_keep ∈ Gw := Gw_of 929 (by decide +kernel) (by decide +kernel)
theorem g930 : Cond.static yL_keep ∈ Gw := Gw_of 930 (by decide +kernel) (by decide +kernel)
theorem g931 : Cond.codeWith yL_keep method_19_code 3 (Option.some Jvm.ClassFile.FieldType.int) [(0, 5, 8, 15)] ∈ Gw := Gw_of 931 (by decide +kernel) (by decide +kernel)
theorem g932 : Cond.methodLink "PledgeHouseLaw" 68 yX3_keep ∈ Gw := Gw_of 932 (by decide +kernel) (by decide +kernel)
theorem g933 : Cond.instanceMethod yX3_keep ∈ Gw := Gw_of 933 (by decide +kernel) (by decide +kernel)
theorem g934 : Cond.selects "PledgeHouse" yX3_keep yX3_keep ∈ Gw := Gw_of 934 (by decide +kernel) (by decide +kernel)
theorem g935 : Cond.code yX3_keep prog_1_method_21_code 2 (Option.none : Option Jvm.ClassFile.FieldType) ∈ Gw := Gw_of 935 (by decide +kernel) (by decide +kernel)
theorem g936 : Cond.methodLink "PledgeHouseLaw" 221 yL_goBack ∈ Gw := Gw_of 936 (by decide +kernel) (by decide +kernel)
theorem g937 : Cond.static yL_goBack ∈ Gw := Gw_of 937 (by decide +kernel) (by decide +kernel)
theorem g938 : Cond.codeWith yL_goBack method_20_code 3 (Option.some Jvm.ClassFile.FieldType.int) [(0, 5, 8, 15), (0, 5, 11, 28)] ∈ Gw := Gw_of 938 (by decide +kernel) (by decide +kernel)
theorem g939 : Cond.methodLink "PledgeHouseLaw" 71 yX3_goBack ∈ Gw := Gw_of 939 (by decide +kernel) (by decide +kernel)
theorem g940 : Cond.instanceMethod yX3_goBack ∈ Gw := Gw_of 940 (by decide +kernel) (by decide +kernel)
theorem g941 : Cond.selects "PledgeHouse" yX3_goBack yX3_goBack ∈ Gw := Gw_of 941 (by decide +kernel) (by decide +kernel)
theorem g942 : Cond.code yX3_goBack prog_1_method_22_code 2 (Option.none : Option Jvm.ClassFile.FieldType) ∈ Gw := Gw_of 942 (by decide +kernel) (by decide +kernel)
theorem g943 : Cond.methodLink "PledgeHouseLaw" 224 yL_undo ∈ Gw := Gw_of 943 (by decide +kernel) (by decide +kernel)
theorem g944 : Cond.static yL_undo ∈ Gw := Gw_of 944 (by decide +kernel) (by decide +kernel)
theorem g945 : Cond.codeWith yL_undo method_21_code 2 (Option.some Jvm.ClassFile.FieldType.int) [(0, 4, 7, 28)] ∈ Gw := Gw_of 945 (by decide +kernel) (by decide +kernel)
theorem g946 : Cond.methodLink "PledgeHouseLaw" 74 yX3_undo ∈ Gw := Gw_of 946 (by decide +kernel) (by decide +kernel)
theorem g947 : Cond.instanceMethod yX3_undo ∈ Gw := Gw_of 947 (by decide +kernel) (by decide +kernel)
theorem g948 : Cond.selects "PledgeHouse" yX3_undo yX3_undo ∈ Gw := Gw_of 948 (by decide +kernel) (by decide +kernel)
theorem g949 : Cond.code yX3_undo prog_1_method_23_code 1 (Option.none : Option Jvm.ClassFile.FieldType) ∈ Gw := Gw_of 949 (by decide +kernel) (by decide +kernel)
theorem g950 : Cond.methodLink "PledgeHouseLaw" 232 yL_priceOf ∈ Gw := Gw_of 950 (by decide +kernel) (by decide +kernel)
theorem g951 : Cond.static yL_priceOf ∈ Gw := Gw_of 951 (by decide +kernel) (by decide +kernel)
theorem g952 : Cond.codeWith yL_priceOf method_22_code 4 (Option.some Jvm.ClassFile.FieldType.int) [(0, 9, 12, 13)] ∈ Gw := Gw_of 952 (by decide +kernel) (by decide +kernel)
theorem g953 : Cond.methodLink "PledgeHouseLaw" 77 yX3_priceOf ∈ Gw := Gw_of 953 (by decide +kernel) (by decide +kernel)
theorem g954 : Cond.instanceMethod yX3_priceOf ∈ Gw := Gw_of 954 (by decide +kernel) (by decide +kernel)
theorem g955 : Cond.selects "PledgeHouse" yX3_priceOf yX3_priceOf ∈ Gw := Gw_of 955 (by decide +kernel) (by decide +kernel)
theorem g956 : Cond.code yX3_priceOf prog_1_method_25_code 2 (Option.some Jvm.ClassFile.FieldType.int) ∈ Gw := Gw_of 956 (by decide +kernel) (by decide +kernel)
theorem g957 : Cond.methodLink "PledgeHouseLaw" 235 yL_cutOf ∈ Gw := Gw_of 957 (by decide +kernel) (by decide +kernel)
theorem g958 : Cond.static yL_cutOf ∈ Gw := Gw_of 958 (by decide +kernel) (by decide +kernel)
theorem g959 : Cond.codeWith yL_cutOf method_23_code 4 (Option.some Jvm.ClassFile.FieldType.int) [(0, 9, 12, 13)] ∈ Gw := Gw_of 959 (by decide +kernel) (by decide +kernel)
theorem g960 : Cond.methodLink "PledgeHouseLaw" 80 yX3_cutOf ∈ Gw := Gw_of 960 (by decide +kernel) (by decide +kernel)
theorem g961 : Cond.instanceMethod yX3_cutOf ∈ Gw := Gw_of 961 (by decide +kernel) (by decide +kernel)
theorem g962 : Cond.selects "PledgeHouse" yX3_cutOf yX3_cutOf ∈ Gw := Gw_of 962 (by decide +kernel) (by decide +kernel)
theorem g963 : Cond.code yX3_cutOf prog_1_method_26_code 2 (Option.some Jvm.ClassFile.FieldType.int) ∈ Gw := Gw_of 963 (by decide +kernel) (by decide +kernel)
theorem g964 : Cond.methodLink "PledgeHouseLaw" 238 yL_pledgedOf ∈ Gw := Gw_of 964 (by decide +kernel) (by decide +kernel)
theorem g965 : Cond.static yL_pledgedOf ∈ Gw := Gw_of 965 (by decide +kernel) (by decide +kernel)
theorem g966 : Cond.codeWith yL_pledgedOf method_24_code 4 (Option.some Jvm.ClassFile.FieldType.int) [(0, 9, 12, 13)] ∈ Gw := Gw_of 966 (by decide +kernel) (by decide +kernel)
theorem g967 : Cond.methodLink "PledgeHouseLaw" 83 yX3_pledgedOf ∈ Gw := Gw_of 967 (by decide +kernel) (by decide +kernel)
theorem g968 : Cond.instanceMethod yX3_pledgedOf ∈ Gw := Gw_of 968 (by decide +kernel) (by decide +kernel)
theorem g969 : Cond.selects "PledgeHouse" yX3_pledgedOf yX3_pledgedOf ∈ Gw := Gw_of 969 (by decide +kernel) (by decide +kernel)
theorem g970 : Cond.code yX3_pledgedOf prog_1_method_27_code 2 (Option.some Jvm.ClassFile.FieldType.int) ∈ Gw := Gw_of 970 (by decide +kernel) (by decide +kernel)
theorem g971 : Cond.methodLink "PledgeHouseLaw" 241 yL_soldOf ∈ Gw := Gw_of 971 (by decide +kernel) (by decide +kernel)
theorem g972 : Cond.static yL_soldOf ∈ Gw := Gw_of 972 (by decide +kernel) (by decide +kernel)
theorem g973 : Cond.codeWith yL_soldOf method_25_code 4 (Option.some Jvm.ClassFile.FieldType.int) [(0, 9, 12, 13)] ∈ Gw := Gw_of 973 (by decide +kernel) (by decide +kernel)
theorem g974 : Cond.methodLink "PledgeHouseLaw" 86 yX3_soldOf ∈ Gw := Gw_of 974 (by decide +kernel) (by decide +kernel)
theorem g975 : Cond.instanceMethod yX3_soldOf ∈ Gw := Gw_of 975 (by decide +kernel) (by decide +kernel)
theorem g976 : Cond.selects "PledgeHouse" yX3_soldOf yX3_soldOf ∈ Gw := Gw_of 976 (by decide +kernel) (by decide +kernel)
theorem g977 : Cond.code yX3_soldOf prog_1_method_28_code 2 (Option.some Jvm.ClassFile.FieldType.int) ∈ Gw := Gw_of 977 (by decide +kernel) (by decide +kernel)
theorem g978 : Cond.methodLink "PledgeHouseLaw" 244 yL_piecesOf ∈ Gw := Gw_of 978 (by decide +kernel) (by decide +kernel)
theorem g979 : Cond.static yL_piecesOf ∈ Gw := Gw_of 979 (by decide +kernel) (by decide +kernel)
theorem g980 : Cond.codeWith yL_piecesOf method_26_code 5 (Option.some Jvm.ClassFile.FieldType.int) [(0, 10, 13, 13)] ∈ Gw := Gw_of 980 (by decide +kernel) (by decide +kernel)
theorem g981 : Cond.methodLink "PledgeHouseLaw" 89 yX3_piecesOf ∈ Gw := Gw_of 981 (by decide +kernel) (by decide +kernel)
theorem g982 : Cond.instanceMethod yX3_piecesOf ∈ Gw := Gw_of 982 (by decide +kernel) (by decide +kernel)
theorem g983 : Cond.selects "PledgeHouse" yX3_piecesOf yX3_piecesOf ∈ Gw := Gw_of 983 (by decide +kernel) (by decide +kernel)
theorem g984 : Cond.code yX3_piecesOf prog_1_method_29_code 3 (Option.some Jvm.ClassFile.FieldType.int) ∈ Gw := Gw_of 984 (by decide +kernel) (by decide +kernel)
theorem g985 : Cond.methodLink "PledgeHouseLaw" 247 yL_coinsOf ∈ Gw := Gw_of 985 (by decide +kernel) (by decide +kernel)
theorem g986 : Cond.static yL_coinsOf ∈ Gw := Gw_of 986 (by decide +kernel) (by decide +kernel)
theorem g987 : Cond.codeWith yL_coinsOf method_27_code 4 (Option.some Jvm.ClassFile.FieldType.int) [(0, 9, 12, 13)] ∈ Gw := Gw_of 987 (by decide +kernel) (by decide +kernel)
theorem g988 : Cond.methodLink "PledgeHouseLaw" 92 yX3_coinsOf ∈ Gw := Gw_of 988 (by decide +kernel) (by decide +kernel)
theorem g989 : Cond.instanceMethod yX3_coinsOf ∈ Gw := Gw_of 989 (by decide +kernel) (by decide +kernel)
theorem g990 : Cond.selects "PledgeHouse" yX3_coinsOf yX3_coinsOf ∈ Gw := Gw_of 990 (by decide +kernel) (by decide +kernel)
theorem g991 : Cond.code yX3_coinsOf prog_1_method_30_code 2 (Option.some Jvm.ClassFile.FieldType.int) ∈ Gw := Gw_of 991 (by decide +kernel) (by decide +kernel)
theorem g992 : Cond.methodLink "PledgeHouseLaw" 250 yL_debtOf ∈ Gw := Gw_of 992 (by decide +kernel) (by decide +kernel)
theorem g993 : Cond.static yL_debtOf ∈ Gw := Gw_of 993 (by decide +kernel) (by decide +kernel)
theorem g994 : Cond.codeWith yL_debtOf method_28_code 4 (Option.some Jvm.ClassFile.FieldType.int) [(0, 9, 12, 13)] ∈ Gw := Gw_of 994 (by decide +kernel) (by decide +kernel)
theorem g995 : Cond.methodLink "PledgeHouseLaw" 95 yX3_debtOf ∈ Gw := Gw_of 995 (by decide +kernel) (by decide +kernel)
theorem g996 : Cond.instanceMethod yX3_debtOf ∈ Gw := Gw_of 996 (by decide +kernel) (by decide +kernel)
theorem g997 : Cond.selects "PledgeHouse" yX3_debtOf yX3_debtOf ∈ Gw := Gw_of 997 (by decide +kernel) (by decide +kernel)
theorem g998 : Cond.code yX3_debtOf prog_1_method_31_code 2 (Option.some Jvm.ClassFile.FieldType.int) ∈ Gw := Gw_of 998 (by decide +kernel) (by decide +kernel)
theorem g999 : Cond.methodLink "PledgeHouseLaw" 253 yL_worthOf ∈ Gw := Gw_of 999 (by decide +kernel) (by decide +kernel)
theorem g1000 : Cond.static yL_worthOf ∈ Gw := Gw_of 1000 (by decide +kernel) (by decide +kernel)
theorem g1001 : Cond.codeWith yL_worthOf method_29_code 4 (Option.some Jvm.ClassFile.FieldType.int) [(0, 9, 12, 13)] ∈ Gw := Gw_of 1001 (by decide +kernel) (by decide +kernel)
theorem g1002 : Cond.methodLink "PledgeHouseLaw" 98 yX3_worthOf ∈ Gw := Gw_of 1002 (by decide +kernel) (by decide +kernel)
theorem g1003 : Cond.instanceMethod yX3_worthOf ∈ Gw := Gw_of 1003 (by decide +kernel) (by decide +kernel)
theorem g1004 : Cond.selects "PledgeHouse" yX3_worthOf yX3_worthOf ∈ Gw := Gw_of 1004 (by decide +kernel) (by decide +kernel)
theorem g1005 : Cond.code yX3_worthOf prog_1_method_32_code 2 (Option.some Jvm.ClassFile.FieldType.int) ∈ Gw := Gw_of 1005 (by decide +kernel) (by decide +kernel)
theorem g1006 : Cond.methodLink "PledgeHouseLaw" 256 yL_coverOf ∈ Gw := Gw_of 1006 (by decide +kernel) (by decide +kernel)
theorem g1007 : Cond.static yL_coverOf ∈ Gw := Gw_of 1007 (by decide +kernel) (by decide +kernel)
theorem g1008 : Cond.codeWith yL_coverOf method_30_code 4 (Option.some Jvm.ClassFile.FieldType.int) [(0, 9, 12, 13)] ∈ Gw := Gw_of 1008 (by decide +kernel) (by decide +kernel)
theorem g1009 : Cond.methodLink "PledgeHouseLaw" 101 yX3_coverOf ∈ Gw := Gw_of 1009 (by decide +kernel) (by decide +kernel)
theorem g1010 : Cond.instanceMethod yX3_coverOf ∈ Gw := Gw_of 1010 (by decide +kernel) (by decide +kernel)
theorem g1011 : Cond.selects "PledgeHouse" yX3_coverOf yX3_coverOf ∈ Gw := Gw_of 1011 (by decide +kernel) (by decide +kernel)
theorem g1012 : Cond.code yX3_coverOf prog_1_method_33_code 2 (Option.some Jvm.ClassFile.FieldType.int) ∈ Gw := Gw_of 1012 (by decide +kernel) (by decide +kernel)
theorem g1013 : Cond.methodLink "PledgeHouseLaw" 259 yL_roomOf ∈ Gw := Gw_of 1013 (by decide +kernel) (by decide +kernel)
theorem g1014 : Cond.static yL_roomOf ∈ Gw := Gw_of 1014 (by decide +kernel) (by decide +kernel)
theorem g1015 : Cond.codeWith yL_roomOf method_31_code 4 (Option.some Jvm.ClassFile.FieldType.int) [(0, 9, 12, 13)] ∈ Gw := Gw_of 1015 (by decide +kernel) (by decide +kernel)
theorem g1016 : Cond.methodLink "PledgeHouseLaw" 104 yX3_roomOf ∈ Gw := Gw_of 1016 (by decide +kernel) (by decide +kernel)
theorem g1017 : Cond.instanceMethod yX3_roomOf ∈ Gw := Gw_of 1017 (by decide +kernel) (by decide +kernel)
theorem g1018 : Cond.selects "PledgeHouse" yX3_roomOf yX3_roomOf ∈ Gw := Gw_of 1018 (by decide +kernel) (by decide +kernel)
theorem g1019 : Cond.code yX3_roomOf prog_1_method_34_code 2 (Option.some Jvm.ClassFile.FieldType.int) ∈ Gw := Gw_of 1019 (by decide +kernel) (by decide +kernel)
theorem g1020 : Cond.methodLink "PledgeHouseLaw" 262 yL_isCalled ∈ Gw := Gw_of 1020 (by decide +kernel) (by decide +kernel)
theorem g1021 : Cond.static yL_isCalled ∈ Gw := Gw_of 1021 (by decide +kernel) (by decide +kernel)
theorem g1022 : Cond.codeWith yL_isCalled method_32_code 4 (Option.some Jvm.ClassFile.FieldType.int) [(0, 16, 19, 13)] ∈ Gw := Gw_of 1022 (by decide +kernel) (by decide +kernel)
theorem g1023 : Cond.methodLink "PledgeHouseLaw" 107 yX3_isCalled ∈ Gw := Gw_of 1023 (by decide +kernel) (by decide +kernel)
theorem g1024 : Cond.instanceMethod yX3_isCalled ∈ Gw := Gw_of 1024 (by decide +kernel) (by decide +kernel)
theorem g1025 : Cond.selects "PledgeHouse" yX3_isCalled yX3_isCalled ∈ Gw := Gw_of 1025 (by decide +kernel) (by decide +kernel)
theorem g1026 : Cond.code yX3_isCalled prog_1_method_35_code 2 (Option.some Jvm.ClassFile.FieldType.boolean) ∈ Gw := Gw_of 1026 (by decide +kernel) (by decide +kernel)
theorem g1027 : Cond.methodLink "PledgeHouseLaw" 265 yL_hoursLeft ∈ Gw := Gw_of 1027 (by decide +kernel) (by decide +kernel)
theorem g1028 : Cond.static yL_hoursLeft ∈ Gw := Gw_of 1028 (by decide +kernel) (by decide +kernel)
theorem g1029 : Cond.codeWith yL_hoursLeft method_33_code 4 (Option.some Jvm.ClassFile.FieldType.int) [(0, 9, 12, 13), (0, 9, 15, 28)] ∈ Gw := Gw_of 1029 (by decide +kernel) (by decide +kernel)
theorem g1030 : Cond.methodLink "PledgeHouseLaw" 111 yX3_hoursLeft ∈ Gw := Gw_of 1030 (by decide +kernel) (by decide +kernel)
theorem g1031 : Cond.instanceMethod yX3_hoursLeft ∈ Gw := Gw_of 1031 (by decide +kernel) (by decide +kernel)
theorem g1032 : Cond.selects "PledgeHouse" yX3_hoursLeft yX3_hoursLeft ∈ Gw := Gw_of 1032 (by decide +kernel) (by decide +kernel)
theorem g1033 : Cond.code yX3_hoursLeft prog_1_method_36_code 2 (Option.some Jvm.ClassFile.FieldType.int) ∈ Gw := Gw_of 1033 (by decide +kernel) (by decide +kernel)
theorem g1034 : Cond.methodLink "PledgeHouseLaw" 268 yL_isBarred ∈ Gw := Gw_of 1034 (by decide +kernel) (by decide +kernel)
theorem g1035 : Cond.static yL_isBarred ∈ Gw := Gw_of 1035 (by decide +kernel) (by decide +kernel)
theorem g1036 : Cond.codeWith yL_isBarred method_34_code 4 (Option.some Jvm.ClassFile.FieldType.int) [(0, 16, 19, 13)] ∈ Gw := Gw_of 1036 (by decide +kernel) (by decide +kernel)
theorem g1037 : Cond.methodLink "PledgeHouseLaw" 114 yX3_isBarred ∈ Gw := Gw_of 1037 (by decide +kernel) (by decide +kernel)
theorem g1038 : Cond.instanceMethod yX3_isBarred ∈ Gw := Gw_of 1038 (by decide +kernel) (by decide +kernel)
theorem g1039 : Cond.selects "PledgeHouse" yX3_isBarred yX3_isBarred ∈ Gw := Gw_of 1039 (by decide +kernel) (by decide +kernel)
theorem g1040 : Cond.code yX3_isBarred prog_1_method_37_code 2 (Option.some Jvm.ClassFile.FieldType.boolean) ∈ Gw := Gw_of 1040 (by decide +kernel) (by decide +kernel)
theorem g1041 : Cond.methodLink "PledgeHouseLaw" 271 yL_rankOf ∈ Gw := Gw_of 1041 (by decide +kernel) (by decide +kernel)
theorem g1042 : Cond.static yL_rankOf ∈ Gw := Gw_of 1042 (by decide +kernel) (by decide +kernel)
theorem g1043 : Cond.codeWith yL_rankOf method_35_code 4 (Option.some Jvm.ClassFile.FieldType.int) [(0, 9, 12, 13)] ∈ Gw := Gw_of 1043 (by decide +kernel) (by decide +kernel)
theorem g1044 : Cond.methodLink "PledgeHouseLaw" 117 yX3_rankOf ∈ Gw := Gw_of 1044 (by decide +kernel) (by decide +kernel)
theorem g1045 : Cond.instanceMethod yX3_rankOf ∈ Gw := Gw_of 1045 (by decide +kernel) (by decide +kernel)
theorem g1046 : Cond.selects "PledgeHouse" yX3_rankOf yX3_rankOf ∈ Gw := Gw_of 1046 (by decide +kernel) (by decide +kernel)
theorem g1047 : Cond.code yX3_rankOf prog_1_method_38_code 2 (Option.some Jvm.ClassFile.FieldType.int) ∈ Gw := Gw_of 1047 (by decide +kernel) (by decide +kernel)
theorem g1048 : Cond.methodLink "PledgeHouseLaw" 274 yL_riskyBySorting ∈ Gw := Gw_of 1048 (by decide +kernel) (by decide +kernel)
theorem g1049 : Cond.static yL_riskyBySorting ∈ Gw := Gw_of 1049 (by decide +kernel) (by decide +kernel)
theorem g1050 : Cond.codeWith yL_riskyBySorting method_36_code 4 (Option.some Jvm.ClassFile.FieldType.int) [(0, 9, 12, 13)] ∈ Gw := Gw_of 1050 (by decide +kernel) (by decide +kernel)
theorem g1051 : Cond.methodLink "PledgeHouseLaw" 120 yX3_riskyBySorting ∈ Gw := Gw_of 1051 (by decide +kernel) (by decide +kernel)
theorem g1052 : Cond.instanceMethod yX3_riskyBySorting ∈ Gw := Gw_of 1052 (by decide +kernel) (by decide +kernel)
theorem g1053 : Cond.selects "PledgeHouse" yX3_riskyBySorting yX3_riskyBySorting ∈ Gw := Gw_of 1053 (by decide +kernel) (by decide +kernel)
theorem g1054 : Cond.code yX3_riskyBySorting prog_1_method_39_code 2 (Option.some Jvm.ClassFile.FieldType.int) ∈ Gw := Gw_of 1054 (by decide +kernel) (by decide +kernel)
theorem g1055 : Cond.methodLink "PledgeHouse" 205 yX3_needPlace ∈ Gw := Gw_of 1055 (by decide +kernel) (by decide +kernel)
theorem g1056 : Cond.static yX3_needPlace ∈ Gw := Gw_of 1056 (by decide +kernel) (by decide +kernel)
theorem g1057 : Cond.code yX3_needPlace prog_1_method_78_code 1 (Option.none : Option Jvm.ClassFile.FieldType) ∈ Gw := Gw_of 1057 (by decide +kernel) (by decide +kernel)
theorem g1058 : Cond.methodLink "PledgeHouseLaw" 277 yL_riskyByTaking ∈ Gw := Gw_of 1058 (by decide +kernel) (by decide +kernel)
theorem g1059 : Cond.static yL_riskyByTaking ∈ Gw := Gw_of 1059 (by decide +kernel) (by decide +kernel)
theorem g1060 : Cond.codeWith yL_riskyByTaking method_37_code 4 (Option.some Jvm.ClassFile.FieldType.int) [(0, 9, 12, 13)] ∈ Gw := Gw_of 1060 (by decide +kernel) (by decide +kernel)
theorem g1061 : Cond.methodLink "PledgeHouseLaw" 123 yX3_riskyByTaking ∈ Gw := Gw_of 1061 (by decide +kernel) (by decide +kernel)
theorem g1062 : Cond.instanceMethod yX3_riskyByTaking ∈ Gw := Gw_of 1062 (by decide +kernel) (by decide +kernel)
theorem g1063 : Cond.selects "PledgeHouse" yX3_riskyByTaking yX3_riskyByTaking ∈ Gw := Gw_of 1063 (by decide +kernel) (by decide +kernel)
theorem g1064 : Cond.code yX3_riskyByTaking prog_1_method_40_code 2 (Option.some Jvm.ClassFile.FieldType.int) ∈ Gw := Gw_of 1064 (by decide +kernel) (by decide +kernel)
theorem g1065 : Cond.methodLink "PledgeHouseLaw" 300 yL_fallToCallByTrying ∈ Gw := Gw_of 1065 (by decide +kernel) (by decide +kernel)
theorem g1066 : Cond.static yL_fallToCallByTrying ∈ Gw := Gw_of 1066 (by decide +kernel) (by decide +kernel)
theorem g1067 : Cond.codeWith yL_fallToCallByTrying method_38_code 4 (Option.some Jvm.ClassFile.FieldType.int) [(0, 9, 12, 13), (0, 9, 15, 28)] ∈ Gw := Gw_of 1067 (by decide +kernel) (by decide +kernel)
theorem g1068 : Cond.methodLink "PledgeHouseLaw" 126 yX3_fallToCallByTrying ∈ Gw := Gw_of 1068 (by decide +kernel) (by decide +kernel)
theorem g1069 : Cond.instanceMethod yX3_fallToCallByTrying ∈ Gw := Gw_of 1069 (by decide +kernel) (by decide +kernel)
theorem g1070 : Cond.selects "PledgeHouse" yX3_fallToCallByTrying yX3_fallToCallByTrying ∈ Gw := Gw_of 1070 (by decide +kernel) (by decide +kernel)
theorem g1071 : Cond.code yX3_fallToCallByTrying prog_1_method_46_code 3 (Option.some Jvm.ClassFile.FieldType.int) ∈ Gw := Gw_of 1071 (by decide +kernel) (by decide +kernel)
theorem g1072 : Cond.methodLink "PledgeHouseLaw" 303 yL_fallToCallByHalving ∈ Gw := Gw_of 1072 (by decide +kernel) (by decide +kernel)
theorem g1073 : Cond.static yL_fallToCallByHalving ∈ Gw := Gw_of 1073 (by decide +kernel) (by decide +kernel)
theorem g1074 : Cond.codeWith yL_fallToCallByHalving method_39_code 4 (Option.some Jvm.ClassFile.FieldType.int) [(0, 9, 12, 13), (0, 9, 15, 28)] ∈ Gw := Gw_of 1074 (by decide +kernel) (by decide +kernel)
theorem g1075 : Cond.methodLink "PledgeHouseLaw" 129 yX3_fallToCallByHalving ∈ Gw := Gw_of 1075 (by decide +kernel) (by decide +kernel)
theorem g1076 : Cond.instanceMethod yX3_fallToCallByHalving ∈ Gw := Gw_of 1076 (by decide +kernel) (by decide +kernel)
theorem g1077 : Cond.selects "PledgeHouse" yX3_fallToCallByHalving yX3_fallToCallByHalving ∈ Gw := Gw_of 1077 (by decide +kernel) (by decide +kernel)
theorem g1078 : Cond.code yX3_fallToCallByHalving prog_1_method_47_code 3 (Option.some Jvm.ClassFile.FieldType.int) ∈ Gw := Gw_of 1078 (by decide +kernel) (by decide +kernel)
theorem g1079 : Cond.methodLink "PledgeHouseLaw" 306 yL_hoursToCall ∈ Gw := Gw_of 1079 (by decide +kernel) (by decide +kernel)
theorem g1080 : Cond.static yL_hoursToCall ∈ Gw := Gw_of 1080 (by decide +kernel) (by decide +kernel)
theorem g1081 : Cond.codeWith yL_hoursToCall method_40_code 4 (Option.some Jvm.ClassFile.FieldType.int) [(0, 9, 12, 13), (0, 9, 15, 28)] ∈ Gw := Gw_of 1081 (by decide +kernel) (by decide +kernel)
theorem g1082 : Cond.methodLink "PledgeHouseLaw" 132 yX3_hoursToCall ∈ Gw := Gw_of 1082 (by decide +kernel) (by decide +kernel)
theorem g1083 : Cond.instanceMethod yX3_hoursToCall ∈ Gw := Gw_of 1083 (by decide +kernel) (by decide +kernel)
theorem g1084 : Cond.selects "PledgeHouse" yX3_hoursToCall yX3_hoursToCall ∈ Gw := Gw_of 1084 (by decide +kernel) (by decide +kernel)
theorem g1085 : Cond.code yX3_hoursToCall prog_1_method_48_code 3 (Option.some Jvm.ClassFile.FieldType.int) ∈ Gw := Gw_of 1085 (by decide +kernel) (by decide +kernel)
theorem g1086 : Cond.methodLink "PledgeHouse" 221 yX0_hoursUntilCall ∈ Gw := Gw_of 1086 (by decide +kernel) (by decide +kernel)
theorem g1087 : Cond.instanceMethod yX0_hoursUntilCall ∈ Gw := Gw_of 1087 (by decide +kernel) (by decide +kernel)
theorem g1088 : Cond.selects "PledgeHouse$Ledger" yX0_hoursUntilCall yX0_hoursUntilCall ∈ Gw := Gw_of 1088 (by decide +kernel) (by decide +kernel)
theorem g1089 : Cond.code yX0_hoursUntilCall prog_2_method_16_code 5 (Option.some Jvm.ClassFile.FieldType.int) ∈ Gw := Gw_of 1089 (by decide +kernel) (by decide +kernel)
theorem g1090 : Cond.methodLink "PledgeHouseLaw" 309 yL_wouldSell ∈ Gw := Gw_of 1090 (by decide +kernel) (by decide +kernel)
theorem g1091 : Cond.static yL_wouldSell ∈ Gw := Gw_of 1091 (by decide +kernel) (by decide +kernel)
theorem g1092 : Cond.codeWith yL_wouldSell method_41_code 4 (Option.some Jvm.ClassFile.FieldType.int) [(0, 9, 12, 13)] ∈ Gw := Gw_of 1092 (by decide +kernel) (by decide +kernel)
theorem g1093 : Cond.methodLink "PledgeHouseLaw" 135 yX3_wouldSell ∈ Gw := Gw_of 1093 (by decide +kernel) (by decide +kernel)
theorem g1094 : Cond.instanceMethod yX3_wouldSell ∈ Gw := Gw_of 1094 (by decide +kernel) (by decide +kernel)
theorem g1095 : Cond.selects "PledgeHouse" yX3_wouldSell yX3_wouldSell ∈ Gw := Gw_of 1095 (by decide +kernel) (by decide +kernel)
theorem g1096 : Cond.code yX3_wouldSell prog_1_method_49_code 2 (Option.some Jvm.ClassFile.FieldType.int) ∈ Gw := Gw_of 1096 (by decide +kernel) (by decide +kernel)
theorem g1097 : Cond.methodLink "PledgeHouseLaw" 312 yL_wouldLose ∈ Gw := Gw_of 1097 (by decide +kernel) (by decide +kernel)
theorem g1098 : Cond.static yL_wouldLose ∈ Gw := Gw_of 1098 (by decide +kernel) (by decide +kernel)
theorem g1099 : Cond.codeWith yL_wouldLose method_42_code 4 (Option.some Jvm.ClassFile.FieldType.int) [(0, 9, 12, 13)] ∈ Gw := Gw_of 1099 (by decide +kernel) (by decide +kernel)
theorem g1100 : Cond.methodLink "PledgeHouseLaw" 138 yX3_wouldLose ∈ Gw := Gw_of 1100 (by decide +kernel) (by decide +kernel)
theorem g1101 : Cond.instanceMethod yX3_wouldLose ∈ Gw := Gw_of 1101 (by decide +kernel) (by decide +kernel)
theorem g1102 : Cond.selects "PledgeHouse" yX3_wouldLose yX3_wouldLose ∈ Gw := Gw_of 1102 (by decide +kernel) (by decide +kernel)
theorem g1103 : Cond.code yX3_wouldLose prog_1_method_50_code 2 (Option.some Jvm.ClassFile.FieldType.int) ∈ Gw := Gw_of 1103 (by decide +kernel) (by decide +kernel)
theorem g1104 : Cond.methodLink "PledgeHouseLaw" 315 yL_calledIfFallen ∈ Gw := Gw_of 1104 (by decide +kernel) (by decide +kernel)
theorem g1105 : Cond.static yL_calledIfFallen ∈ Gw := Gw_of 1105 (by decide +kernel) (by decide +kernel)
theorem g1106 : Cond.codeWith yL_calledIfFallen method_43_code 4 (Option.some Jvm.ClassFile.FieldType.int) [(0, 9, 12, 15)] ∈ Gw := Gw_of 1106 (by decide +kernel) (by decide +kernel)
theorem g1107 : Cond.methodLink "PledgeHouseLaw" 141 yX3_calledIfFallen ∈ Gw := Gw_of 1107 (by decide +kernel) (by decide +kernel)
theorem g1108 : Cond.instanceMethod yX3_calledIfFallen ∈ Gw := Gw_of 1108 (by decide +kernel) (by decide +kernel)
theorem g1109 : Cond.selects "PledgeHouse" yX3_calledIfFallen yX3_calledIfFallen ∈ Gw := Gw_of 1109 (by decide +kernel) (by decide +kernel)
theorem g1110 : Cond.code yX3_calledIfFallen prog_1_method_51_code 2 (Option.some Jvm.ClassFile.FieldType.int) ∈ Gw := Gw_of 1110 (by decide +kernel) (by decide +kernel)
theorem g1111 : Cond.classLink "PledgeHouseLaw" 145 "PledgeHouseModel" ∈ Gw := Gw_of 1111 (by decide +kernel) (by decide +kernel)
theorem g1112 : Cond.instantiable "PledgeHouseModel" 12 ∈ Gw := Gw_of 1112 (by decide +kernel) (by decide +kernel)
theorem g1113 : Cond.methodLink "PledgeHouseLaw" 147 yX4_init ∈ Gw := Gw_of 1113 (by decide +kernel) (by decide +kernel)
theorem g1114 : Cond.instanceMethod yX4_init ∈ Gw := Gw_of 1114 (by decide +kernel) (by decide +kernel)
theorem g1115 : Cond.code yX4_init prog_6_method_1_code 2 (Option.none : Option Jvm.ClassFile.FieldType) ∈ Gw := Gw_of 1115 (by decide +kernel) (by decide +kernel)
theorem g1116 : Cond.methodLink "PledgeHouseModel" 1 ⟨"java/lang/Object", "<init>", "()V"⟩ ∈ Gw := Gw_of 1116 (by decide +kernel) (by decide +kernel)
theorem g1117 : Cond.fieldLink "PledgeHouseModel" 7 "PledgeHouseModel" "s" "[I" ∈ Gw := Gw_of 1117 (by decide +kernel) (by decide +kernel)
theorem g1118 : Cond.fieldLink "PledgeHouseModel" 13 "PledgeHouseModel" "before" "[I" ∈ Gw := Gw_of 1118 (by decide +kernel) (by decide +kernel)
theorem g1119 : Cond.fieldLink "PledgeHouseModel" 37 "PledgeHouseModel" "known" "I" ∈ Gw := Gw_of 1119 (by decide +kernel) (by decide +kernel)
theorem g1120 : Cond.fieldLink "PledgeHouseModel" 16 "PledgeHouseModel" "slots" "[I" ∈ Gw := Gw_of 1120 (by decide +kernel) (by decide +kernel)
theorem g1121 : Cond.fieldLink "PledgeHouseModel" 19 "PledgeHouseModel" "isKept" "[Z" ∈ Gw := Gw_of 1121 (by decide +kernel) (by decide +kernel)
theorem g1122 : Cond.fieldLink "PledgeHouseModel" 23 "PledgeHouseModel" "aside" "[I" ∈ Gw := Gw_of 1122 (by decide +kernel) (by decide +kernel)
theorem g1123 : Cond.fieldLink "PledgeHouseModel" 26 "PledgeHouseModel" "buffer" "[I" ∈ Gw := Gw_of 1123 (by decide +kernel) (by decide +kernel)
theorem g1124 : Cond.fieldLink "PledgeHouseModel" 137 "PledgeHouseModel" "length" "I" ∈ Gw := Gw_of 1124 (by decide +kernel) (by decide +kernel)
theorem g1125 : Cond.fieldLink "PledgeHouseModel" 29 "PledgeHouseModel" "thrown" "I" ∈ Gw := Gw_of 1125 (by decide +kernel) (by decide +kernel)
theorem g1126 : Cond.fieldLink "PledgeHouseModel" 140 "PledgeHouseModel" "at" "I" ∈ Gw := Gw_of 1126 (by decide +kernel) (by decide +kernel)
theorem g1127 : Cond.fieldLink "PledgeHouseModel" 143 "PledgeHouseModel" "isWrong" "Z" ∈ Gw := Gw_of 1127 (by decide +kernel) (by decide +kernel)
theorem g1128 : Cond.fieldLink "PledgeHouseModel" 223 "PledgeHouseModel" "hash" "J" ∈ Gw := Gw_of 1128 (by decide +kernel) (by decide +kernel)
theorem g1154 : Cond.methodLink "PledgeHouseLaw" 154 yX4_thrown ∈ Gw := Gw_of 1154 (by decide +kernel) (by decide +kernel)
theorem g1155 : Cond.instanceMethod yX4_thrown ∈ Gw := Gw_of 1155 (by decide +kernel) (by decide +kernel)
theorem g1156 : Cond.selects "PledgeHouseModel" yX4_thrown yX4_thrown ∈ Gw := Gw_of 1156 (by decide +kernel) (by decide +kernel)
theorem g1157 : Cond.code yX4_thrown prog_6_method_2_code 1 (Option.some Jvm.ClassFile.FieldType.int) ∈ Gw := Gw_of 1157 (by decide +kernel) (by decide +kernel)
theorem g1158 : Cond.methodLink "PledgeHouseLaw" 153 yX4_setPrice ∈ Gw := Gw_of 1158 (by decide +kernel) (by decide +kernel)
theorem g1159 : Cond.instanceMethod yX4_setPrice ∈ Gw := Gw_of 1159 (by decide +kernel) (by decide +kernel)
theorem g1160 : Cond.selects "PledgeHouseModel" yX4_setPrice yX4_setPrice ∈ Gw := Gw_of 1160 (by decide +kernel) (by decide +kernel)
theorem g1161 : Cond.code yX4_setPrice prog_6_method_32_code 3 (Option.some Jvm.ClassFile.FieldType.int) ∈ Gw := Gw_of 1161 (by decide +kernel) (by decide +kernel)
theorem g1162 : Cond.methodLink "PledgeHouseModel" 99 yX4_isKind ∈ Gw := Gw_of 1162 (by decide +kernel) (by decide +kernel)
theorem g1163 : Cond.static yX4_isKind ∈ Gw := Gw_of 1163 (by decide +kernel) (by decide +kernel)
theorem g1164 : Cond.code yX4_isKind prog_6_method_5_code 1 (Option.some Jvm.ClassFile.FieldType.boolean) ∈ Gw := Gw_of 1164 (by decide +kernel) (by decide +kernel)
theorem g1165 : Cond.methodLink "PledgeHouseModel" 33 yX4_in ∈ Gw := Gw_of 1165 (by decide +kernel) (by decide +kernel)
theorem g1166 : Cond.static yX4_in ∈ Gw := Gw_of 1166 (by decide +kernel) (by decide +kernel)
theorem g1167 : Cond.code yX4_in prog_6_method_4_code 3 (Option.some Jvm.ClassFile.FieldType.boolean) ∈ Gw := Gw_of 1167 (by decide +kernel) (by decide +kernel)
theorem g1168 : Cond.methodLink "PledgeHouseModel" 102 yX4_sets ∈ Gw := Gw_of 1168 (by decide +kernel) (by decide +kernel)
theorem g1170 : Cond.instanceMethod yX4_sets ∈ Gw := Gw_of 1170 (by decide +kernel) (by decide +kernel)
theorem g1171 : Cond.code yX4_sets prog_6_method_31_code 6 (Option.some Jvm.ClassFile.FieldType.int) ∈ Gw := Gw_of 1171 (by decide +kernel) (by decide +kernel)
theorem g1172 : Cond.methodLink "PledgeHouseModel" 93 yX4_throwing ∈ Gw := Gw_of 1172 (by decide +kernel) (by decide +kernel)
theorem g1174 : Cond.instanceMethod yX4_throwing ∈ Gw := Gw_of 1174 (by decide +kernel) (by decide +kernel)
theorem g1175 : Cond.code yX4_throwing prog_6_method_3_code 2 (Option.some Jvm.ClassFile.FieldType.int) ∈ Gw := Gw_of 1175 (by decide +kernel) (by decide +kernel)
theorem g1176 : Cond.methodLink "PledgeHouseModel" 96 yX4_save ∈ Gw := Gw_of 1176 (by decide +kernel) (by decide +kernel)
theorem g1178 : Cond.instanceMethod yX4_save ∈ Gw := Gw_of 1178 (by decide +kernel) (by decide +kernel)
theorem g1179 : Cond.code yX4_save prog_6_method_7_code 2 (Option.none : Option Jvm.ClassFile.FieldType) ∈ Gw := Gw_of 1179 (by decide +kernel) (by decide +kernel)
theorem g1180 : Cond.methodLink "PledgeHouseModel" 83 yX4_looks ∈ Gw := Gw_of 1180 (by decide +kernel) (by decide +kernel)
theorem g1182 : Cond.instanceMethod yX4_looks ∈ Gw := Gw_of 1182 (by decide +kernel) (by decide +kernel)
theorem g1183 : Cond.code yX4_looks prog_6_method_18_code 3 (Option.none : Option Jvm.ClassFile.FieldType) ∈ Gw := Gw_of 1183 (by decide +kernel) (by decide +kernel)
theorem g1184 : Cond.methodLink "PledgeHouseModel" 55 yX4_isCovered ∈ Gw := Gw_of 1184 (by decide +kernel) (by decide +kernel)
theorem g1186 : Cond.instanceMethod yX4_isCovered ∈ Gw := Gw_of 1186 (by decide +kernel) (by decide +kernel)
theorem g1187 : Cond.code yX4_isCovered prog_6_method_16_code 2 (Option.some Jvm.ClassFile.FieldType.boolean) ∈ Gw := Gw_of 1187 (by decide +kernel) (by decide +kernel)
theorem g1188 : Cond.methodLink "PledgeHouseModel" 44 yX4_of ∈ Gw := Gw_of 1188 (by decide +kernel) (by decide +kernel)
theorem g1190 : Cond.instanceMethod yX4_of ∈ Gw := Gw_of 1190 (by decide +kernel) (by decide +kernel)
theorem g1191 : Cond.code yX4_of prog_6_method_10_code 3 (Option.some Jvm.ClassFile.FieldType.int) ∈ Gw := Gw_of 1191 (by decide +kernel) (by decide +kernel)
theorem g1192 : Cond.methodLink "PledgeHouseModel" 51 yX4_cover ∈ Gw := Gw_of 1192 (by decide +kernel) (by decide +kernel)
theorem g1194 : Cond.instanceMethod yX4_cover ∈ Gw := Gw_of 1194 (by decide +kernel) (by decide +kernel)
theorem g1195 : Cond.code yX4_cover prog_6_method_15_code 2 (Option.some Jvm.ClassFile.FieldType.int) ∈ Gw := Gw_of 1195 (by decide +kernel) (by decide +kernel)
theorem g1196 : Cond.methodLink "PledgeHouseModel" 47 yX4_coverIf ∈ Gw := Gw_of 1196 (by decide +kernel) (by decide +kernel)
theorem g1198 : Cond.instanceMethod yX4_coverIf ∈ Gw := Gw_of 1198 (by decide +kernel) (by decide +kernel)
theorem g1199 : Cond.code yX4_coverIf prog_6_method_14_code 7 (Option.some Jvm.ClassFile.FieldType.int) ∈ Gw := Gw_of 1199 (by decide +kernel) (by decide +kernel)
theorem g1200 : Cond.methodLink "PledgeHouseModel" 40 yX4_fallen ∈ Gw := Gw_of 1200 (by decide +kernel) (by decide +kernel)
theorem g1202 : Cond.instanceMethod yX4_fallen ∈ Gw := Gw_of 1202 (by decide +kernel) (by decide +kernel)
theorem g1203 : Cond.code yX4_fallen prog_6_method_13_code 3 (Option.some Jvm.ClassFile.FieldType.int) ∈ Gw := Gw_of 1203 (by decide +kernel) (by decide +kernel)
theorem g1204 : Cond.methodLink "PledgeHouseModel" 59 yX4_called ∈ Gw := Gw_of 1204 (by decide +kernel) (by decide +kernel)
theorem g1206 : Cond.instanceMethod yX4_called ∈ Gw := Gw_of 1206 (by decide +kernel) (by decide +kernel)
theorem g1207 : Cond.code yX4_called prog_6_method_17_code 2 (Option.some Jvm.ClassFile.FieldType.boolean) ∈ Gw := Gw_of 1207 (by decide +kernel) (by decide +kernel)
theorem g1208 : Cond.methodLink "PledgeHouseModel" 62 yX4_lay ∈ Gw := Gw_of 1208 (by decide +kernel) (by decide +kernel)
theorem g1210 : Cond.instanceMethod yX4_lay ∈ Gw := Gw_of 1210 (by decide +kernel) (by decide +kernel)
theorem g1211 : Cond.code yX4_lay prog_6_method_11_code 4 (Option.none : Option Jvm.ClassFile.FieldType) ∈ Gw := Gw_of 1211 (by decide +kernel) (by decide +kernel)
theorem g1212 : Cond.methodLink "PledgeHouseLaw" 159 yX4_setCut ∈ Gw := Gw_of 1212 (by decide +kernel) (by decide +kernel)
theorem g1213 : Cond.instanceMethod yX4_setCut ∈ Gw := Gw_of 1213 (by decide +kernel) (by decide +kernel)
theorem g1214 : Cond.selects "PledgeHouseModel" yX4_setCut yX4_setCut ∈ Gw := Gw_of 1214 (by decide +kernel) (by decide +kernel)
theorem g1215 : Cond.code yX4_setCut prog_6_method_33_code 3 (Option.some Jvm.ClassFile.FieldType.int) ∈ Gw := Gw_of 1215 (by decide +kernel) (by decide +kernel)
theorem g1216 : Cond.methodLink "PledgeHouseLaw" 163 yX4_fall ∈ Gw := Gw_of 1216 (by decide +kernel) (by decide +kernel)
theorem g1217 : Cond.instanceMethod yX4_fall ∈ Gw := Gw_of 1217 (by decide +kernel) (by decide +kernel)
theorem g1218 : Cond.selects "PledgeHouseModel" yX4_fall yX4_fall ∈ Gw := Gw_of 1218 (by decide +kernel) (by decide +kernel)
theorem g1219 : Cond.code yX4_fall prog_6_method_34_code 5 (Option.some Jvm.ClassFile.FieldType.int) ∈ Gw := Gw_of 1219 (by decide +kernel) (by decide +kernel)
theorem g1220 : Cond.methodLink "PledgeHouseLaw" 167 yX4_pledge ∈ Gw := Gw_of 1220 (by decide +kernel) (by decide +kernel)
theorem g1221 : Cond.instanceMethod yX4_pledge ∈ Gw := Gw_of 1221 (by decide +kernel) (by decide +kernel)
theorem g1222 : Cond.selects "PledgeHouseModel" yX4_pledge yX4_pledge ∈ Gw := Gw_of 1222 (by decide +kernel) (by decide +kernel)
theorem g1223 : Cond.code yX4_pledge prog_6_method_37_code 4 (Option.some Jvm.ClassFile.FieldType.int) ∈ Gw := Gw_of 1223 (by decide +kernel) (by decide +kernel)
theorem g1224 : Cond.methodLink "PledgeHouseModel" 109 yX4_areThere ∈ Gw := Gw_of 1224 (by decide +kernel) (by decide +kernel)
theorem g1226 : Cond.instanceMethod yX4_areThere ∈ Gw := Gw_of 1226 (by decide +kernel) (by decide +kernel)
theorem g1227 : Cond.code yX4_areThere prog_6_method_35_code 3 (Option.some Jvm.ClassFile.FieldType.boolean) ∈ Gw := Gw_of 1227 (by decide +kernel) (by decide +kernel)
theorem g1228 : Cond.methodLink "PledgeHouseModel" 106 yX4_isClient ∈ Gw := Gw_of 1228 (by decide +kernel) (by decide +kernel)
theorem g1229 : Cond.static yX4_isClient ∈ Gw := Gw_of 1229 (by decide +kernel) (by decide +kernel)
theorem g1230 : Cond.code yX4_isClient prog_6_method_6_code 1 (Option.some Jvm.ClassFile.FieldType.boolean) ∈ Gw := Gw_of 1230 (by decide +kernel) (by decide +kernel)
theorem g1231 : Cond.methodLink "PledgeHouseModel" 112 yX4_canPledge ∈ Gw := Gw_of 1231 (by decide +kernel) (by decide +kernel)
theorem g1233 : Cond.instanceMethod yX4_canPledge ∈ Gw := Gw_of 1233 (by decide +kernel) (by decide +kernel)
theorem g1234 : Cond.code yX4_canPledge prog_6_method_25_code 4 (Option.some Jvm.ClassFile.FieldType.boolean) ∈ Gw := Gw_of 1234 (by decide +kernel) (by decide +kernel)
theorem g1235 : Cond.methodLink "PledgeHouseModel" 70 yX4_grow ∈ Gw := Gw_of 1235 (by decide +kernel) (by decide +kernel)
theorem g1237 : Cond.instanceMethod yX4_grow ∈ Gw := Gw_of 1237 (by decide +kernel) (by decide +kernel)
theorem g1238 : Cond.code yX4_grow prog_6_method_12_code 4 (Option.none : Option Jvm.ClassFile.FieldType) ∈ Gw := Gw_of 1238 (by decide +kernel) (by decide +kernel)
theorem g1239 : Cond.methodLink "PledgeHouseLaw" 170 yX4_release ∈ Gw := Gw_of 1239 (by decide +kernel) (by decide +kernel)
theorem g1240 : Cond.instanceMethod yX4_release ∈ Gw := Gw_of 1240 (by decide +kernel) (by decide +kernel)
theorem g1241 : Cond.selects "PledgeHouseModel" yX4_release yX4_release ∈ Gw := Gw_of 1241 (by decide +kernel) (by decide +kernel)
theorem g1242 : Cond.code yX4_release prog_6_method_38_code 4 (Option.some Jvm.ClassFile.FieldType.int) ∈ Gw := Gw_of 1242 (by decide +kernel) (by decide +kernel)
theorem g1243 : Cond.methodLink "PledgeHouseModel" 115 yX4_canLack ∈ Gw := Gw_of 1243 (by decide +kernel) (by decide +kernel)
theorem g1245 : Cond.instanceMethod yX4_canLack ∈ Gw := Gw_of 1245 (by decide +kernel) (by decide +kernel)
theorem g1246 : Cond.code yX4_canLack prog_6_method_26_code 5 (Option.some Jvm.ClassFile.FieldType.boolean) ∈ Gw := Gw_of 1246 (by decide +kernel) (by decide +kernel)
theorem g1247 : Cond.methodLink "PledgeHouseLaw" 173 yX4_deposit ∈ Gw := Gw_of 1247 (by decide +kernel) (by decide +kernel)
theorem g1248 : Cond.instanceMethod yX4_deposit ∈ Gw := Gw_of 1248 (by decide +kernel) (by decide +kernel)
theorem g1249 : Cond.selects "PledgeHouseModel" yX4_deposit yX4_deposit ∈ Gw := Gw_of 1249 (by decide +kernel) (by decide +kernel)
theorem g1250 : Cond.code yX4_deposit prog_6_method_39_code 3 (Option.some Jvm.ClassFile.FieldType.int) ∈ Gw := Gw_of 1250 (by decide +kernel) (by decide +kernel)
theorem g1251 : Cond.methodLink "PledgeHouseModel" 118 yX4_isThere ∈ Gw := Gw_of 1251 (by decide +kernel) (by decide +kernel)
theorem g1253 : Cond.instanceMethod yX4_isThere ∈ Gw := Gw_of 1253 (by decide +kernel) (by decide +kernel)
theorem g1254 : Cond.code yX4_isThere prog_6_method_36_code 2 (Option.some Jvm.ClassFile.FieldType.boolean) ∈ Gw := Gw_of 1254 (by decide +kernel) (by decide +kernel)
theorem g1255 : Cond.constant "PledgeHouseModel" 121 (99999 : Int32) ∈ Gw := Gw_of 1255 (by decide +kernel) (by decide +kernel)
theorem g1256 : Cond.methodLink "PledgeHouseLaw" 176 yX4_withdraw ∈ Gw := Gw_of 1256 (by decide +kernel) (by decide +kernel)
theorem g1257 : Cond.instanceMethod yX4_withdraw ∈ Gw := Gw_of 1257 (by decide +kernel) (by decide +kernel)
theorem g1258 : Cond.selects "PledgeHouseModel" yX4_withdraw yX4_withdraw ∈ Gw := Gw_of 1258 (by decide +kernel) (by decide +kernel)
theorem g1259 : Cond.code yX4_withdraw prog_6_method_40_code 3 (Option.some Jvm.ClassFile.FieldType.int) ∈ Gw := Gw_of 1259 (by decide +kernel) (by decide +kernel)
theorem g1260 : Cond.methodLink "PledgeHouseLaw" 179 yX4_lend ∈ Gw := Gw_of 1260 (by decide +kernel) (by decide +kernel)
theorem g1261 : Cond.instanceMethod yX4_lend ∈ Gw := Gw_of 1261 (by decide +kernel) (by decide +kernel)
theorem g1262 : Cond.selects "PledgeHouseModel" yX4_lend yX4_lend ∈ Gw := Gw_of 1262 (by decide +kernel) (by decide +kernel)
theorem g1263 : Cond.code yX4_lend prog_6_method_41_code 3 (Option.some Jvm.ClassFile.FieldType.int) ∈ Gw := Gw_of 1263 (by decide +kernel) (by decide +kernel)
theorem g1264 : Cond.methodLink "PledgeHouseModel" 122 yX4_canLend ∈ Gw := Gw_of 1264 (by decide +kernel) (by decide +kernel)
theorem g1266 : Cond.instanceMethod yX4_canLend ∈ Gw := Gw_of 1266 (by decide +kernel) (by decide +kernel)
theorem g1267 : Cond.code yX4_canLend prog_6_method_27_code 3 (Option.some Jvm.ClassFile.FieldType.boolean) ∈ Gw := Gw_of 1267 (by decide +kernel) (by decide +kernel)
theorem g1268 : Cond.methodLink "PledgeHouseModel" 125 yX4_lends ∈ Gw := Gw_of 1268 (by decide +kernel) (by decide +kernel)
theorem g1270 : Cond.instanceMethod yX4_lends ∈ Gw := Gw_of 1270 (by decide +kernel) (by decide +kernel)
theorem g1271 : Cond.code yX4_lends prog_6_method_28_code 3 (Option.none : Option Jvm.ClassFile.FieldType) ∈ Gw := Gw_of 1271 (by decide +kernel) (by decide +kernel)
theorem g1272 : Cond.methodLink "PledgeHouseLaw" 182 yX4_payBack ∈ Gw := Gw_of 1272 (by decide +kernel) (by decide +kernel)
theorem g1273 : Cond.instanceMethod yX4_payBack ∈ Gw := Gw_of 1273 (by decide +kernel) (by decide +kernel)
theorem g1274 : Cond.selects "PledgeHouseModel" yX4_payBack yX4_payBack ∈ Gw := Gw_of 1274 (by decide +kernel) (by decide +kernel)
theorem g1275 : Cond.code yX4_payBack prog_6_method_42_code 4 (Option.some Jvm.ClassFile.FieldType.int) ∈ Gw := Gw_of 1275 (by decide +kernel) (by decide +kernel)
theorem g1276 : Cond.methodLink "PledgeHouseModel" 128 yX4_paysBack ∈ Gw := Gw_of 1276 (by decide +kernel) (by decide +kernel)
theorem g1278 : Cond.instanceMethod yX4_paysBack ∈ Gw := Gw_of 1278 (by decide +kernel) (by decide +kernel)
theorem g1279 : Cond.code yX4_paysBack prog_6_method_29_code 4 (Option.some Jvm.ClassFile.FieldType.int) ∈ Gw := Gw_of 1279 (by decide +kernel) (by decide +kernel)
theorem g1280 : Cond.methodLink "PledgeHouseLaw" 186 yX4_readmit ∈ Gw := Gw_of 1280 (by decide +kernel) (by decide +kernel)
theorem g1281 : Cond.instanceMethod yX4_readmit ∈ Gw := Gw_of 1281 (by decide +kernel) (by decide +kernel)
theorem g1282 : Cond.selects "PledgeHouseModel" yX4_readmit yX4_readmit ∈ Gw := Gw_of 1282 (by decide +kernel) (by decide +kernel)
theorem g1283 : Cond.code yX4_readmit prog_6_method_43_code 2 (Option.none : Option Jvm.ClassFile.FieldType) ∈ Gw := Gw_of 1283 (by decide +kernel) (by decide +kernel)
theorem g1284 : Cond.methodLink "PledgeHouseLaw" 189 yX4_pass ∈ Gw := Gw_of 1284 (by decide +kernel) (by decide +kernel)
theorem g1285 : Cond.instanceMethod yX4_pass ∈ Gw := Gw_of 1285 (by decide +kernel) (by decide +kernel)
theorem g1286 : Cond.selects "PledgeHouseModel" yX4_pass yX4_pass ∈ Gw := Gw_of 1286 (by decide +kernel) (by decide +kernel)
theorem g1287 : Cond.code yX4_pass prog_6_method_44_code 3 (Option.some Jvm.ClassFile.FieldType.int) ∈ Gw := Gw_of 1287 (by decide +kernel) (by decide +kernel)
theorem g1288 : Cond.methodLink "PledgeHouseModel" 131 yX4_passes ∈ Gw := Gw_of 1288 (by decide +kernel) (by decide +kernel)
theorem g1290 : Cond.instanceMethod yX4_passes ∈ Gw := Gw_of 1290 (by decide +kernel) (by decide +kernel)
theorem g1291 : Cond.code yX4_passes prog_6_method_30_code 4 (Option.some Jvm.ClassFile.FieldType.int) ∈ Gw := Gw_of 1291 (by decide +kernel) (by decide +kernel)
theorem g1292 : Cond.methodLink "PledgeHouseModel" 89 yX4_hour ∈ Gw := Gw_of 1292 (by decide +kernel) (by decide +kernel)
theorem g1294 : Cond.instanceMethod yX4_hour ∈ Gw := Gw_of 1294 (by decide +kernel) (by decide +kernel)
theorem g1295 : Cond.code yX4_hour prog_6_method_24_code 5 (Option.some Jvm.ClassFile.FieldType.int) ∈ Gw := Gw_of 1295 (by decide +kernel) (by decide +kernel)
theorem g1296 : Cond.methodLink "PledgeHouseModel" 80 yX4_interestOf ∈ Gw := Gw_of 1296 (by decide +kernel) (by decide +kernel)
theorem g1297 : Cond.static yX4_interestOf ∈ Gw := Gw_of 1297 (by decide +kernel) (by decide +kernel)
theorem g1298 : Cond.code yX4_interestOf prog_6_method_23_code 2 (Option.some Jvm.ClassFile.FieldType.int) ∈ Gw := Gw_of 1298 (by decide +kernel) (by decide +kernel)
theorem g1299 : Cond.methodLink "PledgeHouseModel" 86 yX4_sellsOut ∈ Gw := Gw_of 1299 (by decide +kernel) (by decide +kernel)
theorem g1301 : Cond.instanceMethod yX4_sellsOut ∈ Gw := Gw_of 1301 (by decide +kernel) (by decide +kernel)
theorem g1302 : Cond.code yX4_sellsOut prog_6_method_22_code 5 (Option.some Jvm.ClassFile.FieldType.int) ∈ Gw := Gw_of 1302 (by decide +kernel) (by decide +kernel)
theorem g1303 : Cond.methodLink "PledgeHouseModel" 73 yX4_pays ∈ Gw := Gw_of 1303 (by decide +kernel) (by decide +kernel)
theorem g1305 : Cond.instanceMethod yX4_pays ∈ Gw := Gw_of 1305 (by decide +kernel) (by decide +kernel)
theorem g1306 : Cond.code yX4_pays prog_6_method_21_code 4 (Option.none : Option Jvm.ClassFile.FieldType) ∈ Gw := Gw_of 1306 (by decide +kernel) (by decide +kernel)
theorem g1307 : Cond.methodLink "PledgeHouseModel" 77 yX4_selling ∈ Gw := Gw_of 1307 (by decide +kernel) (by decide +kernel)
theorem g1309 : Cond.instanceMethod yX4_selling ∈ Gw := Gw_of 1309 (by decide +kernel) (by decide +kernel)
theorem g1310 : Cond.code yX4_selling prog_6_method_20_code 4 (Option.some Jvm.ClassFile.FieldType.int) ∈ Gw := Gw_of 1310 (by decide +kernel) (by decide +kernel)
theorem g1311 : Cond.methodLink "PledgeHouseModel" 66 yX4_isAhead ∈ Gw := Gw_of 1311 (by decide +kernel) (by decide +kernel)
theorem g1313 : Cond.instanceMethod yX4_isAhead ∈ Gw := Gw_of 1313 (by decide +kernel) (by decide +kernel)
theorem g1314 : Cond.code yX4_isAhead prog_6_method_19_code 4 (Option.some Jvm.ClassFile.FieldType.boolean) ∈ Gw := Gw_of 1314 (by decide +kernel) (by decide +kernel)
theorem g1315 : Cond.methodLink "PledgeHouseLaw" 192 yX4_changeRate ∈ Gw := Gw_of 1315 (by decide +kernel) (by decide +kernel)
theorem g1316 : Cond.instanceMethod yX4_changeRate ∈ Gw := Gw_of 1316 (by decide +kernel) (by decide +kernel)
theorem g1317 : Cond.selects "PledgeHouseModel" yX4_changeRate yX4_changeRate ∈ Gw := Gw_of 1317 (by decide +kernel) (by decide +kernel)
theorem g1318 : Cond.code yX4_changeRate prog_6_method_46_code 2 (Option.some Jvm.ClassFile.FieldType.int) ∈ Gw := Gw_of 1318 (by decide +kernel) (by decide +kernel)
theorem g1319 : Cond.methodLink "PledgeHouseModel" 134 yX4_rules ∈ Gw := Gw_of 1319 (by decide +kernel) (by decide +kernel)
theorem g1321 : Cond.instanceMethod yX4_rules ∈ Gw := Gw_of 1321 (by decide +kernel) (by decide +kernel)
theorem g1322 : Cond.code yX4_rules prog_6_method_45_code 6 (Option.some Jvm.ClassFile.FieldType.int) ∈ Gw := Gw_of 1322 (by decide +kernel) (by decide +kernel)
theorem g1323 : Cond.methodLink "PledgeHouseLaw" 195 yX4_changeGrace ∈ Gw := Gw_of 1323 (by decide +kernel) (by decide +kernel)
theorem g1324 : Cond.instanceMethod yX4_changeGrace ∈ Gw := Gw_of 1324 (by decide +kernel) (by decide +kernel)
theorem g1325 : Cond.selects "PledgeHouseModel" yX4_changeGrace yX4_changeGrace ∈ Gw := Gw_of 1325 (by decide +kernel) (by decide +kernel)
theorem g1326 : Cond.code yX4_changeGrace prog_6_method_47_code 2 (Option.some Jvm.ClassFile.FieldType.int) ∈ Gw := Gw_of 1326 (by decide +kernel) (by decide +kernel)
theorem g1327 : Cond.methodLink "PledgeHouseLaw" 198 yX4_changeSlip ∈ Gw := Gw_of 1327 (by decide +kernel) (by decide +kernel)
theorem g1328 : Cond.instanceMethod yX4_changeSlip ∈ Gw := Gw_of 1328 (by decide +kernel) (by decide +kernel)
theorem g1329 : Cond.selects "PledgeHouseModel" yX4_changeSlip yX4_changeSlip ∈ Gw := Gw_of 1329 (by decide +kernel) (by decide +kernel)
theorem g1330 : Cond.code yX4_changeSlip prog_6_method_48_code 2 (Option.some Jvm.ClassFile.FieldType.int) ∈ Gw := Gw_of 1330 (by decide +kernel) (by decide +kernel)
theorem g1331 : Cond.methodLink "PledgeHouseLaw" 202 yX4_turnOrder ∈ Gw := Gw_of 1331 (by decide +kernel) (by decide +kernel)
theorem g1332 : Cond.instanceMethod yX4_turnOrder ∈ Gw := Gw_of 1332 (by decide +kernel) (by decide +kernel)
theorem g1333 : Cond.selects "PledgeHouseModel" yX4_turnOrder yX4_turnOrder ∈ Gw := Gw_of 1333 (by decide +kernel) (by decide +kernel)
theorem g1334 : Cond.code yX4_turnOrder prog_6_method_49_code 1 (Option.some Jvm.ClassFile.FieldType.int) ∈ Gw := Gw_of 1334 (by decide +kernel) (by decide +kernel)
theorem g1335 : Cond.methodLink "PledgeHouseLaw" 205 yX4_append ∈ Gw := Gw_of 1335 (by decide +kernel) (by decide +kernel)
theorem g1336 : Cond.instanceMethod yX4_append ∈ Gw := Gw_of 1336 (by decide +kernel) (by decide +kernel)
theorem g1337 : Cond.selects "PledgeHouseModel" yX4_append yX4_append ∈ Gw := Gw_of 1337 (by decide +kernel) (by decide +kernel)
theorem g1338 : Cond.code yX4_append prog_6_method_50_code 2 (Option.some Jvm.ClassFile.FieldType.int) ∈ Gw := Gw_of 1338 (by decide +kernel) (by decide +kernel)
theorem g1339 : Cond.methodLink "PledgeHouseLaw" 209 yX4_clearBuffer ∈ Gw := Gw_of 1339 (by decide +kernel) (by decide +kernel)
theorem g1340 : Cond.instanceMethod yX4_clearBuffer ∈ Gw := Gw_of 1340 (by decide +kernel) (by decide +kernel)
theorem g1341 : Cond.selects "PledgeHouseModel" yX4_clearBuffer yX4_clearBuffer ∈ Gw := Gw_of 1341 (by decide +kernel) (by decide +kernel)
theorem g1342 : Cond.code yX4_clearBuffer prog_6_method_51_code 2 (Option.some Jvm.ClassFile.FieldType.int) ∈ Gw := Gw_of 1342 (by decide +kernel) (by decide +kernel)
theorem g1343 : Cond.methodLink "PledgeHouseLaw" 213 yX4_firstError ∈ Gw := Gw_of 1343 (by decide +kernel) (by decide +kernel)
theorem g1344 : Cond.instanceMethod yX4_firstError ∈ Gw := Gw_of 1344 (by decide +kernel) (by decide +kernel)
theorem g1345 : Cond.selects "PledgeHouseModel" yX4_firstError yX4_firstError ∈ Gw := Gw_of 1345 (by decide +kernel) (by decide +kernel)
theorem g1346 : Cond.code yX4_firstError prog_6_method_57_code 2 (Option.some Jvm.ClassFile.FieldType.int) ∈ Gw := Gw_of 1346 (by decide +kernel) (by decide +kernel)
theorem g1347 : Cond.methodLink "PledgeHouseModel" 161 yX4_go ∈ Gw := Gw_of 1347 (by decide +kernel) (by decide +kernel)
theorem g1349 : Cond.instanceMethod yX4_go ∈ Gw := Gw_of 1349 (by decide +kernel) (by decide +kernel)
theorem g1350 : Cond.code yX4_go prog_6_method_56_code 4 (Option.some Jvm.ClassFile.FieldType.boolean) ∈ Gw := Gw_of 1350 (by decide +kernel) (by decide +kernel)
theorem g1351 : Cond.methodLink "PledgeHouseModel" 157 yX4_isOrdered ∈ Gw := Gw_of 1351 (by decide +kernel) (by decide +kernel)
theorem g1353 : Cond.instanceMethod yX4_isOrdered ∈ Gw := Gw_of 1353 (by decide +kernel) (by decide +kernel)
theorem g1354 : Cond.code yX4_isOrdered prog_6_method_54_code 9 (Option.some Jvm.ClassFile.FieldType.boolean) ∈ Gw := Gw_of 1354 (by decide +kernel) (by decide +kernel)
theorem g1355 : Cond.methodLink "PledgeHouseModel" 147 yX4_sign ∈ Gw := Gw_of 1355 (by decide +kernel) (by decide +kernel)
theorem g1357 : Cond.instanceMethod yX4_sign ∈ Gw := Gw_of 1357 (by decide +kernel) (by decide +kernel)
theorem g1358 : Cond.code yX4_sign prog_6_method_52_code 4 (Option.some Jvm.ClassFile.FieldType.int) ∈ Gw := Gw_of 1358 (by decide +kernel) (by decide +kernel)
theorem g1359 : Cond.methodLink "PledgeHouseModel" 150 yX4_number ∈ Gw := Gw_of 1359 (by decide +kernel) (by decide +kernel)
theorem g1361 : Cond.instanceMethod yX4_number ∈ Gw := Gw_of 1361 (by decide +kernel) (by decide +kernel)
theorem g1362 : Cond.code yX4_number prog_6_method_53_code 4 (Option.some Jvm.ClassFile.FieldType.int) ∈ Gw := Gw_of 1362 (by decide +kernel) (by decide +kernel)
theorem g1363 : Cond.methodLink "PledgeHouseModel" 153 yX4_isFollowed ∈ Gw := Gw_of 1363 (by decide +kernel) (by decide +kernel)
theorem g1365 : Cond.instanceMethod yX4_isFollowed ∈ Gw := Gw_of 1365 (by decide +kernel) (by decide +kernel)
theorem g1366 : Cond.code yX4_isFollowed prog_6_method_55_code 7 (Option.some Jvm.ClassFile.FieldType.boolean) ∈ Gw := Gw_of 1366 (by decide +kernel) (by decide +kernel)
theorem g1367 : Cond.methodLink "PledgeHouseLaw" 217 yX4_follow ∈ Gw := Gw_of 1367 (by decide +kernel) (by decide +kernel)
theorem g1368 : Cond.instanceMethod yX4_follow ∈ Gw := Gw_of 1368 (by decide +kernel) (by decide +kernel)
theorem g1369 : Cond.selects "PledgeHouseModel" yX4_follow yX4_follow ∈ Gw := Gw_of 1369 (by decide +kernel) (by decide +kernel)
theorem g1370 : Cond.code yX4_follow prog_6_method_58_code 2 (Option.some Jvm.ClassFile.FieldType.int) ∈ Gw := Gw_of 1370 (by decide +kernel) (by decide +kernel)
theorem g1371 : Cond.methodLink "PledgeHouseModel" 164 yX4_keepsAside ∈ Gw := Gw_of 1371 (by decide +kernel) (by decide +kernel)
theorem g1373 : Cond.instanceMethod yX4_keepsAside ∈ Gw := Gw_of 1373 (by decide +kernel) (by decide +kernel)
theorem g1374 : Cond.code yX4_keepsAside prog_6_method_8_code 2 (Option.none : Option Jvm.ClassFile.FieldType) ∈ Gw := Gw_of 1374 (by decide +kernel) (by decide +kernel)
theorem g1375 : Cond.methodLink "PledgeHouseModel" 167 yX4_putsBack ∈ Gw := Gw_of 1375 (by decide +kernel) (by decide +kernel)
theorem g1377 : Cond.instanceMethod yX4_putsBack ∈ Gw := Gw_of 1377 (by decide +kernel) (by decide +kernel)
theorem g1378 : Cond.code yX4_putsBack prog_6_method_9_code 2 (Option.none : Option Jvm.ClassFile.FieldType) ∈ Gw := Gw_of 1378 (by decide +kernel) (by decide +kernel)
theorem g1379 : Cond.methodLink "PledgeHouseModel" 170 yX4_allCalled ∈ Gw := Gw_of 1379 (by decide +kernel) (by decide +kernel)
theorem g1381 : Cond.instanceMethod yX4_allCalled ∈ Gw := Gw_of 1381 (by decide +kernel) (by decide +kernel)
theorem g1382 : Cond.code yX4_allCalled prog_6_method_86_code 3 (Option.some Jvm.ClassFile.FieldType.int) ∈ Gw := Gw_of 1382 (by decide +kernel) (by decide +kernel)
theorem g1383 : Cond.methodLink "PledgeHouseLaw" 220 yX4_keep ∈ Gw := Gw_of 1383 (by decide +kernel) (by decide +kernel)
theorem g1384 : Cond.instanceMethod yX4_keep ∈ Gw := Gw_of 1384 (by decide +kernel) (by decide +kernel)
theorem g1385 : Cond.selects "PledgeHouseModel" yX4_keep yX4_keep ∈ Gw := Gw_of 1385 (by decide +kernel) (by decide +kernel)
theorem g1386 : Cond.code yX4_keep prog_6_method_59_code 3 (Option.none : Option Jvm.ClassFile.FieldType) ∈ Gw := Gw_of 1386 (by decide +kernel) (by decide +kernel)
theorem g1387 : Cond.methodLink "PledgeHouseLaw" 223 yX4_goBack ∈ Gw := Gw_of 1387 (by decide +kernel) (by decide +kernel)
theorem g1388 : Cond.instanceMethod yX4_goBack ∈ Gw := Gw_of 1388 (by decide +kernel) (by decide +kernel)
theorem g1389 : Cond.selects "PledgeHouseModel" yX4_goBack yX4_goBack ∈ Gw := Gw_of 1389 (by decide +kernel) (by decide +kernel)
theorem g1390 : Cond.code yX4_goBack prog_6_method_60_code 3 (Option.none : Option Jvm.ClassFile.FieldType) ∈ Gw := Gw_of 1390 (by decide +kernel) (by decide +kernel)
theorem g1391 : Cond.methodLink "PledgeHouseLaw" 227 yX4_undo ∈ Gw := Gw_of 1391 (by decide +kernel) (by decide +kernel)
theorem g1392 : Cond.instanceMethod yX4_undo ∈ Gw := Gw_of 1392 (by decide +kernel) (by decide +kernel)
theorem g1393 : Cond.selects "PledgeHouseModel" yX4_undo yX4_undo ∈ Gw := Gw_of 1393 (by decide +kernel) (by decide +kernel)
theorem g1394 : Cond.code yX4_undo prog_6_method_61_code 2 (Option.none : Option Jvm.ClassFile.FieldType) ∈ Gw := Gw_of 1394 (by decide +kernel) (by decide +kernel)
theorem g1395 : Cond.methodLink "PledgeHouseLaw" 231 yX4_savedStates ∈ Gw := Gw_of 1395 (by decide +kernel) (by decide +kernel)
theorem g1396 : Cond.instanceMethod yX4_savedStates ∈ Gw := Gw_of 1396 (by decide +kernel) (by decide +kernel)
theorem g1397 : Cond.selects "PledgeHouseModel" yX4_savedStates yX4_savedStates ∈ Gw := Gw_of 1397 (by decide +kernel) (by decide +kernel)
theorem g1398 : Cond.code yX4_savedStates prog_6_method_62_code 1 (Option.some Jvm.ClassFile.FieldType.int) ∈ Gw := Gw_of 1398 (by decide +kernel) (by decide +kernel)
theorem g1399 : Cond.methodLink "PledgeHouseLaw" 234 yX4_priceOf ∈ Gw := Gw_of 1399 (by decide +kernel) (by decide +kernel)
theorem g1400 : Cond.instanceMethod yX4_priceOf ∈ Gw := Gw_of 1400 (by decide +kernel) (by decide +kernel)
theorem g1401 : Cond.selects "PledgeHouseModel" yX4_priceOf yX4_priceOf ∈ Gw := Gw_of 1401 (by decide +kernel) (by decide +kernel)
theorem g1402 : Cond.code yX4_priceOf prog_6_method_64_code 2 (Option.some Jvm.ClassFile.FieldType.int) ∈ Gw := Gw_of 1402 (by decide +kernel) (by decide +kernel)
theorem g1403 : Cond.methodLink "PledgeHouseModel" 173 yX4_told ∈ Gw := Gw_of 1403 (by decide +kernel) (by decide +kernel)
theorem g1405 : Cond.instanceMethod yX4_told ∈ Gw := Gw_of 1405 (by decide +kernel) (by decide +kernel)
theorem g1406 : Cond.code yX4_told prog_6_method_63_code 3 (Option.some Jvm.ClassFile.FieldType.int) ∈ Gw := Gw_of 1406 (by decide +kernel) (by decide +kernel)
theorem g1407 : Cond.methodLink "PledgeHouseLaw" 237 yX4_cutOf ∈ Gw := Gw_of 1407 (by decide +kernel) (by decide +kernel)
theorem g1408 : Cond.instanceMethod yX4_cutOf ∈ Gw := Gw_of 1408 (by decide +kernel) (by decide +kernel)
theorem g1409 : Cond.selects "PledgeHouseModel" yX4_cutOf yX4_cutOf ∈ Gw := Gw_of 1409 (by decide +kernel) (by decide +kernel)
theorem g1410 : Cond.code yX4_cutOf prog_6_method_65_code 2 (Option.some Jvm.ClassFile.FieldType.int) ∈ Gw := Gw_of 1410 (by decide +kernel) (by decide +kernel)
theorem g1411 : Cond.methodLink "PledgeHouseLaw" 240 yX4_pledgedOf ∈ Gw := Gw_of 1411 (by decide +kernel) (by decide +kernel)
theorem g1412 : Cond.instanceMethod yX4_pledgedOf ∈ Gw := Gw_of 1412 (by decide +kernel) (by decide +kernel)
theorem g1413 : Cond.selects "PledgeHouseModel" yX4_pledgedOf yX4_pledgedOf ∈ Gw := Gw_of 1413 (by decide +kernel) (by decide +kernel)
theorem g1414 : Cond.code yX4_pledgedOf prog_6_method_67_code 2 (Option.some Jvm.ClassFile.FieldType.int) ∈ Gw := Gw_of 1414 (by decide +kernel) (by decide +kernel)
theorem g1415 : Cond.methodLink "PledgeHouseModel" 176 yX4_pledged ∈ Gw := Gw_of 1415 (by decide +kernel) (by decide +kernel)
theorem g1417 : Cond.instanceMethod yX4_pledged ∈ Gw := Gw_of 1417 (by decide +kernel) (by decide +kernel)
theorem g1418 : Cond.code yX4_pledged prog_6_method_66_code 4 (Option.some Jvm.ClassFile.FieldType.int) ∈ Gw := Gw_of 1418 (by decide +kernel) (by decide +kernel)
theorem g1419 : Cond.methodLink "PledgeHouseLaw" 243 yX4_soldOf ∈ Gw := Gw_of 1419 (by decide +kernel) (by decide +kernel)
theorem g1420 : Cond.instanceMethod yX4_soldOf ∈ Gw := Gw_of 1420 (by decide +kernel) (by decide +kernel)
theorem g1421 : Cond.selects "PledgeHouseModel" yX4_soldOf yX4_soldOf ∈ Gw := Gw_of 1421 (by decide +kernel) (by decide +kernel)
theorem g1422 : Cond.code yX4_soldOf prog_6_method_68_code 2 (Option.some Jvm.ClassFile.FieldType.int) ∈ Gw := Gw_of 1422 (by decide +kernel) (by decide +kernel)
theorem g1423 : Cond.methodLink "PledgeHouseLaw" 246 yX4_piecesOf ∈ Gw := Gw_of 1423 (by decide +kernel) (by decide +kernel)
theorem g1424 : Cond.instanceMethod yX4_piecesOf ∈ Gw := Gw_of 1424 (by decide +kernel) (by decide +kernel)
theorem g1425 : Cond.selects "PledgeHouseModel" yX4_piecesOf yX4_piecesOf ∈ Gw := Gw_of 1425 (by decide +kernel) (by decide +kernel)
theorem g1426 : Cond.code yX4_piecesOf prog_6_method_69_code 3 (Option.some Jvm.ClassFile.FieldType.int) ∈ Gw := Gw_of 1426 (by decide +kernel) (by decide +kernel)
theorem g1427 : Cond.methodLink "PledgeHouseLaw" 249 yX4_coinsOf ∈ Gw := Gw_of 1427 (by decide +kernel) (by decide +kernel)
theorem g1428 : Cond.instanceMethod yX4_coinsOf ∈ Gw := Gw_of 1428 (by decide +kernel) (by decide +kernel)
theorem g1429 : Cond.selects "PledgeHouseModel" yX4_coinsOf yX4_coinsOf ∈ Gw := Gw_of 1429 (by decide +kernel) (by decide +kernel)
theorem g1430 : Cond.code yX4_coinsOf prog_6_method_70_code 2 (Option.some Jvm.ClassFile.FieldType.int) ∈ Gw := Gw_of 1430 (by decide +kernel) (by decide +kernel)
theorem g1431 : Cond.methodLink "PledgeHouseLaw" 252 yX4_debtOf ∈ Gw := Gw_of 1431 (by decide +kernel) (by decide +kernel)
theorem g1432 : Cond.instanceMethod yX4_debtOf ∈ Gw := Gw_of 1432 (by decide +kernel) (by decide +kernel)
theorem g1433 : Cond.selects "PledgeHouseModel" yX4_debtOf yX4_debtOf ∈ Gw := Gw_of 1433 (by decide +kernel) (by decide +kernel)
theorem g1434 : Cond.code yX4_debtOf prog_6_method_71_code 2 (Option.some Jvm.ClassFile.FieldType.int) ∈ Gw := Gw_of 1434 (by decide +kernel) (by decide +kernel)
theorem g1435 : Cond.methodLink "PledgeHouseLaw" 255 yX4_worthOf ∈ Gw := Gw_of 1435 (by decide +kernel) (by decide +kernel)
theorem g1436 : Cond.instanceMethod yX4_worthOf ∈ Gw := Gw_of 1436 (by decide +kernel) (by decide +kernel)
theorem g1437 : Cond.selects "PledgeHouseModel" yX4_worthOf yX4_worthOf ∈ Gw := Gw_of 1437 (by decide +kernel) (by decide +kernel)
theorem g1438 : Cond.code yX4_worthOf prog_6_method_73_code 2 (Option.some Jvm.ClassFile.FieldType.int) ∈ Gw := Gw_of 1438 (by decide +kernel) (by decide +kernel)
theorem g1439 : Cond.methodLink "PledgeHouseModel" 179 yX4_worth ∈ Gw := Gw_of 1439 (by decide +kernel) (by decide +kernel)
theorem g1441 : Cond.instanceMethod yX4_worth ∈ Gw := Gw_of 1441 (by decide +kernel) (by decide +kernel)
theorem g1442 : Cond.code yX4_worth prog_6_method_72_code 4 (Option.some Jvm.ClassFile.FieldType.int) ∈ Gw := Gw_of 1442 (by decide +kernel) (by decide +kernel)
theorem g1443 : Cond.methodLink "PledgeHouseLaw" 258 yX4_coverOf ∈ Gw := Gw_of 1443 (by decide +kernel) (by decide +kernel)
theorem g1444 : Cond.instanceMethod yX4_coverOf ∈ Gw := Gw_of 1444 (by decide +kernel) (by decide +kernel)
theorem g1445 : Cond.selects "PledgeHouseModel" yX4_coverOf yX4_coverOf ∈ Gw := Gw_of 1445 (by decide +kernel) (by decide +kernel)
theorem g1446 : Cond.code yX4_coverOf prog_6_method_74_code 2 (Option.some Jvm.ClassFile.FieldType.int) ∈ Gw := Gw_of 1446 (by decide +kernel) (by decide +kernel)
theorem g1447 : Cond.methodLink "PledgeHouseLaw" 261 yX4_roomOf ∈ Gw := Gw_of 1447 (by decide +kernel) (by decide +kernel)
theorem g1448 : Cond.instanceMethod yX4_roomOf ∈ Gw := Gw_of 1448 (by decide +kernel) (by decide +kernel)
theorem g1449 : Cond.selects "PledgeHouseModel" yX4_roomOf yX4_roomOf ∈ Gw := Gw_of 1449 (by decide +kernel) (by decide +kernel)
theorem g1450 : Cond.code yX4_roomOf prog_6_method_76_code 2 (Option.some Jvm.ClassFile.FieldType.int) ∈ Gw := Gw_of 1450 (by decide +kernel) (by decide +kernel)
theorem g1451 : Cond.methodLink "PledgeHouseModel" 182 yX4_room ∈ Gw := Gw_of 1451 (by decide +kernel) (by decide +kernel)
theorem g1453 : Cond.instanceMethod yX4_room ∈ Gw := Gw_of 1453 (by decide +kernel) (by decide +kernel)
theorem g1454 : Cond.code yX4_room prog_6_method_75_code 3 (Option.some Jvm.ClassFile.FieldType.int) ∈ Gw := Gw_of 1454 (by decide +kernel) (by decide +kernel)
theorem g1455 : Cond.methodLink "PledgeHouseLaw" 264 yX4_isCalled ∈ Gw := Gw_of 1455 (by decide +kernel) (by decide +kernel)
theorem g1456 : Cond.instanceMethod yX4_isCalled ∈ Gw := Gw_of 1456 (by decide +kernel) (by decide +kernel)
theorem g1457 : Cond.selects "PledgeHouseModel" yX4_isCalled yX4_isCalled ∈ Gw := Gw_of 1457 (by decide +kernel) (by decide +kernel)
theorem g1458 : Cond.code yX4_isCalled prog_6_method_77_code 2 (Option.some Jvm.ClassFile.FieldType.boolean) ∈ Gw := Gw_of 1458 (by decide +kernel) (by decide +kernel)
theorem g1459 : Cond.methodLink "PledgeHouseLaw" 267 yX4_hoursLeft ∈ Gw := Gw_of 1459 (by decide +kernel) (by decide +kernel)
theorem g1460 : Cond.instanceMethod yX4_hoursLeft ∈ Gw := Gw_of 1460 (by decide +kernel) (by decide +kernel)
theorem g1461 : Cond.selects "PledgeHouseModel" yX4_hoursLeft yX4_hoursLeft ∈ Gw := Gw_of 1461 (by decide +kernel) (by decide +kernel)
theorem g1462 : Cond.code yX4_hoursLeft prog_6_method_78_code 2 (Option.some Jvm.ClassFile.FieldType.int) ∈ Gw := Gw_of 1462 (by decide +kernel) (by decide +kernel)
theorem g1463 : Cond.methodLink "PledgeHouseLaw" 270 yX4_isBarred ∈ Gw := Gw_of 1463 (by decide +kernel) (by decide +kernel)
theorem g1464 : Cond.instanceMethod yX4_isBarred ∈ Gw := Gw_of 1464 (by decide +kernel) (by decide +kernel)
theorem g1465 : Cond.selects "PledgeHouseModel" yX4_isBarred yX4_isBarred ∈ Gw := Gw_of 1465 (by decide +kernel) (by decide +kernel)
theorem g1466 : Cond.code yX4_isBarred prog_6_method_79_code 2 (Option.some Jvm.ClassFile.FieldType.boolean) ∈ Gw := Gw_of 1466 (by decide +kernel) (by decide +kernel)
theorem g1467 : Cond.methodLink "PledgeHouseLaw" 273 yX4_rankOf ∈ Gw := Gw_of 1467 (by decide +kernel) (by decide +kernel)
theorem g1468 : Cond.instanceMethod yX4_rankOf ∈ Gw := Gw_of 1468 (by decide +kernel) (by decide +kernel)
theorem g1469 : Cond.selects "PledgeHouseModel" yX4_rankOf yX4_rankOf ∈ Gw := Gw_of 1469 (by decide +kernel) (by decide +kernel)
theorem g1470 : Cond.code yX4_rankOf prog_6_method_83_code 2 (Option.some Jvm.ClassFile.FieldType.int) ∈ Gw := Gw_of 1470 (by decide +kernel) (by decide +kernel)
theorem g1471 : Cond.methodLink "PledgeHouseModel" 188 yX4_rank ∈ Gw := Gw_of 1471 (by decide +kernel) (by decide +kernel)
theorem g1473 : Cond.instanceMethod yX4_rank ∈ Gw := Gw_of 1473 (by decide +kernel) (by decide +kernel)
theorem g1474 : Cond.code yX4_rank prog_6_method_81_code 4 (Option.some Jvm.ClassFile.FieldType.int) ∈ Gw := Gw_of 1474 (by decide +kernel) (by decide +kernel)
theorem g1475 : Cond.methodLink "PledgeHouseModel" 185 yX4_isRiskier ∈ Gw := Gw_of 1475 (by decide +kernel) (by decide +kernel)
theorem g1477 : Cond.instanceMethod yX4_isRiskier ∈ Gw := Gw_of 1477 (by decide +kernel) (by decide +kernel)
theorem g1478 : Cond.code yX4_isRiskier prog_6_method_80_code 7 (Option.some Jvm.ClassFile.FieldType.boolean) ∈ Gw := Gw_of 1478 (by decide +kernel) (by decide +kernel)
theorem g1479 : Cond.methodLink "PledgeHouseLaw" 276 yX4_riskyBySorting ∈ Gw := Gw_of 1479 (by decide +kernel) (by decide +kernel)
theorem g1480 : Cond.instanceMethod yX4_riskyBySorting ∈ Gw := Gw_of 1480 (by decide +kernel) (by decide +kernel)
theorem g1481 : Cond.selects "PledgeHouseModel" yX4_riskyBySorting yX4_riskyBySorting ∈ Gw := Gw_of 1481 (by decide +kernel) (by decide +kernel)
theorem g1482 : Cond.code yX4_riskyBySorting prog_6_method_84_code 2 (Option.some Jvm.ClassFile.FieldType.int) ∈ Gw := Gw_of 1482 (by decide +kernel) (by decide +kernel)
theorem g1483 : Cond.methodLink "PledgeHouseModel" 191 yX4_risky ∈ Gw := Gw_of 1483 (by decide +kernel) (by decide +kernel)
theorem g1485 : Cond.instanceMethod yX4_risky ∈ Gw := Gw_of 1485 (by decide +kernel) (by decide +kernel)
theorem g1486 : Cond.code yX4_risky prog_6_method_82_code 4 (Option.some Jvm.ClassFile.FieldType.int) ∈ Gw := Gw_of 1486 (by decide +kernel) (by decide +kernel)
theorem g1487 : Cond.methodLink "PledgeHouseLaw" 279 yX4_riskyByTaking ∈ Gw := Gw_of 1487 (by decide +kernel) (by decide +kernel)
theorem g1488 : Cond.instanceMethod yX4_riskyByTaking ∈ Gw := Gw_of 1488 (by decide +kernel) (by decide +kernel)
theorem g1489 : Cond.selects "PledgeHouseModel" yX4_riskyByTaking yX4_riskyByTaking ∈ Gw := Gw_of 1489 (by decide +kernel) (by decide +kernel)
theorem g1490 : Cond.code yX4_riskyByTaking prog_6_method_85_code 2 (Option.some Jvm.ClassFile.FieldType.int) ∈ Gw := Gw_of 1490 (by decide +kernel) (by decide +kernel)
theorem g1491 : Cond.methodLink "PledgeHouseLaw" 283 yX4_calledNow ∈ Gw := Gw_of 1491 (by decide +kernel) (by decide +kernel)
theorem g1492 : Cond.instanceMethod yX4_calledNow ∈ Gw := Gw_of 1492 (by decide +kernel) (by decide +kernel)
theorem g1493 : Cond.selects "PledgeHouseModel" yX4_calledNow yX4_calledNow ∈ Gw := Gw_of 1493 (by decide +kernel) (by decide +kernel)
theorem g1494 : Cond.code yX4_calledNow prog_6_method_87_code 1 (Option.some Jvm.ClassFile.FieldType.int) ∈ Gw := Gw_of 1494 (by decide +kernel) (by decide +kernel)
theorem g1495 : Cond.methodLink "PledgeHouseLaw" 287 yX4_rate ∈ Gw := Gw_of 1495 (by decide +kernel) (by decide +kernel)
theorem g1496 : Cond.instanceMethod yX4_rate ∈ Gw := Gw_of 1496 (by decide +kernel) (by decide +kernel)
theorem g1497 : Cond.selects "PledgeHouseModel" yX4_rate yX4_rate ∈ Gw := Gw_of 1497 (by decide +kernel) (by decide +kernel)
theorem g1498 : Cond.code yX4_rate prog_6_method_89_code 1 (Option.some Jvm.ClassFile.FieldType.int) ∈ Gw := Gw_of 1498 (by decide +kernel) (by decide +kernel)
theorem g1499 : Cond.methodLink "PledgeHouseModel" 194 yX4_rule ∈ Gw := Gw_of 1499 (by decide +kernel) (by decide +kernel)
theorem g1501 : Cond.instanceMethod yX4_rule ∈ Gw := Gw_of 1501 (by decide +kernel) (by decide +kernel)
theorem g1502 : Cond.code yX4_rule prog_6_method_88_code 2 (Option.some Jvm.ClassFile.FieldType.int) ∈ Gw := Gw_of 1502 (by decide +kernel) (by decide +kernel)
theorem g1503 : Cond.methodLink "PledgeHouseLaw" 291 yX4_grace ∈ Gw := Gw_of 1503 (by decide +kernel) (by decide +kernel)
theorem g1504 : Cond.instanceMethod yX4_grace ∈ Gw := Gw_of 1504 (by decide +kernel) (by decide +kernel)
theorem g1505 : Cond.selects "PledgeHouseModel" yX4_grace yX4_grace ∈ Gw := Gw_of 1505 (by decide +kernel) (by decide +kernel)
theorem g1506 : Cond.code yX4_grace prog_6_method_90_code 1 (Option.some Jvm.ClassFile.FieldType.int) ∈ Gw := Gw_of 1506 (by decide +kernel) (by decide +kernel)
theorem g1507 : Cond.methodLink "PledgeHouseLaw" 295 yX4_slip ∈ Gw := Gw_of 1507 (by decide +kernel) (by decide +kernel)
theorem g1508 : Cond.instanceMethod yX4_slip ∈ Gw := Gw_of 1508 (by decide +kernel) (by decide +kernel)
theorem g1509 : Cond.selects "PledgeHouseModel" yX4_slip yX4_slip ∈ Gw := Gw_of 1509 (by decide +kernel) (by decide +kernel)
theorem g1510 : Cond.code yX4_slip prog_6_method_91_code 1 (Option.some Jvm.ClassFile.FieldType.int) ∈ Gw := Gw_of 1510 (by decide +kernel) (by decide +kernel)
theorem g1511 : Cond.methodLink "PledgeHouseLaw" 299 yX4_order ∈ Gw := Gw_of 1511 (by decide +kernel) (by decide +kernel)
theorem g1512 : Cond.instanceMethod yX4_order ∈ Gw := Gw_of 1512 (by decide +kernel) (by decide +kernel)
theorem g1513 : Cond.selects "PledgeHouseModel" yX4_order yX4_order ∈ Gw := Gw_of 1513 (by decide +kernel) (by decide +kernel)
theorem g1514 : Cond.code yX4_order prog_6_method_92_code 1 (Option.some Jvm.ClassFile.FieldType.int) ∈ Gw := Gw_of 1514 (by decide +kernel) (by decide +kernel)
theorem g1515 : Cond.methodLink "PledgeHouseLaw" 302 yX4_fallToCallByTrying ∈ Gw := Gw_of 1515 (by decide +kernel) (by decide +kernel)
theorem g1516 : Cond.instanceMethod yX4_fallToCallByTrying ∈ Gw := Gw_of 1516 (by decide +kernel) (by decide +kernel)
theorem g1517 : Cond.selects "PledgeHouseModel" yX4_fallToCallByTrying yX4_fallToCallByTrying ∈ Gw := Gw_of 1517 (by decide +kernel) (by decide +kernel)
theorem g1518 : Cond.code yX4_fallToCallByTrying prog_6_method_95_code 2 (Option.some Jvm.ClassFile.FieldType.int) ∈ Gw := Gw_of 1518 (by decide +kernel) (by decide +kernel)
theorem g1519 : Cond.methodLink "PledgeHouseModel" 200 yX4_toldFall ∈ Gw := Gw_of 1519 (by decide +kernel) (by decide +kernel)
theorem g1521 : Cond.instanceMethod yX4_toldFall ∈ Gw := Gw_of 1521 (by decide +kernel) (by decide +kernel)
theorem g1522 : Cond.code yX4_toldFall prog_6_method_94_code 3 (Option.some Jvm.ClassFile.FieldType.int) ∈ Gw := Gw_of 1522 (by decide +kernel) (by decide +kernel)
theorem g1523 : Cond.methodLink "PledgeHouseModel" 197 yX4_falling ∈ Gw := Gw_of 1523 (by decide +kernel) (by decide +kernel)
theorem g1525 : Cond.instanceMethod yX4_falling ∈ Gw := Gw_of 1525 (by decide +kernel) (by decide +kernel)
theorem g1526 : Cond.code yX4_falling prog_6_method_93_code 3 (Option.some Jvm.ClassFile.FieldType.int) ∈ Gw := Gw_of 1526 (by decide +kernel) (by decide +kernel)
theorem g1527 : Cond.methodLink "PledgeHouseLaw" 305 yX4_fallToCallByHalving ∈ Gw := Gw_of 1527 (by decide +kernel) (by decide +kernel)
theorem g1528 : Cond.instanceMethod yX4_fallToCallByHalving ∈ Gw := Gw_of 1528 (by decide +kernel) (by decide +kernel)
theorem g1529 : Cond.selects "PledgeHouseModel" yX4_fallToCallByHalving yX4_fallToCallByHalving ∈ Gw := Gw_of 1529 (by decide +kernel) (by decide +kernel)
theorem g1530 : Cond.code yX4_fallToCallByHalving prog_6_method_96_code 2 (Option.some Jvm.ClassFile.FieldType.int) ∈ Gw := Gw_of 1530 (by decide +kernel) (by decide +kernel)
theorem g1531 : Cond.methodLink "PledgeHouseLaw" 308 yX4_hoursToCall ∈ Gw := Gw_of 1531 (by decide +kernel) (by decide +kernel)
theorem g1532 : Cond.instanceMethod yX4_hoursToCall ∈ Gw := Gw_of 1532 (by decide +kernel) (by decide +kernel)
theorem g1533 : Cond.selects "PledgeHouseModel" yX4_hoursToCall yX4_hoursToCall ∈ Gw := Gw_of 1533 (by decide +kernel) (by decide +kernel)
theorem g1534 : Cond.code yX4_hoursToCall prog_6_method_97_code 5 (Option.some Jvm.ClassFile.FieldType.int) ∈ Gw := Gw_of 1534 (by decide +kernel) (by decide +kernel)
theorem g1535 : Cond.methodLink "PledgeHouseLaw" 311 yX4_wouldSell ∈ Gw := Gw_of 1535 (by decide +kernel) (by decide +kernel)
theorem g1536 : Cond.instanceMethod yX4_wouldSell ∈ Gw := Gw_of 1536 (by decide +kernel) (by decide +kernel)
theorem g1537 : Cond.selects "PledgeHouseModel" yX4_wouldSell yX4_wouldSell ∈ Gw := Gw_of 1537 (by decide +kernel) (by decide +kernel)
theorem g1538 : Cond.code yX4_wouldSell prog_6_method_99_code 2 (Option.some Jvm.ClassFile.FieldType.int) ∈ Gw := Gw_of 1538 (by decide +kernel) (by decide +kernel)
theorem g1539 : Cond.methodLink "PledgeHouseModel" 203 yX4_would ∈ Gw := Gw_of 1539 (by decide +kernel) (by decide +kernel)
theorem g1541 : Cond.instanceMethod yX4_would ∈ Gw := Gw_of 1541 (by decide +kernel) (by decide +kernel)
theorem g1542 : Cond.code yX4_would prog_6_method_98_code 6 (Option.some Jvm.ClassFile.FieldType.int) ∈ Gw := Gw_of 1542 (by decide +kernel) (by decide +kernel)
theorem g1543 : Cond.methodLink "PledgeHouseLaw" 314 yX4_wouldLose ∈ Gw := Gw_of 1543 (by decide +kernel) (by decide +kernel)
theorem g1544 : Cond.instanceMethod yX4_wouldLose ∈ Gw := Gw_of 1544 (by decide +kernel) (by decide +kernel)
theorem g1545 : Cond.selects "PledgeHouseModel" yX4_wouldLose yX4_wouldLose ∈ Gw := Gw_of 1545 (by decide +kernel) (by decide +kernel)
theorem g1546 : Cond.code yX4_wouldLose prog_6_method_100_code 2 (Option.some Jvm.ClassFile.FieldType.int) ∈ Gw := Gw_of 1546 (by decide +kernel) (by decide +kernel)
theorem g1547 : Cond.methodLink "PledgeHouseLaw" 317 yX4_calledIfFallen ∈ Gw := Gw_of 1547 (by decide +kernel) (by decide +kernel)
theorem g1548 : Cond.instanceMethod yX4_calledIfFallen ∈ Gw := Gw_of 1548 (by decide +kernel) (by decide +kernel)
theorem g1549 : Cond.selects "PledgeHouseModel" yX4_calledIfFallen yX4_calledIfFallen ∈ Gw := Gw_of 1549 (by decide +kernel) (by decide +kernel)
theorem g1550 : Cond.code yX4_calledIfFallen prog_6_method_102_code 2 (Option.some Jvm.ClassFile.FieldType.int) ∈ Gw := Gw_of 1550 (by decide +kernel) (by decide +kernel)
theorem g1551 : Cond.methodLink "PledgeHouseModel" 207 yX4_ifFallen ∈ Gw := Gw_of 1551 (by decide +kernel) (by decide +kernel)
theorem g1553 : Cond.instanceMethod yX4_ifFallen ∈ Gw := Gw_of 1553 (by decide +kernel) (by decide +kernel)
theorem g1554 : Cond.code yX4_ifFallen prog_6_method_101_code 4 (Option.some Jvm.ClassFile.FieldType.int) ∈ Gw := Gw_of 1554 (by decide +kernel) (by decide +kernel)
theorem g1555 : Cond.methodLink "PledgeHouseLaw" 321 yX4_hours ∈ Gw := Gw_of 1555 (by decide +kernel) (by decide +kernel)
theorem g1556 : Cond.instanceMethod yX4_hours ∈ Gw := Gw_of 1556 (by decide +kernel) (by decide +kernel)
theorem g1557 : Cond.selects "PledgeHouseModel" yX4_hours yX4_hours ∈ Gw := Gw_of 1557 (by decide +kernel) (by decide +kernel)
theorem g1558 : Cond.code yX4_hours prog_6_method_103_code 1 (Option.some Jvm.ClassFile.FieldType.int) ∈ Gw := Gw_of 1558 (by decide +kernel) (by decide +kernel)
theorem g1559 : Cond.methodLink "PledgeHouseLaw" 325 yX4_debtsByClients ∈ Gw := Gw_of 1559 (by decide +kernel) (by decide +kernel)
theorem g1560 : Cond.instanceMethod yX4_debtsByClients ∈ Gw := Gw_of 1560 (by decide +kernel) (by decide +kernel)
theorem g1561 : Cond.selects "PledgeHouseModel" yX4_debtsByClients yX4_debtsByClients ∈ Gw := Gw_of 1561 (by decide +kernel) (by decide +kernel)
theorem g1562 : Cond.code yX4_debtsByClients prog_6_method_105_code 1 (Option.some Jvm.ClassFile.FieldType.int) ∈ Gw := Gw_of 1562 (by decide +kernel) (by decide +kernel)
theorem g1563 : Cond.methodLink "PledgeHouseModel" 210 yX4_debts ∈ Gw := Gw_of 1563 (by decide +kernel) (by decide +kernel)
theorem g1565 : Cond.instanceMethod yX4_debts ∈ Gw := Gw_of 1565 (by decide +kernel) (by decide +kernel)
theorem g1566 : Cond.code yX4_debts prog_6_method_104_code 3 (Option.some Jvm.ClassFile.FieldType.int) ∈ Gw := Gw_of 1566 (by decide +kernel) (by decide +kernel)
theorem g1567 : Cond.methodLink "PledgeHouseLaw" 329 yX4_debtsByAccount ∈ Gw := Gw_of 1567 (by decide +kernel) (by decide +kernel)
theorem g1568 : Cond.instanceMethod yX4_debtsByAccount ∈ Gw := Gw_of 1568 (by decide +kernel) (by decide +kernel)
theorem g1569 : Cond.selects "PledgeHouseModel" yX4_debtsByAccount yX4_debtsByAccount ∈ Gw := Gw_of 1569 (by decide +kernel) (by decide +kernel)
theorem g1570 : Cond.code yX4_debtsByAccount prog_6_method_106_code 1 (Option.some Jvm.ClassFile.FieldType.int) ∈ Gw := Gw_of 1570 (by decide +kernel) (by decide +kernel)
theorem g1571 : Cond.methodLink "PledgeHouseLaw" 333 yX4_lent ∈ Gw := Gw_of 1571 (by decide +kernel) (by decide +kernel)
theorem g1572 : Cond.instanceMethod yX4_lent ∈ Gw := Gw_of 1572 (by decide +kernel) (by decide +kernel)
theorem g1573 : Cond.selects "PledgeHouseModel" yX4_lent yX4_lent ∈ Gw := Gw_of 1573 (by decide +kernel) (by decide +kernel)
theorem g1574 : Cond.code yX4_lent prog_6_method_107_code 1 (Option.some Jvm.ClassFile.FieldType.int) ∈ Gw := Gw_of 1574 (by decide +kernel) (by decide +kernel)
theorem g1575 : Cond.methodLink "PledgeHouseLaw" 337 yX4_interest ∈ Gw := Gw_of 1575 (by decide +kernel) (by decide +kernel)
theorem g1576 : Cond.instanceMethod yX4_interest ∈ Gw := Gw_of 1576 (by decide +kernel) (by decide +kernel)
theorem g1577 : Cond.selects "PledgeHouseModel" yX4_interest yX4_interest ∈ Gw := Gw_of 1577 (by decide +kernel) (by decide +kernel)
theorem g1578 : Cond.code yX4_interest prog_6_method_108_code 1 (Option.some Jvm.ClassFile.FieldType.int) ∈ Gw := Gw_of 1578 (by decide +kernel) (by decide +kernel)
theorem g1579 : Cond.methodLink "PledgeHouseLaw" 341 yX4_repaid ∈ Gw := Gw_of 1579 (by decide +kernel) (by decide +kernel)
theorem g1580 : Cond.instanceMethod yX4_repaid ∈ Gw := Gw_of 1580 (by decide +kernel) (by decide +kernel)
theorem g1581 : Cond.selects "PledgeHouseModel" yX4_repaid yX4_repaid ∈ Gw := Gw_of 1581 (by decide +kernel) (by decide +kernel)
theorem g1582 : Cond.code yX4_repaid prog_6_method_109_code 1 (Option.some Jvm.ClassFile.FieldType.int) ∈ Gw := Gw_of 1582 (by decide +kernel) (by decide +kernel)
theorem g1583 : Cond.methodLink "PledgeHouseLaw" 345 yX4_lost ∈ Gw := Gw_of 1583 (by decide +kernel) (by decide +kernel)
theorem g1584 : Cond.instanceMethod yX4_lost ∈ Gw := Gw_of 1584 (by decide +kernel) (by decide +kernel)
theorem g1585 : Cond.selects "PledgeHouseModel" yX4_lost yX4_lost ∈ Gw := Gw_of 1585 (by decide +kernel) (by decide +kernel)
theorem g1586 : Cond.code yX4_lost prog_6_method_110_code 1 (Option.some Jvm.ClassFile.FieldType.int) ∈ Gw := Gw_of 1586 (by decide +kernel) (by decide +kernel)
theorem g1587 : Cond.methodLink "PledgeHouseLaw" 349 yX4_calls ∈ Gw := Gw_of 1587 (by decide +kernel) (by decide +kernel)
theorem g1588 : Cond.instanceMethod yX4_calls ∈ Gw := Gw_of 1588 (by decide +kernel) (by decide +kernel)
theorem g1589 : Cond.selects "PledgeHouseModel" yX4_calls yX4_calls ∈ Gw := Gw_of 1589 (by decide +kernel) (by decide +kernel)
theorem g1590 : Cond.code yX4_calls prog_6_method_111_code 1 (Option.some Jvm.ClassFile.FieldType.int) ∈ Gw := Gw_of 1590 (by decide +kernel) (by decide +kernel)
theorem g1591 : Cond.methodLink "PledgeHouseLaw" 353 yX4_soldOut ∈ Gw := Gw_of 1591 (by decide +kernel) (by decide +kernel)
theorem g1592 : Cond.instanceMethod yX4_soldOut ∈ Gw := Gw_of 1592 (by decide +kernel) (by decide +kernel)
theorem g1593 : Cond.selects "PledgeHouseModel" yX4_soldOut yX4_soldOut ∈ Gw := Gw_of 1593 (by decide +kernel) (by decide +kernel)
theorem g1594 : Cond.code yX4_soldOut prog_6_method_112_code 1 (Option.some Jvm.ClassFile.FieldType.int) ∈ Gw := Gw_of 1594 (by decide +kernel) (by decide +kernel)
theorem g1595 : Cond.methodLink "PledgeHouseLaw" 358 yX4_usedShare ∈ Gw := Gw_of 1595 (by decide +kernel) (by decide +kernel)
theorem g1596 : Cond.instanceMethod yX4_usedShare ∈ Gw := Gw_of 1596 (by decide +kernel) (by decide +kernel)
theorem g1597 : Cond.selects "PledgeHouseModel" yX4_usedShare yX4_usedShare ∈ Gw := Gw_of 1597 (by decide +kernel) (by decide +kernel)
theorem g1598 : Cond.code yX4_usedShare prog_6_method_114_code 1 (Option.some Jvm.ClassFile.FieldType.double) ∈ Gw := Gw_of 1598 (by decide +kernel) (by decide +kernel)
theorem g1599 : Cond.methodLink "PledgeHouseModel" 213 yX4_used ∈ Gw := Gw_of 1599 (by decide +kernel) (by decide +kernel)
theorem g1601 : Cond.instanceMethod yX4_used ∈ Gw := Gw_of 1601 (by decide +kernel) (by decide +kernel)
theorem g1602 : Cond.code yX4_used prog_6_method_113_code 3 (Option.some Jvm.ClassFile.FieldType.double) ∈ Gw := Gw_of 1602 (by decide +kernel) (by decide +kernel)
theorem g1603 : Cond.methodLink "PledgeHouseLaw" 363 yX4_digest ∈ Gw := Gw_of 1603 (by decide +kernel) (by decide +kernel)
theorem g1604 : Cond.instanceMethod yX4_digest ∈ Gw := Gw_of 1604 (by decide +kernel) (by decide +kernel)
theorem g1605 : Cond.selects "PledgeHouseModel" yX4_digest yX4_digest ∈ Gw := Gw_of 1605 (by decide +kernel) (by decide +kernel)
theorem g1606 : Cond.code yX4_digest prog_6_method_117_code 3 (Option.some Jvm.ClassFile.FieldType.long) ∈ Gw := Gw_of 1606 (by decide +kernel) (by decide +kernel)
theorem g1607 : Cond.constantLong "PledgeHouseModel" 227 (4397 : Int64) ∈ Gw := Gw_of 1607 (by decide +kernel) (by decide +kernel)
theorem g1608 : Cond.methodLink "PledgeHouseModel" 229 yX4_mix ∈ Gw := Gw_of 1608 (by decide +kernel) (by decide +kernel)
theorem g1610 : Cond.instanceMethod yX4_mix ∈ Gw := Gw_of 1610 (by decide +kernel) (by decide +kernel)
theorem g1611 : Cond.code yX4_mix prog_6_method_116_code 3 (Option.none : Option Jvm.ClassFile.FieldType) ∈ Gw := Gw_of 1611 (by decide +kernel) (by decide +kernel)
theorem g1612 : Cond.constantLong "PledgeHouseModel" 221 (31 : Int64) ∈ Gw := Gw_of 1612 (by decide +kernel) (by decide +kernel)
theorem g1613 : Cond.methodLink "PledgeHouseModel" 233 yX4_bitsOf ∈ Gw := Gw_of 1613 (by decide +kernel) (by decide +kernel)
theorem g1614 : Cond.static yX4_bitsOf ∈ Gw := Gw_of 1614 (by decide +kernel) (by decide +kernel)
theorem g1615 : Cond.code yX4_bitsOf prog_6_method_115_code 14 (Option.some Jvm.ClassFile.FieldType.long) ∈ Gw := Gw_of 1615 (by decide +kernel) (by decide +kernel)
theorem g1616 : Cond.constantDouble "PledgeHouseModel" 217 (4611686018427387904 : UInt64) ∈ Gw := Gw_of 1616 (by decide +kernel) (by decide +kernel)
theorem g1617 : Cond.constantLong "PledgeHouseModel" 219 (2 : Int64) ∈ Gw := Gw_of 1617 (by decide +kernel) (by decide +kernel)
theorem g1618 : Cond.arrayClass Jvm.ClassFile.FieldType.long ∈ Gw := Gw_of 1618 (by decide +kernel) (by decide +kernel)
theorem g1620 : Cond.fieldLink "java/lang/String" 9 "java/lang/String" "value" "[B" ∈ Gw := Gw_of 1620 (by decide +kernel) (by decide +kernel)
theorem g1621 : Cond.fieldLink "java/lang/String" 15 "java/lang/String" "coder" "B" ∈ Gw := Gw_of 1621 (by decide +kernel) (by decide +kernel)
theorem inGX0 : ∀ w ∈ wsX00, w ∈ Gw := fun w h => List.mem_filter.mpr ((by decide +kernel : ∀ w ∈ wsX00, w ∈ lw_tbl ∧ goodWord w = true) w h)
theorem inGX1 : ∀ w ∈ wsX10, w ∈ Gw := fun w h => List.mem_filter.mpr ((by decide +kernel : ∀ w ∈ wsX10, w ∈ lw_tbl ∧ goodWord w = true) w h)
theorem inGX2 : ∀ w ∈ wsX20, w ∈ Gw := fun w h => List.mem_filter.mpr ((by decide +kernel : ∀ w ∈ wsX20, w ∈ lw_tbl ∧ goodWord w = true) w h)
theorem inGX3 : ∀ w ∈ wsX30, w ∈ Gw := fun w h => List.mem_filter.mpr ((by decide +kernel : ∀ w ∈ wsX30, w ∈ lw_tbl ∧ goodWord w = true) w h)
theorem inGX4 : ∀ w ∈ wsX40, w ∈ Gw := fun w h => List.mem_filter.mpr ((by decide +kernel : ∀ w ∈ wsX40, w ∈ lw_tbl ∧ goodWord w = true) w h)
end
section
section
variable {p : Program} {l : Launch} {e : Env} {R : Room} {s : State} {m : MethodId} {args : Array Value} {below : List Frame} {meth : Method} {c : Code} {H : Heap} {locs : List Loc} {cells slots : Nat}
/-- a frame seen from a rebased start, seen from the first start again -/
theorem vx_back9 {T S : State} {R' : Room} {k n : Nat} (X : Stand p l e R s m args below meth c T locs cells slots) (Y : Stand p l e R' ((T.setVm s.vm).setFrames (.invoking m args :: below)) m args below meth c T [] 0 0) (Z : Stand p l e R' ((T.setVm s.vm).setFrames (.invoking m args :: below)) m args below meth c S [] k n) :
    Stand p l e R s m args below meth c S locs (cells + k) (slots + n) := by
  have hW0 : s.WarmedH ((T.setVm s.vm).setFrames (.invoking m args :: below)).vm := State.WarmedH.refl s
  refine { admits := X.admits, cas := X.cas, clock := X.clock, frames := X.frames, room := X.room, hears := X.hears, method := X.method, code := X.code, here := Z.here, tail := Z.tail, warmed := State.WarmedH.trans hW0 Z.warmed, limits := Z.limits.trans (Y.limits.symm.trans X.limits), bytes := Z.bytes.trans (Y.bytes.symm.trans X.bytes), same := ?_ }
  obtain ⟨e1, e2⟩ := Z.same
  rw [State.setFrames_setFrames] at e1
  have h2 : (T.setVm s.vm).sameButNew (S.setVm s.vm) [] k n := ⟨e1, e2⟩
  have h3 := X.same.trans h2
  rw [List.append_nil] at h3
  exact h3
end
section VXK
variable {p : Program} {l : Launch} {e : Env} {R : Room} {s : State} {m₀ : MethodId} {args : Array Value} {below : List Frame} {meth : Method} {c : Code} {W : State} {locs : List Loc} {cells slots : Nat}
set_option maxHeartbeats 1000000 in
theorem vx_ctorMade0 (X : Stand p l e R s m₀ args below meth c W locs cells slots) (hexec : p.tables.exec = Jvm.exec) (htr : e.platform.stackTraces = false) {own cls : String} {names : List String} {ic : Nat}
    (hown : s.vm.findClass own = some m₀.cls) (hcls : Bundle.fit cls = true) (hnames : ∀ n ∈ names, Bundle.fit n = true)
    (h : ∀ a ∈ Bundle.ownAtoms0 own ic cls names, a.before args s = true)
    (hlocs : ∀ x ∈ locs, ∀ cell, s.heap[x.base]? = some cell → cell.vm.isStatics = false)
    {a : Addr} {cX : ClassId} {kX : Class} (hfoundX : s.vm.findClass cls = some cX) (hkX : s.vm.classes[cX]? = some kX) (hcell : W.heap[a]? = some (freshCell cX kX)) (hnew : s.heap.size ≤ a)
    {g : JFrame} (hg : g.method = m₀) (hsize : g.locals.size = c.maxLocals) {rest : List Value} (hstack : g.stack = .ref a :: .ref a :: rest)
    (hd6 : decode c.code g.pc = .ok (.invokespecial ic, 3))
    (hRframes : names.length + 3 < R.frames) (hRlocals : 2 * g.monitorRoom + ((Value.ref a :: rest).map fun v => v.category).sum + (13 * (names.length + 1) + 41) ≤ R.locals) :
    ∃ (V : State) (ce : Cell) (L : List Loc), Stand p l e R s m₀ args below meth c (V.setCell a ce) (locs ++ L) cells slots ∧ (∀ y ∈ L, y.base = a) ∧ a < V.heap.size ∧ ce.cls = cX ∧ ce.vm = .none ∧
      ∀ target, Steps p.tables e below ((V.setCell a ce).setTop { g with stack := .ref a :: rest, pc := g.pc + 3 }) target → Steps p.tables e below (W.setTop g) target := by
  have howns : e.platform.frameOwnsMonitors = true := by rw [X.admits.platform]
  have hfin : e.platform.finalization = false := by rw [X.admits.platform]
  have hpl : e.platform.magicAccessors = ({} : Platform).magicAccessors := by rw [X.admits.platform]
  have a' : ∀ x, x ∈ Bundle.ownAtoms0 own ic cls names → x.holds args s none s [] = true := fun x hx => h x hx
  obtain ⟨T, Z, L, LZ, Y⟩ := ThrowableC.of_atoms (args := args) howns hfin hpl (fun x hx => h x (by simp [Bundle.ownAtoms0, hx]))
  obtain ⟨P1, Ps, hlen, L1, hL, hP1m, hlink1, hlink⟩ := Bundle.chain0 (args := args) hpl Y.init0 names cls hcls hnames (fun x hx => h x (by simp [Bundle.ownAtoms0, hx]))
  have hfound : s.vm.findClass cls = some P1.m.cls := findClass_of_methodNamed hP1m
  cases Option.some.inj (hfoundX.symm.trans hfound)
  obtain ⟨c1, kX', hc1, hk, hord, -, -, hn6⟩ := Cond.instantiable_spec (a' (.instantiable cls 6) (by simp [Bundle.ownAtoms0]))
  cases Option.some.inj (hc1.symm.trans hfound)
  cases Option.some.inj (hkX.symm.trans hk)
  have hsel0 : selectMethod e.platform s.vm P1.m.cls T.fill0 = .method T.fill0 := by
    obtain ⟨c2, r2, m2, q1, q2, q3, q4, -⟩ := Cond.selects_spec (a' (.selects cls Bundle.tFill0 Bundle.tFill0) (by simp [Bundle.ownAtoms0]))
    cases Option.some.inj (q1.symm.trans hfound)
    cases Option.some.inj (q2.symm.trans (State.methodFound?_of_named Y.fill0 (by decide)))
    cases Option.some.inj (q3.symm.trans Y.fill0)
    rw [Launch.admits_selectMethod X.admits]; exact q4
  have hselF : selectMethod e.platform s.vm P1.m.cls T.fill = .method T.fill := by
    obtain ⟨c2, r2, m2, q1, q2, q3, q4, -⟩ := Cond.selects_spec (a' (.selects cls Bundle.tFill Bundle.tFill) (by simp [Bundle.ownAtoms0]))
    cases Option.some.inj (q1.symm.trans hfound)
    cases Option.some.inj (q2.symm.trans (State.methodFound?_of_named Y.fill (by decide)))
    cases Option.some.inj (q3.symm.trans Y.fill)
    rw [Launch.admits_selectMethod X.admits]; exact q4
  obtain ⟨cellS0, hcS0, hiss⟩ := Y.statics
  obtain ⟨u0, hu0⟩ := Cond.staticRefV Y.unassigned L.unassignedStatic L.statics hcS0 hiss (a' (.isRef (.static Bundle.tN "UNASSIGNED_STACK" Bundle.steD)) (by simp [Bundle.ownAtoms0]))
  obtain ⟨sen, hsen⟩ := Cond.staticRefV Y.sentinel L.sentinelStatic L.statics hcS0 hiss (a' (.isRef (.static Bundle.tN "SUPPRESSED_SENTINEL" Bundle.listD)) (by simp [Bundle.ownAtoms0]))
  obtain ⟨ci198, i198, fB, hk198, hg198, ha198, hsB, -, hnB, htB, hffB⟩ := Cond.ownField (t := .object "java/lang/Object") Y.found L.cls (by decide +kernel) (a' (.fieldLink Bundle.tN 198 Bundle.tN "backtrace" "Ljava/lang/Object;") (by simp [Bundle.ownAtoms0])) (a' (.lays Bundle.tN Bundle.tN "backtrace" "Ljava/lang/Object;") (by simp [Bundle.ownAtoms0])) e.platform hpl
  obtain ⟨cellS, hcS', heS, -, hkeep⟩ := X.same.2.2.2.2.2 T.aS cellS0 hcS0
  have hcellS : W.heap[T.aS]? = some cellS := hcS'
  have hout' : ∀ i, (⟨T.aS, i⟩ : Loc) ∉ locs := fun i hmem => by
    have := hlocs _ hmem cellS0 hcS0
    rw [hiss] at this; cases this
  have hknownS : cellS.vm ≠ .unknown := by
    rw [heS]; intro hu
    rw [show cellS0.vm = .unknown from hu] at hiss
    cases hiss
  have hneS : T.aS ≠ a := Nat.ne_of_lt (Nat.lt_of_lt_of_le (Array.getElem?_eq_some_iff.mp hcS0).1 hnew)
  obtain ⟨iM, hffM⟩ := Y.msg
  obtain ⟨tyC, dC, hdC, hdnC⟩ := Cond.laysAt hfound hk Y.cause (a' (.lays cls Bundle.tN "cause" "Ljava/lang/Throwable;") (by simp [Bundle.ownAtoms0]))
  obtain ⟨tyS, dS, hdS, hdnS⟩ := Cond.laysAt hfound hk Y.stack (a' (.lays cls Bundle.tN "stackTrace" Bundle.steD) (by simp [Bundle.ownAtoms0]))
  obtain ⟨tyP, dP, hdP, hdnP⟩ := Cond.laysAt hfound hk Y.supp (a' (.lays cls Bundle.tN "suppressedExceptions" Bundle.listD) (by simp [Bundle.ownAtoms0]))
  obtain ⟨tyM, dM, hdM, hdnM⟩ := Cond.laysAt hfound hk hffM (a' (.lays cls Bundle.tN "detailMessage" "Ljava/lang/String;") (by simp [Bundle.ownAtoms0]))
  obtain ⟨tyB, dB, hdB, hdnB⟩ := Cond.laysAt hfound hk hffB (a' (.lays cls Bundle.tN "backtrace" "Ljava/lang/Object;") (by simp [Bundle.ownAtoms0]))
  have bC := Cond.laysApart hdB hdC hdnB hdnC (by rw [hnB, Y.causeName]; decide)
  have bS := Cond.laysApart hdB hdS hdnB hdnS (by rw [hnB, Y.stackName]; decide)
  have bP := Cond.laysApart hdB hdP hdnB hdnP (by rw [hnB, Y.suppName]; decide)
  have hskip : SkipFacts T e.platform s (fun u => u) u0 ((preparedCellV T.toThrowableT (freshCell P1.m.cls kX) a u0 sen).withEntry W.cur) :=
    ⟨{ ci198 := ci198, i198 := i198, fBack := fB }, ⟨hk198, hg198, ha198, hsB⟩, by
      have := fresh_default (c := P1.m.cls) tyB
      rw [htB] at this
      simpa [preparedCellV, Cell.setSlot, Cell.withEntry, Array.getElem?_setIfInBounds, bC, bS, bP, bC.symm, bS.symm, bP.symm, defaultValue] using this, fun _ _ => rfl⟩
  obtain ⟨tm, methC, cdC, kC, vm₁, hnC, -, -, -, -, -, -, -, hW₁, st1⟩ := Steps.initCold (tb := p.tables) (e := e) (below := below) (s := s) (U := W) X.here hexec X.warmed hpl hown (t := Bundle.init0 cls) rfl rfl (Bundle.fit_spec hcls).2
    (a' (.methodLink own ic (Bundle.init0 cls)) (by simp [Bundle.ownAtoms0])) (h (.instanceMethod (Bundle.init0 cls)) (by cases names <;> simp [Bundle.ownAtoms0, Bundle.chain0Atoms, Bundle.passAtoms])) (bytes := Bundle.five) (maxL := 1) (h (.code (Bundle.init0 cls) Bundle.five 1 none) (by cases names <;> simp [Bundle.ownAtoms0, Bundle.chain0Atoms, Bundle.passAtoms]))
    (f := g) hg (a := a) (rest := .ref a :: rest) hstack hd6
  cases Option.some.inj (hnC.symm.trans hP1m)
  have X₁ := X.noted hW₁
  obtain ⟨vm₂, X₂, st2⟩ := X₁.ctorPlainOffV hexec (g := { g with stack := .ref a :: rest }) hg hsize T L Z LZ (P1 :: Ps)
    (fun P hP => by rcases List.mem_cons.mp hP with rfl | hP; exact L1; exact hL P hP) ⟨hlink1, hlink⟩ (u0 := u0) (sen := sen) (self := a) (cell := freshCell P1.m.cls kX) (cellS := cellS)
    hcell (fun _ => by simp) (by simp) rfl rfl hsel0 hselF hcellS hneS hknownS (by rw [hkeep _ (hout' _)]; exact hu0) (by rw [hkeep _ (hout' _)]; exact hsen)
    (Takes.of_laid hk hord tyC (by rw [Y.causeType]; rfl)) (Takes.of_laid hk hord tyS (by rw [Y.stackType]; exact fits_refV_array _ u0)) (Takes.of_laid hk hord tyP (by rw [Y.suppType]; exact fits_refV_object _ sen)) Y.objLocals hskip htr [] hd6
    (by simp only [List.length_cons, hlen]; omega) (by simp only [List.length_cons, hlen]; exact hRlocals)
  have hlt : a < ((W.setVm vm₁).setVm vm₂).heap.size := (Array.getElem?_eq_some_iff.mp hcell).1
  refine ⟨(W.setVm vm₁).setVm vm₂, _, _, X₂, fun y hy => ?_, hlt, rfl, rfl, fun target hwalk => st1 _ (fun acts => ?_)⟩
  · simp only [List.mem_cons, List.not_mem_nil, or_false] at hy
    rcases hy with rfl | rfl | rfl | rfl <;> rfl
  · rw [doInvoke_state]
    exact st2 _ hwalk
end VXK
section VXK2
variable {p : Program} {l : Launch} {e : Env} {R : Room} {s : State} {m : MethodId} {args : Array Value} {below : List Frame} {meth : Method} {c : Code} {H : Heap} {locs : List Loc} {cells slots : Nat} {Q : State → Prop}
variable {ls : Array Slot} {rest : List Value} {D : va_G} {cl : List vw_C} {tys : List (ClassId × FieldType)} {ws : va_W}
/-- 'new E()' that isn't thrown at once: the object goes on the stack -/
theorem vx_make0 {cc : ByteArray} {pc : Nat} (hexec : p.tables.exec = Jvm.exec) (hb : c.code = cc) (hl : l.stackTraces = false) {own cls : String} {names : List String} {ik ic ci : Nat} {A : Nat → Prop} {T0 : u_T}
    (hown : s.vm.findClass own = some m.cls) (hcls : Bundle.fit cls = true) (hnames : ∀ n ∈ names, Bundle.fit n = true)
    (hk : (Cond.classLink own ik cls).before args s = true) (hini : (Cond.initialized cls).before args s = true) (hat : ∀ w ∈ vx_at0 own ic cls names, w.before args s = true)
    (hgood : ∀ w ∈ Cond.classLink own ik cls :: Cond.initialized cls :: vx_at0 own ic cls names, vx_ot w = true)
    (hU : vx_Zq Bundle.tN "UNASSIGNED_STACK" Bundle.steD A s s.heap) (hN : vx_Zq Bundle.tN "SUPPRESSED_SENTINEL" Bundle.listD A s s.heap) (hS : va_S A s.heap H locs) (hsize : ls.size = c.maxLocals)
    (d0 : decode cc pc = .ok (.new ik, 3)) (d3 : decode cc (pc + 3) = .ok (.dup, 1)) (d4 : decode cc (pc + 4) = .ok (.invokespecial ic, 3))
    (hK : va_K D cl tys s) (hP : va_P D cl ws H) (hD : va_D A ws) (hA : ∀ q, s.heap.size ≤ q → A q) (hc : cl[ci]? = some (cls, T0, 0))
    (hRframes : names.length + 3 < R.frames) (hRlocals : (rest.map fun v => v.category).sum + (13 * (names.length + 1) + 42) ≤ R.locals) (hRcells : cells + 1 ≤ R.cells) (hRslots : slots + 6 ≤ R.slots)
    (kk : ∀ (q : Nat) (H1 : Heap), va_P D cl (ws ++ [(q, .inr (ci, []))]) H1 → va_D A (ws ++ [(q, .inr (ci, []))]) → va_S A s.heap H1 locs → W p l e R s m args below meth c H1 locs (cells + 1) (slots + 6) Q (F0 m (pc + 7) ls (.ref q :: rest))) :
    W p l e R s m args below meth c H locs cells slots Q (F0 m pc ls rest) := by
  intro T hT X
  subst hT
  have htr : e.platform.stackTraces = false := (show e.platform.stackTraces = l.stackTraces by rw [X.admits.platform]).trans hl
  have Y := vx_rebase X (R' := { frames := R.frames, locals := R.locals, cells := 1, slots := 6 }) (Nat.le_refl _) (Nat.le_refl _) hRcells hRslots
  obtain ⟨s', hA'⟩ : ∃ z, z = (T.setVm s.vm).setFrames (.invoking m args :: below) := ⟨_, rfl⟩
  rw [← hA'] at Y
  have hvm : s'.vm = s.vm := by rw [hA']; rfl
  have hhp : s'.heap = T.heap := by rw [hA']; rfl
  have hW0 : s.WarmedH s'.vm := by rw [hvm]; exact State.WarmedH.refl s
  have hat' : ∀ w ∈ vx_at0 own ic cls names, w.before args s' = true := fun w hw => vx_ot_at hW0 hvm.symm (hgood w (List.mem_cons_of_mem _ (List.mem_cons_of_mem _ hw))) (hat w hw)
  have hk' : (Cond.classLink own ik cls).before args s' = true := vx_ot_at hW0 hvm.symm (hgood _ List.mem_cons_self) hk
  have hini' : (Cond.initialized cls).before args s' = true := vx_ot_at hW0 hvm.symm (hgood _ (List.mem_cons_of_mem _ List.mem_cons_self)) hini
  have hU' : vx_Zq Bundle.tN "UNASSIGNED_STACK" Bundle.steD A s' s'.heap := by rw [hhp]; exact vx_Zq.moved hW0.alike (hU.kept hS.2.1)
  have hN' : vx_Zq Bundle.tN "SUPPRESSED_SENTINEL" Bundle.listD A s' s'.heap := by rw [hhp]; exact vx_Zq.moved hW0.alike (hN.kept hS.2.1)
  have h : ∀ w ∈ Bundle.ownAtoms0 own ic cls names, w.before args s' = true := vx_own hat' (vx_isRefq hU'.1) (vx_isRefq hN'.1) hU'.2.word hN'.2.word
  have hown' : s'.vm.findClass own = some m.cls := by rw [hvm]; exact hown
  have hins : (Cond.instantiable cls 6).before args s' = true := h _ (by simp [Bundle.ownAtoms0])
  obtain ⟨vm₁, cX, kX, hfX, hkX, -, -, X₁, st1⟩ := Y.newCold hexec (own := own) (C := cls) (index := ik) (n := 6) hown' hk' hins hini'
    (g := F0 m pc ls rest) rfl (by rw [hb]; exact d0) (Nat.le_refl _) (Nat.le_refl _)
  generalize hT1 : (T.setVm vm₁).pushCell { cls := cX, slots := kX.instanceTypes.map defaultValue, vm := .none } = T1 at X₁ st1
  have hcat : (Value.ref T.heap.size).category = 1 := rfl
  have hcellA : T1.heap[T.heap.size]? = some (freshCell cX kX) := by rw [← hT1]; exact State.heap_pushCell_size _ _
  have d3' : decode c.code (pc + 3) = .ok (.dup, 1) := by rw [hb]; exact d3
  obtain ⟨V, ce, L, Z, hL, hlt, hcl9, hvm9, st⟩ := vx_ctorMade0 X₁ hexec htr (own := own) (cls := cls) (names := names) (ic := ic) hown' hcls hnames h (fun x hx => nomatch hx) hfX hkX hcellA (by rw [hhp]; exact Nat.le_refl _)
    (g := { method := m, pc := pc + 4, locals := ls, stack := .ref T.heap.size :: .ref T.heap.size :: rest, locked := none }) rfl hsize (rest := rest) rfl
    (by rw [hb]; exact d4) hRframes (by simp only [List.map_cons, List.sum_cons, hcat]; omega)
  have Z0 := Stand.forget (locs := []) Z (fun y hy => by rw [hL y hy, hhp]; exact Nat.le_refl _)
  obtain ⟨f1, f2⟩ := vx_frame Z0.same
  rw [hhp] at f1 f2
  have hcid : ce.cls = D.1 ci := by
    rw [hcl9]
    have h1 := (hK.1 ci _ hc).2.1
    rw [hvm] at hfX
    exact Option.some.inj (hfX.symm.trans h1)
  have hh : (V.setCell T.heap.size ce).heap[T.heap.size]? = some ce := heapAt_setCell_self (s := V) ce hlt
  subst hA'
  have X5 := vx_back9 X Y Z0
  have X6 : Stand p l e R s m args below meth c (V.setCell T.heap.size ce) locs (cells + 1) (slots + 6) := { X5 with same := X5.same.mono (by omega) (by omega) }
  have hk9 : ∀ (k : Nat) (x : Nat × va_E), ws[k]? = some x → (V.setCell T.heap.size ce).heap[x.1]? = T.heap[x.1]? := fun k x hx => f2 x.1 ((hP k x hx).lt) (fun z hz => nomatch hz)
  obtain ⟨t, a1, b1⟩ := kk T.heap.size (V.setCell T.heap.size ce).heap ((hP.kept hk9).app (fun k x hx => by
      have hz : k < 1 := (List.getElem?_eq_some_iff.mp hx).1
      rw [show k = 0 by omega] at hx
      cases hx
      exact ⟨_, hc, ce, hh, hcid, hvm9, fun k hk => absurd hk (Nat.not_lt_zero k)⟩)) (hD.push hP rfl (hA _ hS.1)) ⟨Nat.le_trans hS.1 f1, fun q h1 h2 => (f2 q (Nat.lt_of_lt_of_le h1 hS.1) (fun z hz => nomatch hz)).trans (hS.2.1 q h1 h2), hS.2.2⟩ _ rfl X6
  refine ⟨t, st1 _ ?_, b1⟩
  show Steps p.tables e below (T1.setTop { method := m, pc := pc + 3, locals := ls, stack := .ref T.heap.size :: rest, locked := none }) _
  jvm_step X₁.here [X₁.here.top, hexec, d3', Value.category]
  exact st _ a1
/-- 'throw x' of an object that was made before -/
theorem vx_athrow {cc : ByteArray} {pc : Nat} (hexec : p.tables.exec = Jvm.exec) (hb : c.code = cc) {q : Addr} (hdg : decode cc pc = .ok (.athrow, 1)) (k : vx_W p l e R s m args below meth c H locs cells slots Q (F0 m pc ls rest) q) : W p l e R s m args below meth c H locs cells slots Q (F0 m pc ls (.ref q :: rest)) := by
  intro T hT X
  obtain ⟨t, st, hq⟩ := k T hT X
  refine ⟨t, ?_, hq⟩
  have hdg' : decode c.code pc = .ok (.athrow, 1) := by rw [hb]; exact hdg
  jvm_step X.here [X.here.top, hexec, hdg', athrow.wp_sem]
  exact st
end VXK2
/-! ===== BEGIN a private method of a nest mate that may throw (follows va_callVN, va_callSN, va_runVN, va_runSN) ===== -/
section
variable {p : Program} {l : Launch} {e : Env} {R : Room} {s : State} {m : MethodId} {args : Array Value} {below : List Frame} {meth : Method} {c : Code} {H : Heap} {locs : List Loc} {cells slots : Nat}
variable {T : State}
theorem vx_callVN (X : Stand p l e R s m args below meth c T locs cells slots) (hexec : p.tables.exec = Jvm.exec) {own C : String} {index : Nat} {host : String} {y : MethodName} {bytes : ByteArray} {maxL : Nat} {ret : Option FieldType}
    (hown : s.vm.findClass own = some m.cls) (hlink : (Cond.methodLinkNest own index y host).before args s = true) (hinst : (Cond.instanceMethod y).before args s = true) (hsel : (Cond.selects C y y).before args s = true)
    (hcode : (Cond.code y bytes maxL ret).before args s = true) (hy : y.cls ≠ "java/lang/invoke/MethodHandle" ∧ y.cls ≠ "java/lang/invoke/VarHandle")
    {W : Nat} {Pre : Pt → Array Value → Prop} {Post : Pt → Array Value → Option Value → Pt → Prop} {PostX : Pt → Array Value → Addr → Pt → Prop} (hK : vx_Back l R p e below s args y 3 W Pre Post PostX)
    {b : Addr} {cellB : Cell} (hcell : T.heap[b]? = some cellB) (hobj : cellB.vm.isStatics = false) (hcls : s.vm.findClass C = some cellB.cls)
    {g : JFrame} (hg : g.method = m) (hsize : g.locals.size = c.maxLocals) {argsL rest : List Value} (hlen : ∀ sig, parseMethodDescriptor y.desc = some sig → argsL.length = sig.parameters.length)
    (hstack : g.stack = argsL.reverse ++ .ref b :: rest) (hW : 2 * g.monitorRoom + (rest.map fun v => v.category).sum ≤ W) (hdg : decode c.code g.pc = .ok (.invokevirtual index, 3))
    (hpre : ∀ vm₁, s.WarmedH vm₁ → Pre ⟨T.setVm vm₁, locs, cells, slots⟩ (Value.ref b :: argsL).toArray) :
    (∃ (v : Option Value) (vm₁ : Vm) (B : Pt), s.WarmedH vm₁ ∧ Stand p l e R s m args below meth c B.U B.locs B.cells B.slots ∧ Post ⟨T.setVm vm₁, locs, cells, slots⟩ (Value.ref b :: argsL).toArray v B ∧
      ∀ target, Steps p.tables e below (B.U.setTop { g with pc := g.pc + 3, stack := v.toList ++ rest }) target → Steps p.tables e below (T.setTop g) target) ∨
    (∃ (q : Addr) (vm₁ : Vm) (B : Pt), s.WarmedH vm₁ ∧ Stand p l e R s m args below meth c B.U B.locs B.cells B.slots ∧ PostX ⟨T.setVm vm₁, locs, cells, slots⟩ (Value.ref b :: argsL).toArray q B ∧
      Steps p.tables e below (T.setTop g) ((B.U.setTop { g with stack := rest }).pushFrame (.throwing q))) := by
  obtain ⟨mk, methM, hnamed, hmethM, hstM, habM⟩ := Cond.instanceMethod_spec hinst
  obtain ⟨methM', cM, hmethM', -, -, -, -, -, -, hsigM⟩ := Cond.code_spec hnamed hcode
  cases hmethM.symm.trans hmethM'
  obtain ⟨c2, r2, m2, q1, q2, q3, q4, kP, hkP, hkPi⟩ := Cond.selects_spec hsel
  cases hcls.symm.trans q1
  cases (State.methodFound?_of_named hnamed hy).symm.trans q2
  cases hnamed.symm.trans q3
  have hselP : selectMethod e.platform s.vm cellB.cls mk = .method mk := by rw [Launch.admits_selectMethod X.admits]; exact q4
  obtain ⟨vm₁, X₁, hstep₁⟩ := X.invokevirtualNest hexec hown hlink hnamed hmethM hstM hkP hkPi hy (a := b) (cell := cellB) hcell
    (fun z h => by rw [h] at hobj; cases hobj) hselP hmethM habM hkP hkPi (g := g) hg (argsL := argsL) (rest := rest) (hlen _ hsigM) hstack hdg
  rcases hK m meth c ⟨T.setVm vm₁, locs, cells, slots⟩ { g with stack := rest } (.invokevirtual index) mk (Value.ref b :: argsL).toArray X₁ hg hsize hdg hW (X₁.named hnamed) (hpre vm₁ X₁.warmed) with ⟨v, B, X', hpost, hsteps⟩ | ⟨q, B, X', hpost, hsteps⟩
  · exact Or.inl ⟨v, vm₁, B, X₁.warmed, X', hpost, fun target h => hstep₁ _ fun acts => by rw [doInvoke_state]; exact hsteps.trans h⟩
  · exact Or.inr ⟨q, vm₁, B, X₁.warmed, X', hpost, hstep₁ _ fun acts => by rw [doInvoke_state]; exact hsteps⟩
theorem vx_callSN (X : Stand p l e R s m args below meth c T locs cells slots) (hexec : p.tables.exec = Jvm.exec) {own : String} {index : Nat} {host : String} {y : MethodName} {bytes : ByteArray} {maxL : Nat} {ret : Option FieldType}
    (hown : s.vm.findClass own = some m.cls) (hlink : (Cond.methodLinkNest own index y host).before args s = true) (hstat : (Cond.static y).before args s = true) (hinit : (Cond.initialized y.cls).before args s = true)
    (hcode : (Cond.code y bytes maxL ret).before args s = true) (hy : y.cls ≠ "java/lang/invoke/MethodHandle" ∧ y.cls ≠ "java/lang/invoke/VarHandle")
    {W : Nat} {Pre : Pt → Array Value → Prop} {Post : Pt → Array Value → Option Value → Pt → Prop} {PostX : Pt → Array Value → Addr → Pt → Prop} (hK : vx_Back l R p e below s args y 3 W Pre Post PostX)
    {g : JFrame} (hg : g.method = m) (hsize : g.locals.size = c.maxLocals) {argsL rest : List Value} (hlen : ∀ sig, parseMethodDescriptor y.desc = some sig → argsL.length = sig.parameters.length)
    (hstack : g.stack = argsL.reverse ++ rest) (hW : 2 * g.monitorRoom + (rest.map fun v => v.category).sum ≤ W) (hdg : decode c.code g.pc = .ok (.invokestatic index, 3))
    (hpre : ∀ vm₁, s.WarmedH vm₁ → Pre ⟨T.setVm vm₁, locs, cells, slots⟩ argsL.toArray) :
    (∃ (v : Option Value) (vm₁ : Vm) (B : Pt), s.WarmedH vm₁ ∧ Stand p l e R s m args below meth c B.U B.locs B.cells B.slots ∧ Post ⟨T.setVm vm₁, locs, cells, slots⟩ argsL.toArray v B ∧
      ∀ target, Steps p.tables e below (B.U.setTop { g with pc := g.pc + 3, stack := v.toList ++ rest }) target → Steps p.tables e below (T.setTop g) target) ∨
    (∃ (q : Addr) (vm₁ : Vm) (B : Pt), s.WarmedH vm₁ ∧ Stand p l e R s m args below meth c B.U B.locs B.cells B.slots ∧ PostX ⟨T.setVm vm₁, locs, cells, slots⟩ argsL.toArray q B ∧
      Steps p.tables e below (T.setTop g) ((B.U.setTop { g with stack := rest }).pushFrame (.throwing q))) := by
  obtain ⟨mk, hnamed⟩ := Cond.code_named hcode
  obtain ⟨methM, cM, hmethM, -, -, -, -, -, -, hsigM⟩ := Cond.code_spec hnamed hcode
  have hstatic : methM.isStatic = true := Cond.static_spec hnamed hmethM hstat
  obtain ⟨kP, hkP, -⟩ := className_of_methodNamed hnamed
  have hinitP : kP.init = .initialized := Cond.initialized_spec (findClass_of_methodNamed hnamed) hkP hinit
  obtain ⟨vm₁, X₁, hstep₁⟩ := X.invokestaticNest hexec hown hlink hnamed hmethM hstatic hkP hinitP hy (g := g) hg (argsL := argsL) (rest := rest) (hlen _ hsigM) hstack hdg
  rcases hK m meth c ⟨T.setVm vm₁, locs, cells, slots⟩ { g with stack := rest } (.invokestatic index) mk argsL.toArray X₁ hg hsize hdg hW (X₁.named hnamed) (hpre vm₁ X₁.warmed) with ⟨v, B, X', hpost, hsteps⟩ | ⟨q, B, X', hpost, hsteps⟩
  · exact Or.inl ⟨v, vm₁, B, X₁.warmed, X', hpost, fun target h => hstep₁ _ fun acts => by rw [doInvoke_state]; exact hsteps.trans h⟩
  · exact Or.inr ⟨q, vm₁, B, X₁.warmed, X', hpost, hstep₁ _ fun acts => by rw [doInvoke_state]; exact hsteps⟩
theorem vx_runVN {y : MethodName} {bytes cc : ByteArray} {maxL nL mc ms n index : Nat} {ret : Option FieldType} {ws : List Cond} {rm : Room} {Pc : Array Value → State → Prop} {Qc : Array Value → State → Outcome → State → Prop} {XC : String → State → State → Prop} {free : Addr → Prop} {Ts : List Cond} {own C host : String} {b : Addr} {As rest : List Value} {g : JFrame}
    (S : CallFix p m c cc nL s args Ts own) (hM : vx_Met l y ws rm Pc Qc XC mc ms free) (cw : va_CN R s args own index y host bytes maxL ret ws rm mc ms n ∧ (Cond.instanceMethod y).before args s = true ∧ (Cond.selects C y y).before args s = true) (hp : PreV s H C b Pc As)
    (hg : g.method = m) (hn : As.length = n) (hsize : g.locals.size = nL) (hstack : g.stack = As.reverse ++ .ref b :: rest) (hW : 2 * g.monitorRoom + (rest.map fun v => v.category).sum ≤ 8) (hdg : decode cc g.pc = .ok (.invokevirtual index, 3)) (hf : cells + mc ≤ R.cells ∧ slots + ms ≤ R.slots) :
    vx_Run p l e R s m args below meth c H locs cells slots mc ms g rest (Qc (Value.ref b :: As).toArray) XC free := by
  obtain ⟨⟨⟨hrc, hrs, hfr, hlo, hws, hcw⟩, hcode, hini, hy, hlen, hl⟩, hx1, hx2⟩ := cw
  have hK : vx_Back l R p e below s args y 3 8 (PreOf R mc ms Pc) (PostOf Qc mc ms free) (vx_Post XC mc ms free) := vx_back (bytes := bytes) (maxL := maxL) (ret := ret) hM hp.1 hrc hrs hfr hlo hws hcw (fun a' U hW => word_at hW (Or.inl (by first | rfl | simp [Cond.onTables, Cond.keeps, Cond.steady])) hini)
  obtain ⟨hx, hb, hml, ho, -⟩ := S
  obtain ⟨-, ⟨cellB, hcB, hoB, hclB⟩, hPc⟩ := hp
  intro T hT X
  rcases vx_callVN X hx (C := C) (bytes := bytes) (maxL := maxL) (ret := ret) ho hl hx1 hx2 hcode hy hK (by rw [hT]; exact hcB) hoB hclB hg (hsize.trans hml.symm) (argsL := As) (rest := rest) (fun sig h => hn.trans (hlen sig h)) hstack hW (by rw [hb]; exact hdg)
    (fun vm₁ hW₁ => ⟨hf.1, hf.2, hPc (T.setVm vm₁) hT hW₁⟩) with ⟨v, vm₁, ⟨U', l2, c2, s2⟩, hW₁, X', ⟨g', mk, t, L, e1, e2, hq, h1, hL, h2, h3⟩, st⟩ | ⟨q, vm₁, ⟨U', l2, c2, s2⟩, hW₁, X', ⟨g', mk, t, L, E, ce, e1, e2, hq, hce, hcv, hcl, h1, hL, h2, h3⟩, st⟩
  · dsimp only [Pt.U, Pt.locs, Pt.cells, Pt.slots] at X' e1 e2 h1 h2 h3 st
    subst h1; subst h2; subst h3
    exact Or.inl ⟨v, (T.setVm vm₁).calling g' mk (Value.ref b :: As).toArray, t, U', L, hT, X', hL, e1, e2, hq, st⟩
  · dsimp only [Pt.U, Pt.locs, Pt.cells, Pt.slots] at X' e1 e2 h1 h2 h3 st hcl
    subst h1; subst h2; subst h3
    exact Or.inr ⟨q, (T.setVm vm₁).calling g' mk (Value.ref b :: As).toArray, t, U', L, E, ce, hT, X', hL, e1, e2, hq, hce, hcv, vx_cls hW₁ hcl, st⟩
theorem vx_runSN {y : MethodName} {bytes cc : ByteArray} {maxL nL mc ms n index : Nat} {ret : Option FieldType} {ws : List Cond} {rm : Room} {Pc : Array Value → State → Prop} {Qc : Array Value → State → Outcome → State → Prop} {XC : String → State → State → Prop} {free : Addr → Prop} {Ts : List Cond} {own host : String} {As rest : List Value} {g : JFrame}
    (S : CallFix p m c cc nL s args Ts own) (hM : vx_Met l y ws rm Pc Qc XC mc ms free) (cw : va_CN R s args own index y host bytes maxL ret ws rm mc ms n ∧ (Cond.static y).before args s = true ∧ True) (hp : PreS s H Pc As)
    (hg : g.method = m) (hn : As.length = n) (hsize : g.locals.size = nL) (hstack : g.stack = As.reverse ++ rest) (hW : 2 * g.monitorRoom + (rest.map fun v => v.category).sum ≤ 8) (hdg : decode cc g.pc = .ok (.invokestatic index, 3)) (hf : cells + mc ≤ R.cells ∧ slots + ms ≤ R.slots) :
    vx_Run p l e R s m args below meth c H locs cells slots mc ms g rest (Qc As.toArray) XC free := by
  obtain ⟨⟨⟨hrc, hrs, hfr, hlo, hws, hcw⟩, hcode, hini, hy, hlen, hl⟩, hx1, hx2⟩ := cw
  have hK : vx_Back l R p e below s args y 3 8 (PreOf R mc ms Pc) (PostOf Qc mc ms free) (vx_Post XC mc ms free) := vx_back (bytes := bytes) (maxL := maxL) (ret := ret) hM hp.1 hrc hrs hfr hlo hws hcw (fun a' U hW => word_at hW (Or.inl (by first | rfl | simp [Cond.onTables, Cond.keeps, Cond.steady])) hini)
  obtain ⟨hx, hb, hml, ho, -⟩ := S
  have hPc := hp.2
  intro T hT X
  rcases vx_callSN X hx (bytes := bytes) (maxL := maxL) (ret := ret) ho hl hx1 hini hcode hy hK hg (hsize.trans hml.symm) (argsL := As) (rest := rest) (fun sig h => hn.trans (hlen sig h)) hstack hW (by rw [hb]; exact hdg)
    (fun vm₁ hW₁ => ⟨hf.1, hf.2, hPc (T.setVm vm₁) hT hW₁⟩) with ⟨v, vm₁, ⟨U', l2, c2, s2⟩, hW₁, X', ⟨g', mk, t, L, e1, e2, hq, h1, hL, h2, h3⟩, st⟩ | ⟨q, vm₁, ⟨U', l2, c2, s2⟩, hW₁, X', ⟨g', mk, t, L, E, ce, e1, e2, hq, hce, hcv, hcl, h1, hL, h2, h3⟩, st⟩
  · dsimp only [Pt.U, Pt.locs, Pt.cells, Pt.slots] at X' e1 e2 h1 h2 h3 st
    subst h1; subst h2; subst h3
    exact Or.inl ⟨v, (T.setVm vm₁).calling g' mk As.toArray, t, U', L, hT, X', hL, e1, e2, hq, st⟩
  · dsimp only [Pt.U, Pt.locs, Pt.cells, Pt.slots] at X' e1 e2 h1 h2 h3 st hcl
    subst h1; subst h2; subst h3
    exact Or.inr ⟨q, (T.setVm vm₁).calling g' mk As.toArray, t, U', L, E, ce, hT, X', hL, e1, e2, hq, hce, hcv, vx_cls hW₁ hcl, st⟩
end
/-! ===== END ===== -/
end
section
/-! ===== THE WALK, SAID PURELY: places instead of addresses, a world that is a list of cells, Ev: 'from here on the method ends as po, px say' ===== -/
abbrev PW : Type := List va_E
abbrev LV : Type := List (Nat × Value)
abbrev PO : Type := Option Value → PW → Prop
abbrev PX : Type := String → PW → Prop
/-- a method: name, answer, code, locals, room, table, cells (exceptions) at most, script -/
abbrev MT : Type := MethodName × Option FieldType × ByteArray × Nat × Room × List (Nat × Nat × Nat × Nat) × Nat × Option (Nat × (Nat → Int32))
abbrev mY (M : MT) : MethodName := M.1
abbrev mT (M : MT) : Option FieldType := M.2.1
abbrev mC (M : MT) : ByteArray := M.2.2.1
abbrev mN (M : MT) : Nat := M.2.2.2.1
abbrev mR (M : MT) : Room := M.2.2.2.2.1
abbrev mH (M : MT) : List (Nat × Nat × Nat × Nat) := M.2.2.2.2.2.1
abbrev mK (M : MT) : Nat := M.2.2.2.2.2.2.1
abbrev mS (M : MT) : Option (Nat × (Nat → Int32)) := M.2.2.2.2.2.2.2
def em (as : Nat → Nat) : Value → Value
  | .ref k => .ref (as k)
  | .int x => .int x
  | .long x => .long x
  | .float x => .float x
  | .double x => .double x
  | .null => .null
  | .retAddr n => .retAddr n
theorem em_cat (as : Nat → Nat) (v : Value) : (em as v).category = v.category := by cases v <;> rfl
def emA (as : Nat → Nat) : vp_A → vp_A
  | (n, .inr (.inr (.inr (.inr f)))) => (n, .inr (.inr (.inr (.inr (fun k => (f k).map as)))))
  | (n, .inl f) => (n, .inl f)
  | (n, .inr (.inl f)) => (n, .inr (.inl f))
  | (n, .inr (.inr (.inl f))) => (n, .inr (.inr (.inl f)))
  | (n, .inr (.inr (.inr (.inl f)))) => (n, .inr (.inr (.inr (.inl f))))
def emE (as dA : Nat → Nat) : va_E → va_E
  | .inl (t, a) => .inl (dA t, emA as a)
  | .inr (c, fs) => .inr (c, fs.map (em as))
def emW (as dA : Nat → Nat) (w : PW) : va_W := w.mapIdx (fun k e => (as k, emE as dA e))
def emL (as : Nat → Nat) (L : LV) : LV := L.map (fun q => (q.1, em as q.2))
theorem emW_get {as dA : Nat → Nat} {w : PW} {k : Nat} {e : va_E} (h : w[k]? = some e) : (emW as dA w)[k]? = some (as k, emE as dA e) := by
  simp [emW, List.getElem?_mapIdx, h]
theorem emW_set (as dA : Nat → Nat) (w : PW) (k : Nat) (e : va_E) : (emW as dA w).set k (as k, emE as dA e) = emW as dA (w.set k e) := by
  apply List.ext_getElem?
  intro j
  simp only [emW, List.getElem?_mapIdx, List.getElem?_set]
  by_cases hj : k = j
  · subst hj
    by_cases hl : k < w.length <;> simp [hl]
  · simp [hj]
/-- the locals behind a store -/
def ls1 (L : LV) (i : Nat) (v : Value) : LV := (i, v) :: L.filter (fun q => !(q.1 == i) && !(q.1 + 1 == i && q.2.category == 2))
def ls2 (L : LV) (i : Nat) (v : Value) : LV := (i, v) :: L.filter (fun q => !(q.1 == i) && (!(q.1 == i + 1) && !(q.1 + 1 == i && q.2.category == 2)))
theorem emL_ls1 (as : Nat → Nat) (L : LV) (i : Nat) (v : Value) : emL as (ls1 L i v) = (i, em as v) :: (emL as L).filter (fun q => !(q.1 == i) && !(q.1 + 1 == i && q.2.category == 2)) := by
  simp only [emL, ls1, List.map_cons, List.filter_map]
  congr 2
  apply List.filter_congr
  intro q _
  simp [em_cat]
theorem emL_ls2 (as : Nat → Nat) (L : LV) (i : Nat) (v : Value) : emL as (ls2 L i v) = (i, em as v) :: (emL as L).filter (fun q => !(q.1 == i) && (!(q.1 == i + 1) && !(q.1 + 1 == i && q.2.category == 2))) := by
  simp only [emL, ls2, List.map_cons, List.filter_map]
  congr 2
  apply List.filter_congr
  intro q _
  simp [em_cat]
theorem lk_mem {L : LV} {i : Nat} {v : Value} (h : L.lookup i = some v) : (i, v) ∈ L := by
  induction L with
  | nil => simp [List.lookup] at h
  | cons q L ih =>
    obtain ⟨j, x⟩ := q
    simp only [List.lookup] at h
    split at h
    · next hb =>
      have : i = j := by simpa using hb
      subst this
      cases h
      exact List.mem_cons_self
    · exact List.mem_cons_of_mem _ (ih h)
theorem lk_at {as : Nat → Nat} {ls : Array Slot} {n : Nat} {L : LV} (h : lv_has ls n (emL as L)) {i : Nat} {v : Value} (hk : L.lookup i = some v) : ls[i]? = some (.val (em as v)) :=
  h.2.2 (i, em as v) (List.mem_map.mpr ⟨(i, v), lk_mem hk, rfl⟩)
/-- the classes: the claim's own, and the three that it throws -/
def TX9 : u_T := fun _ => ("", "", "I", false)
def nIO : String := "java/lang/IndexOutOfBoundsException"
def nIA : String := "java/lang/IllegalArgumentException"
def nIS : String := "java/lang/IllegalStateException"
def vwC8 : List vw_C := [(RX0, TX0, 19), (RX1, TX1, 8), (RX2, TX2, 8), (RX3, TX3, 9), (RX4, TX4, 12), ("java/lang/IndexOutOfBoundsException", TX9, 0), ("java/lang/IllegalArgumentException", TX9, 0), ("java/lang/IllegalStateException", TX9, 0)]
/-- the kinds of arrays, by their tags: int, boolean, long, rows of ledgers -/
def tyT (dA : Nat → ClassId) : List (ClassId × FieldType) := [(dA 0, .int), (dA 1, .boolean), (dA 2, .long), (dA 3, .object RX0)]
def bd9 : List Cond := [.castable "java/lang/IndexOutOfBoundsException" "java/lang/IndexOutOfBoundsException", .castable "java/lang/IllegalArgumentException" "java/lang/IllegalArgumentException", .castable "java/lang/IllegalStateException" "java/lang/IllegalStateException"]
def tx5 : List (Nat × String) := [(79, "k=n"), (81, "w:k*n"), (83, "w=n"), (85, "n"), (87, "")]
def by5 : List (List Int32) := [[107, 61, 110], [119, 58, 107, 42, 110], [119, 61, 110], [110], []]
/-- what holds of a start beside its words: nest mates, castable, not castable, statics, texts -/
def GX (as : Nat → Nat) (A : Nat → Prop) (U : State) (H : Heap) : Prop :=
  (va_Nw (.methodLinkNest RX0 83 yX3_at "PledgeHouse") U ∧ va_Nw (.methodLinkNest RX0 91 yX3_fallen "PledgeHouse") U ∧ va_Nw (.methodLinkNest RX2 63 yX3_at "PledgeHouse") U ∧ va_Nw (.methodLinkNest RX3 18 yX2_init "PledgeHouse") U ∧ va_Nw (.methodLinkNest RX3 9 yX1_init "PledgeHouse") U) ∧
  (∀ w ∈ bd9, va_Nw w U) ∧ (va_Nc "java/lang/IllegalArgumentException" "java/lang/IndexOutOfBoundsException" U ∧ va_Nc "java/lang/IllegalStateException" "java/lang/IndexOutOfBoundsException" U ∧ va_Nc "java/lang/IllegalStateException" "java/lang/IllegalArgumentException" U) ∧
  vx_Zq Bundle.tN "UNASSIGNED_STACK" Bundle.steD A U H ∧ vx_Zq Bundle.tN "SUPPRESSED_SENTINEL" Bundle.listD A U H ∧
  va_Z "java/lang/String" "COMPACT_STRINGS" "Z" (.int 1) A U H ∧
  (∃ adV : Nat → Nat, vk_S 5 [3, 5, 3, 1, 0] by5 (fun i => as (1000 + i)) adV A U H) ∧ (∀ i, i < 5 → vk_R RX1 ((tx5.getD i (0, "")).1) ((tx5.getD i (0, "")).2) (as (1000 + i)) U)
theorem GX.warm {as : Nat → Nat} {A : Nat → Prop} {s U : State} {H : Heap} (hW : s.WarmedH U.vm) (h : GX as A s H) : GX as A U H := by
  obtain ⟨⟨a1, a2, a3, a4, a5⟩, b, ⟨n1, n2, n3⟩, c, d, e, ⟨f1, f2⟩, g⟩ := h
  refine ⟨⟨va_Nw.warmM hW a1, va_Nw.warmM hW a2, va_Nw.warmM hW a3, va_Nw.warmM hW a4, va_Nw.warmM hW a5⟩, ?_, ⟨va_Nc.moved hW.alike n1, va_Nc.moved hW.alike n2, va_Nc.moved hW.alike n3⟩, vx_Zq.moved hW.alike c, vx_Zq.moved hW.alike d, va_Z.moved hW.alike e, ⟨f1, vk_S.moved hW.alike f2⟩, fun i hi => vk_R.warm hW (g i hi)⟩
  intro w hw
  have hb := b w hw
  simp only [bd9, List.mem_cons, List.not_mem_nil, or_false] at hw
  rcases hw with rfl | rfl | rfl <;> exact va_Nw.warmC hW hb
theorem GX.kept {as : Nat → Nat} {A : Nat → Prop} {U : State} {H H1 : Heap} (h : GX as A U H) (hq : ∀ a : Nat, a < H.size → ¬ A a → H1[a]? = H[a]?) : GX as A U H1 := by
  obtain ⟨a, b, n, c, d, e, ⟨f1, f2⟩, g⟩ := h
  exact ⟨a, b, n, c.kept hq, d.kept hq, e.kept hq, ⟨f1, f2.kept hq⟩, g⟩
theorem GX.narrow {as : Nat → Nat} {A B : Nat → Prop} {U : State} {H : Heap} (h : GX as A U H) (hAB : ∀ q, B q → A q) : GX as B U H := by
  obtain ⟨a, b, n, c, d, e, ⟨f1, f2⟩, g⟩ := h
  exact ⟨a, b, n, c.narrow hAB, d.narrow hAB, e.narrow hAB, ⟨f1, f2.narrow hAB⟩, g⟩
def scO (o : Option (Nat × (Nat → Int32))) (as : Nat → Nat) (A : Nat → Prop) (s : State) : Prop := match o with
  | none => True
  | some (n, xs) => va_X (as 999) n xs s s.heap ∧ as 999 < s.heap.size ∧ ¬ A (as 999)
/-- what stays as it is while a method runs -/
def Sx (M : MT) (p : Program) (l : Launch) (s : State) (m : MethodId) (args : Array Value) (meth : Method) (c : Code) (dC : Nat → ClassId) (dI : Nat → Nat → Nat) (dA : Nat → ClassId) (as : Nat → Nat) (A : Nat → Prop) : Prop :=
  p.tables.exec = Jvm.exec ∧ c.code = mC M ∧ c.maxLocals = mN M ∧ s.vm.findClass (mY M).cls = some m.cls ∧ (∀ w ∈ Gw, w.before args s = true) ∧ l.stackTraces = false ∧ meth.locks = false ∧ c.exceptionTable.toList = tableOf (mH M) ∧ va_K (dC, dI) vwC8 (tyT dA) s ∧ (∀ q, s.heap.size ≤ q → A q) ∧ GX as A s s.heap ∧ scO (mS M) as A s
/-- what holds at a point: the world, the frame -/
def Dy (M : MT) (s : State) (dC : Nat → ClassId) (dI : Nat → Nat → Nat) (dA : Nat → ClassId) (as : Nat → Nat) (A : Nat → Prop) (H : Heap) (locs : List Loc) (w : PW) : Prop :=
  va_P (dC, dI) vwC8 (emW as dA w) H ∧ va_D A (emW as dA w) ∧ va_S A s.heap H locs
def rtI : Option Value → Instr
  | some (.int _) => .ireturn
  | some (.long _) => .lreturn
  | some (.float _) => .freturn
  | some (.double _) => .dreturn
  | none => .return_
  | _ => .areturn
def En (M : MT) (po : PO) (px : PX) (p : Program) (l : Launch) (e : Env) (s : State) (m : MethodId) (args : Array Value) (below : List Frame) (meth : Method) (c : Code) (dC : Nat → ClassId) (dI : Nat → Nat → Nat) (dA : Nat → ClassId) (as : Nat → Nat) (A : Nat → Prop) (Q : State → Prop) : Prop :=
  (∀ (H : Heap) (locs : List Loc) (ls : Array Slot) (pc : Nat) (v : Option Value) (w : PW), po v w → Dy M s dC dI dA as A H locs w → ls.size = mN M → decode (mC M) pc = .ok (rtI v, 1) → W p l e (mR M) s m args below meth c H locs (mK M) (6 * mK M) Q (F0 m pc ls ((v.map (em as)).toList))) ∧
  (∀ (H : Heap) (locs : List Loc) (ls : Array Slot) (pc : Nat) (st : List Value) (E : String) (ce : Cell) (q : Addr) (w : PW), px E w → Dy M s dC dI dA as A H locs w → (∀ x ∈ tableOf (mH M), covers x pc = false) → H[q]? = some ce → ce.vm = .none → s.vm.findClass E = some ce.cls → vx_W p l e (mR M) s m args below meth c H locs (mK M) (6 * mK M) Q (F0 m pc ls st) q)
/-- FROM HERE the method ends: po says how it returns, px how it throws -/
def Ev (M : MT) (po : PO) (px : PX) (k : Nat) (pc : Nat) (L : LV) (st : List Value) (w : PW) : Prop :=
  ∀ (p : Program) (l : Launch) (e : Env) (s : State) (m : MethodId) (args : Array Value) (below : List Frame) (meth : Method) (c : Code) (dC : Nat → ClassId) (dI : Nat → Nat → Nat) (dA : Nat → ClassId) (as : Nat → Nat) (A : Nat → Prop) (Q : State → Prop) (H : Heap) (locs : List Loc) (ls : Array Slot),
    Sx M p l s m args meth c dC dI dA as A → En M po px p l e s m args below meth c dC dI dA as A Q → Dy M s dC dI dA as A H locs w → lv_has ls (mN M) (emL as L) →
    W p l e (mR M) s m args below meth c H locs k (6 * k) Q (F0 m pc ls (st.map (em as)))
section EV
variable {M : MT} {po : PO} {px : PX} {k pc : Nat} {L : LV} {st : List Value} {w : PW}

theorem ev_iconst {n : Int} (v : Int32) (d : decode (mC M) pc = .ok (.iconst n, 1)) (hv : Int32.ofInt n = v) (kk : Ev M po px k (pc + 1) L (.int v :: st) w) : Ev M po px k pc L (st) w := by
  intro p l e s m args below meth c dC dI dA as A Q H locs ls hX hE hD hl
  obtain ⟨hx, hb, hml, hown, hts, hst, hlk, htb, hK, hA, hG, hsc⟩ := id hX
  obtain ⟨hP, hDD, hS⟩ := id hD
  exact lv_iconst hx hb d hv (kk _ _ _ _ _ _ _ _ _ _ _ _ _ _ _ _ _ _ hX hE hD hl)
theorem ev_bipush {n : Int} (v : Int32) (d : decode (mC M) pc = .ok (.bipush n, 2)) (hv : (Int8.ofInt n).toInt32 = v) (kk : Ev M po px k (pc + 2) L (.int v :: st) w) : Ev M po px k pc L (st) w := by
  intro p l e s m args below meth c dC dI dA as A Q H locs ls hX hE hD hl
  obtain ⟨hx, hb, hml, hown, hts, hst, hlk, htb, hK, hA, hG, hsc⟩ := id hX
  obtain ⟨hP, hDD, hS⟩ := id hD
  exact lv_bipush hx hb d hv (kk _ _ _ _ _ _ _ _ _ _ _ _ _ _ _ _ _ _ hX hE hD hl)
theorem ev_sipush {n : Int} (v : Int32) (d : decode (mC M) pc = .ok (.sipush n, 3)) (hv : (Int16.ofInt n).toInt32 = v) (kk : Ev M po px k (pc + 3) L (.int v :: st) w) : Ev M po px k pc L (st) w := by
  intro p l e s m args below meth c dC dI dA as A Q H locs ls hX hE hD hl
  obtain ⟨hx, hb, hml, hown, hts, hst, hlk, htb, hK, hA, hG, hsc⟩ := id hX
  obtain ⟨hP, hDD, hS⟩ := id hD
  exact lv_sipush hx hb d hv (kk _ _ _ _ _ _ _ _ _ _ _ _ _ _ _ _ _ _ hX hE hD hl)
theorem ev_lconst {n : Fin 2} (v : Int64) (d : decode (mC M) pc = .ok (.lconst n, 1)) (hv : Int64.ofNat (n : Nat) = v) (kk : Ev M po px k (pc + 1) L (.long v :: st) w) : Ev M po px k pc L (st) w := by
  intro p l e s m args below meth c dC dI dA as A Q H locs ls hX hE hD hl
  obtain ⟨hx, hb, hml, hown, hts, hst, hlk, htb, hK, hA, hG, hsc⟩ := id hX
  obtain ⟨hP, hDD, hS⟩ := id hD
  exact lv_lconst hx hb d hv (kk _ _ _ _ _ _ _ _ _ _ _ _ _ _ _ _ _ _ hX hE hD hl)
theorem ev_dconst0  (d : decode (mC M) pc = .ok (.dconst 0, 1))  (kk : Ev M po px k (pc + 1) L (.double FP.dconst0 :: st) w) : Ev M po px k pc L (st) w := by
  intro p l e s m args below meth c dC dI dA as A Q H locs ls hX hE hD hl
  obtain ⟨hx, hb, hml, hown, hts, hst, hlk, htb, hK, hA, hG, hsc⟩ := id hX
  obtain ⟨hP, hDD, hS⟩ := id hD
  exact lv_dconst0 hx hb d  (kk _ _ _ _ _ _ _ _ _ _ _ _ _ _ _ _ _ _ hX hE hD hl)
theorem ev_dconst1  (d : decode (mC M) pc = .ok (.dconst 1, 1))  (kk : Ev M po px k (pc + 1) L (.double FP.dconst1 :: st) w) : Ev M po px k pc L (st) w := by
  intro p l e s m args below meth c dC dI dA as A Q H locs ls hX hE hD hl
  obtain ⟨hx, hb, hml, hown, hts, hst, hlk, htb, hK, hA, hG, hsc⟩ := id hX
  obtain ⟨hP, hDD, hS⟩ := id hD
  exact lv_dconst1 hx hb d  (kk _ _ _ _ _ _ _ _ _ _ _ _ _ _ _ _ _ _ hX hE hD hl)
theorem ev_iload_n {q : Fin 4} (i : Nat) {x : Int32} (d : decode (mC M) pc = .ok (.iload_n q, 1)) (hi : (q : Nat) = i) (h : L.lookup i = some (.int x)) (kk : Ev M po px k (pc + 1) L (.int x :: st) w) : Ev M po px k pc L (st) w := by
  intro p l e s m args below meth c dC dI dA as A Q H locs ls hX hE hD hl
  obtain ⟨hx, hb, hml, hown, hts, hst, hlk, htb, hK, hA, hG, hsc⟩ := id hX
  obtain ⟨hP, hDD, hS⟩ := id hD
  exact lv_iload_n hx hb d hi (lk_at hl h) (kk _ _ _ _ _ _ _ _ _ _ _ _ _ _ _ _ _ _ hX hE hD hl)
theorem ev_iload {i : Nat} {x : Int32} (d : decode (mC M) pc = .ok (.iload i, 2)) (h : L.lookup i = some (.int x)) (kk : Ev M po px k (pc + 2) L (.int x :: st) w) : Ev M po px k pc L (st) w := by
  intro p l e s m args below meth c dC dI dA as A Q H locs ls hX hE hD hl
  obtain ⟨hx, hb, hml, hown, hts, hst, hlk, htb, hK, hA, hG, hsc⟩ := id hX
  obtain ⟨hP, hDD, hS⟩ := id hD
  exact lv_iload hx hb d (lk_at hl h) (kk _ _ _ _ _ _ _ _ _ _ _ _ _ _ _ _ _ _ hX hE hD hl)
theorem ev_lload_n {q : Fin 4} (i : Nat) {x : Int64} (d : decode (mC M) pc = .ok (.lload_n q, 1)) (hi : (q : Nat) = i) (h : L.lookup i = some (.long x)) (kk : Ev M po px k (pc + 1) L (.long x :: st) w) : Ev M po px k pc L (st) w := by
  intro p l e s m args below meth c dC dI dA as A Q H locs ls hX hE hD hl
  obtain ⟨hx, hb, hml, hown, hts, hst, hlk, htb, hK, hA, hG, hsc⟩ := id hX
  obtain ⟨hP, hDD, hS⟩ := id hD
  exact lv_lload_n hx hb d hi (lk_at hl h) (kk _ _ _ _ _ _ _ _ _ _ _ _ _ _ _ _ _ _ hX hE hD hl)
theorem ev_lload {i : Nat} {x : Int64} (d : decode (mC M) pc = .ok (.lload i, 2)) (h : L.lookup i = some (.long x)) (kk : Ev M po px k (pc + 2) L (.long x :: st) w) : Ev M po px k pc L (st) w := by
  intro p l e s m args below meth c dC dI dA as A Q H locs ls hX hE hD hl
  obtain ⟨hx, hb, hml, hown, hts, hst, hlk, htb, hK, hA, hG, hsc⟩ := id hX
  obtain ⟨hP, hDD, hS⟩ := id hD
  exact lv_lload hx hb d (lk_at hl h) (kk _ _ _ _ _ _ _ _ _ _ _ _ _ _ _ _ _ _ hX hE hD hl)
theorem ev_dload_n {q : Fin 4} (i : Nat) {x : UInt64} (d : decode (mC M) pc = .ok (.dload_n q, 1)) (hi : (q : Nat) = i) (h : L.lookup i = some (.double x)) (kk : Ev M po px k (pc + 1) L (.double x :: st) w) : Ev M po px k pc L (st) w := by
  intro p l e s m args below meth c dC dI dA as A Q H locs ls hX hE hD hl
  obtain ⟨hx, hb, hml, hown, hts, hst, hlk, htb, hK, hA, hG, hsc⟩ := id hX
  obtain ⟨hP, hDD, hS⟩ := id hD
  exact lv_dload_n hx hb d hi (lk_at hl h) (kk _ _ _ _ _ _ _ _ _ _ _ _ _ _ _ _ _ _ hX hE hD hl)
theorem ev_dload {i : Nat} {x : UInt64} (d : decode (mC M) pc = .ok (.dload i, 2)) (h : L.lookup i = some (.double x)) (kk : Ev M po px k (pc + 2) L (.double x :: st) w) : Ev M po px k pc L (st) w := by
  intro p l e s m args below meth c dC dI dA as A Q H locs ls hX hE hD hl
  obtain ⟨hx, hb, hml, hown, hts, hst, hlk, htb, hK, hA, hG, hsc⟩ := id hX
  obtain ⟨hP, hDD, hS⟩ := id hD
  exact lv_dload hx hb d (lk_at hl h) (kk _ _ _ _ _ _ _ _ _ _ _ _ _ _ _ _ _ _ hX hE hD hl)
theorem ev_aload_n {q : Fin 4} (i : Nat) {x : Nat} (d : decode (mC M) pc = .ok (.aload_n q, 1)) (hi : (q : Nat) = i) (h : L.lookup i = some (.ref x)) (kk : Ev M po px k (pc + 1) L (.ref x :: st) w) : Ev M po px k pc L (st) w := by
  intro p l e s m args below meth c dC dI dA as A Q H locs ls hX hE hD hl
  obtain ⟨hx, hb, hml, hown, hts, hst, hlk, htb, hK, hA, hG, hsc⟩ := id hX
  obtain ⟨hP, hDD, hS⟩ := id hD
  exact lv_aload_n hx hb d hi (lk_at hl h) (kk _ _ _ _ _ _ _ _ _ _ _ _ _ _ _ _ _ _ hX hE hD hl)
theorem ev_aload {i : Nat} {x : Nat} (d : decode (mC M) pc = .ok (.aload i, 2)) (h : L.lookup i = some (.ref x)) (kk : Ev M po px k (pc + 2) L (.ref x :: st) w) : Ev M po px k pc L (st) w := by
  intro p l e s m args below meth c dC dI dA as A Q H locs ls hX hE hD hl
  obtain ⟨hx, hb, hml, hown, hts, hst, hlk, htb, hK, hA, hG, hsc⟩ := id hX
  obtain ⟨hP, hDD, hS⟩ := id hD
  exact lv_aload hx hb d (lk_at hl h) (kk _ _ _ _ _ _ _ _ _ _ _ _ _ _ _ _ _ _ hX hE hD hl)
theorem ev_istore_n {q : Fin 4} (i : Nat) {x : Int32} {L' : LV} (d : decode (mC M) pc = .ok (.istore_n q, 1)) (hi : (q : Nat) = i) (hn : i < mN M) (hL : ls1 L i (.int x) = L') (kk : Ev M po px k (pc + 1) L' st w) : Ev M po px k pc L (.int x :: st) w := by
  intro p l e s m args below meth c dC dI dA as A Q H locs ls hX hE hD hl
  obtain ⟨hx, hb, hml, hown, hts, hst, hlk, htb, hK, hA, hG, hsc⟩ := id hX
  obtain ⟨hP, hDD, hS⟩ := id hD
  subst hL
  exact lv_istore_n hx hb d hi hl hn (emL_ls1 as L i (.int x)).symm (fun ls hl => (kk _ _ _ _ _ _ _ _ _ _ _ _ _ _ _ _ _ _ hX hE hD hl))
theorem ev_istore {i : Nat} {x : Int32} {L' : LV} (d : decode (mC M) pc = .ok (.istore i, 2)) (hn : i < mN M) (hL : ls1 L i (.int x) = L') (kk : Ev M po px k (pc + 2) L' st w) : Ev M po px k pc L (.int x :: st) w := by
  intro p l e s m args below meth c dC dI dA as A Q H locs ls hX hE hD hl
  obtain ⟨hx, hb, hml, hown, hts, hst, hlk, htb, hK, hA, hG, hsc⟩ := id hX
  obtain ⟨hP, hDD, hS⟩ := id hD
  subst hL
  exact lv_istore hx hb d hl hn (emL_ls1 as L i (.int x)).symm (fun ls hl => (kk _ _ _ _ _ _ _ _ _ _ _ _ _ _ _ _ _ _ hX hE hD hl))
theorem ev_astore_n {q : Fin 4} (i : Nat) {x : Nat} {L' : LV} (d : decode (mC M) pc = .ok (.astore_n q, 1)) (hi : (q : Nat) = i) (hn : i < mN M) (hL : ls1 L i (.ref x) = L') (kk : Ev M po px k (pc + 1) L' st w) : Ev M po px k pc L (.ref x :: st) w := by
  intro p l e s m args below meth c dC dI dA as A Q H locs ls hX hE hD hl
  obtain ⟨hx, hb, hml, hown, hts, hst, hlk, htb, hK, hA, hG, hsc⟩ := id hX
  obtain ⟨hP, hDD, hS⟩ := id hD
  subst hL
  exact lv_astore_n hx hb d hi hl hn (emL_ls1 as L i (.ref x)).symm (fun ls hl => (kk _ _ _ _ _ _ _ _ _ _ _ _ _ _ _ _ _ _ hX hE hD hl))
theorem ev_astore {i : Nat} {x : Nat} {L' : LV} (d : decode (mC M) pc = .ok (.astore i, 2)) (hn : i < mN M) (hL : ls1 L i (.ref x) = L') (kk : Ev M po px k (pc + 2) L' st w) : Ev M po px k pc L (.ref x :: st) w := by
  intro p l e s m args below meth c dC dI dA as A Q H locs ls hX hE hD hl
  obtain ⟨hx, hb, hml, hown, hts, hst, hlk, htb, hK, hA, hG, hsc⟩ := id hX
  obtain ⟨hP, hDD, hS⟩ := id hD
  subst hL
  exact lv_astore hx hb d hl hn (emL_ls1 as L i (.ref x)).symm (fun ls hl => (kk _ _ _ _ _ _ _ _ _ _ _ _ _ _ _ _ _ _ hX hE hD hl))
theorem ev_lstore_n {q : Fin 4} (i : Nat) {x : Int64} {L' : LV} (d : decode (mC M) pc = .ok (.lstore_n q, 1)) (hi : (q : Nat) = i) (hn : i + 1 < mN M) (hL : ls2 L i (.long x) = L') (kk : Ev M po px k (pc + 1) L' st w) : Ev M po px k pc L (.long x :: st) w := by
  intro p l e s m args below meth c dC dI dA as A Q H locs ls hX hE hD hl
  obtain ⟨hx, hb, hml, hown, hts, hst, hlk, htb, hK, hA, hG, hsc⟩ := id hX
  obtain ⟨hP, hDD, hS⟩ := id hD
  subst hL
  exact lv_lstore_n hx hb d hi hl hn (emL_ls2 as L i (.long x)).symm (fun ls hl => (kk _ _ _ _ _ _ _ _ _ _ _ _ _ _ _ _ _ _ hX hE hD hl))
theorem ev_lstore {i : Nat} {x : Int64} {L' : LV} (d : decode (mC M) pc = .ok (.lstore i, 2)) (hn : i + 1 < mN M) (hL : ls2 L i (.long x) = L') (kk : Ev M po px k (pc + 2) L' st w) : Ev M po px k pc L (.long x :: st) w := by
  intro p l e s m args below meth c dC dI dA as A Q H locs ls hX hE hD hl
  obtain ⟨hx, hb, hml, hown, hts, hst, hlk, htb, hK, hA, hG, hsc⟩ := id hX
  obtain ⟨hP, hDD, hS⟩ := id hD
  subst hL
  exact lv_lstore hx hb d hl hn (emL_ls2 as L i (.long x)).symm (fun ls hl => (kk _ _ _ _ _ _ _ _ _ _ _ _ _ _ _ _ _ _ hX hE hD hl))
theorem ev_dstore_n {q : Fin 4} (i : Nat) {x : UInt64} {L' : LV} (d : decode (mC M) pc = .ok (.dstore_n q, 1)) (hi : (q : Nat) = i) (hn : i + 1 < mN M) (hL : ls2 L i (.double x) = L') (kk : Ev M po px k (pc + 1) L' st w) : Ev M po px k pc L (.double x :: st) w := by
  intro p l e s m args below meth c dC dI dA as A Q H locs ls hX hE hD hl
  obtain ⟨hx, hb, hml, hown, hts, hst, hlk, htb, hK, hA, hG, hsc⟩ := id hX
  obtain ⟨hP, hDD, hS⟩ := id hD
  subst hL
  exact lv_dstore_n hx hb d hi hl hn (emL_ls2 as L i (.double x)).symm (fun ls hl => (kk _ _ _ _ _ _ _ _ _ _ _ _ _ _ _ _ _ _ hX hE hD hl))
theorem ev_dstore {i : Nat} {x : UInt64} {L' : LV} (d : decode (mC M) pc = .ok (.dstore i, 2)) (hn : i + 1 < mN M) (hL : ls2 L i (.double x) = L') (kk : Ev M po px k (pc + 2) L' st w) : Ev M po px k pc L (.double x :: st) w := by
  intro p l e s m args below meth c dC dI dA as A Q H locs ls hX hE hD hl
  obtain ⟨hx, hb, hml, hown, hts, hst, hlk, htb, hK, hA, hG, hsc⟩ := id hX
  obtain ⟨hP, hDD, hS⟩ := id hD
  subst hL
  exact lv_dstore hx hb d hl hn (emL_ls2 as L i (.double x)).symm (fun ls hl => (kk _ _ _ _ _ _ _ _ _ _ _ _ _ _ _ _ _ _ hX hE hD hl))
theorem ev_iinc {i : Nat} {n : Int} {x : Int32} (v : Int32) {L' : LV} (d : decode (mC M) pc = .ok (.iinc i n, 3)) (h : L.lookup i = some (.int x)) (hv : x + Int32.ofInt n = v) (hn : i < mN M) (hL : ls1 L i (.int v) = L') (kk : Ev M po px k (pc + 3) L' st w) : Ev M po px k pc L st w := by
  intro p l e s m args below meth c dC dI dA as A Q H locs ls hX hE hD hl
  obtain ⟨hx, hb, hml, hown, hts, hst, hlk, htb, hK, hA, hG, hsc⟩ := id hX
  obtain ⟨hP, hDD, hS⟩ := id hD
  subst hL
  obtain ⟨j, hj⟩ := List.getElem?_of_mem (List.mem_map.mpr ⟨(i, Value.int x), lk_mem h, rfl⟩ : (i, Value.int x) ∈ emL as L)
  exact lv_iinc hx hb d hl hj hv hn (emL_ls1 as L i (.int v)).symm (fun ls hl => (kk _ _ _ _ _ _ _ _ _ _ _ _ _ _ _ _ _ _ hX hE hD hl))
theorem ev_iadd {x y : Int32} (d : decode (mC M) pc = .ok (.iadd, 1))  (kk : Ev M po px k (pc + 1) L (.int (x + y) :: st) w) : Ev M po px k pc L (.int y :: .int x :: st) w := by
  intro p l e s m args below meth c dC dI dA as A Q H locs ls hX hE hD hl
  obtain ⟨hx, hb, hml, hown, hts, hst, hlk, htb, hK, hA, hG, hsc⟩ := id hX
  obtain ⟨hP, hDD, hS⟩ := id hD
  exact lv_iadd hx hb d  (kk _ _ _ _ _ _ _ _ _ _ _ _ _ _ _ _ _ _ hX hE hD hl)
theorem ev_isub {x y : Int32} (d : decode (mC M) pc = .ok (.isub, 1))  (kk : Ev M po px k (pc + 1) L (.int (x - y) :: st) w) : Ev M po px k pc L (.int y :: .int x :: st) w := by
  intro p l e s m args below meth c dC dI dA as A Q H locs ls hX hE hD hl
  obtain ⟨hx, hb, hml, hown, hts, hst, hlk, htb, hK, hA, hG, hsc⟩ := id hX
  obtain ⟨hP, hDD, hS⟩ := id hD
  exact lv_isub hx hb d  (kk _ _ _ _ _ _ _ _ _ _ _ _ _ _ _ _ _ _ hX hE hD hl)
theorem ev_imul {x y : Int32} (d : decode (mC M) pc = .ok (.imul, 1))  (kk : Ev M po px k (pc + 1) L (.int (x * y) :: st) w) : Ev M po px k pc L (.int y :: .int x :: st) w := by
  intro p l e s m args below meth c dC dI dA as A Q H locs ls hX hE hD hl
  obtain ⟨hx, hb, hml, hown, hts, hst, hlk, htb, hK, hA, hG, hsc⟩ := id hX
  obtain ⟨hP, hDD, hS⟩ := id hD
  exact lv_imul hx hb d  (kk _ _ _ _ _ _ _ _ _ _ _ _ _ _ _ _ _ _ hX hE hD hl)
theorem ev_iand {x y : Int32} (d : decode (mC M) pc = .ok (.iand, 1))  (kk : Ev M po px k (pc + 1) L (.int (x &&& y) :: st) w) : Ev M po px k pc L (.int y :: .int x :: st) w := by
  intro p l e s m args below meth c dC dI dA as A Q H locs ls hX hE hD hl
  obtain ⟨hx, hb, hml, hown, hts, hst, hlk, htb, hK, hA, hG, hsc⟩ := id hX
  obtain ⟨hP, hDD, hS⟩ := id hD
  exact lv_iand hx hb d  (kk _ _ _ _ _ _ _ _ _ _ _ _ _ _ _ _ _ _ hX hE hD hl)
theorem ev_ior {x y : Int32} (d : decode (mC M) pc = .ok (.ior, 1))  (kk : Ev M po px k (pc + 1) L (.int (x ||| y) :: st) w) : Ev M po px k pc L (.int y :: .int x :: st) w := by
  intro p l e s m args below meth c dC dI dA as A Q H locs ls hX hE hD hl
  obtain ⟨hx, hb, hml, hown, hts, hst, hlk, htb, hK, hA, hG, hsc⟩ := id hX
  obtain ⟨hP, hDD, hS⟩ := id hD
  exact lv_ior hx hb d  (kk _ _ _ _ _ _ _ _ _ _ _ _ _ _ _ _ _ _ hX hE hD hl)
theorem ev_ladd {x y : Int64} (d : decode (mC M) pc = .ok (.ladd, 1))  (kk : Ev M po px k (pc + 1) L (.long (x + y) :: st) w) : Ev M po px k pc L (.long y :: .long x :: st) w := by
  intro p l e s m args below meth c dC dI dA as A Q H locs ls hX hE hD hl
  obtain ⟨hx, hb, hml, hown, hts, hst, hlk, htb, hK, hA, hG, hsc⟩ := id hX
  obtain ⟨hP, hDD, hS⟩ := id hD
  exact lv_ladd hx hb d  (kk _ _ _ _ _ _ _ _ _ _ _ _ _ _ _ _ _ _ hX hE hD hl)
theorem ev_lsub {x y : Int64} (d : decode (mC M) pc = .ok (.lsub, 1))  (kk : Ev M po px k (pc + 1) L (.long (x - y) :: st) w) : Ev M po px k pc L (.long y :: .long x :: st) w := by
  intro p l e s m args below meth c dC dI dA as A Q H locs ls hX hE hD hl
  obtain ⟨hx, hb, hml, hown, hts, hst, hlk, htb, hK, hA, hG, hsc⟩ := id hX
  obtain ⟨hP, hDD, hS⟩ := id hD
  exact lv_lsub hx hb d  (kk _ _ _ _ _ _ _ _ _ _ _ _ _ _ _ _ _ _ hX hE hD hl)
theorem ev_lmul {x y : Int64} (d : decode (mC M) pc = .ok (.lmul, 1))  (kk : Ev M po px k (pc + 1) L (.long (x * y) :: st) w) : Ev M po px k pc L (.long y :: .long x :: st) w := by
  intro p l e s m args below meth c dC dI dA as A Q H locs ls hX hE hD hl
  obtain ⟨hx, hb, hml, hown, hts, hst, hlk, htb, hK, hA, hG, hsc⟩ := id hX
  obtain ⟨hP, hDD, hS⟩ := id hD
  exact lv_lmul hx hb d  (kk _ _ _ _ _ _ _ _ _ _ _ _ _ _ _ _ _ _ hX hE hD hl)
theorem ev_ishl {x y : Int32} (d : decode (mC M) pc = .ok (.ishl, 1))  (kk : Ev M po px k (pc + 1) L (.int (x <<< (y &&& 31)) :: st) w) : Ev M po px k pc L (.int y :: .int x :: st) w := by
  intro p l e s m args below meth c dC dI dA as A Q H locs ls hX hE hD hl
  obtain ⟨hx, hb, hml, hown, hts, hst, hlk, htb, hK, hA, hG, hsc⟩ := id hX
  obtain ⟨hP, hDD, hS⟩ := id hD
  exact lv_ishl hx hb d  (kk _ _ _ _ _ _ _ _ _ _ _ _ _ _ _ _ _ _ hX hE hD hl)
theorem ev_ishr {x y : Int32} (d : decode (mC M) pc = .ok (.ishr, 1))  (kk : Ev M po px k (pc + 1) L (.int (x >>> (y &&& 31)) :: st) w) : Ev M po px k pc L (.int y :: .int x :: st) w := by
  intro p l e s m args below meth c dC dI dA as A Q H locs ls hX hE hD hl
  obtain ⟨hx, hb, hml, hown, hts, hst, hlk, htb, hK, hA, hG, hsc⟩ := id hX
  obtain ⟨hP, hDD, hS⟩ := id hD
  exact lv_ishr hx hb d  (kk _ _ _ _ _ _ _ _ _ _ _ _ _ _ _ _ _ _ hX hE hD hl)
theorem ev_idiv {x y : Int32} (d : decode (mC M) pc = .ok (.idiv, 1)) (hne : ¬ y = 0) (kk : Ev M po px k (pc + 1) L (.int (x / y) :: st) w) : Ev M po px k pc L (.int y :: .int x :: st) w := by
  intro p l e s m args below meth c dC dI dA as A Q H locs ls hX hE hD hl
  obtain ⟨hx, hb, hml, hown, hts, hst, hlk, htb, hK, hA, hG, hsc⟩ := id hX
  obtain ⟨hP, hDD, hS⟩ := id hD
  exact lv_idiv hx hb d hne (kk _ _ _ _ _ _ _ _ _ _ _ _ _ _ _ _ _ _ hX hE hD hl)
theorem ev_irem {x y : Int32} (d : decode (mC M) pc = .ok (.irem, 1)) (hne : ¬ y = 0) (kk : Ev M po px k (pc + 1) L (.int (x - x / y * y) :: st) w) : Ev M po px k pc L (.int y :: .int x :: st) w := by
  intro p l e s m args below meth c dC dI dA as A Q H locs ls hX hE hD hl
  obtain ⟨hx, hb, hml, hown, hts, hst, hlk, htb, hK, hA, hG, hsc⟩ := id hX
  obtain ⟨hP, hDD, hS⟩ := id hD
  exact lv_irem hx hb d hne (kk _ _ _ _ _ _ _ _ _ _ _ _ _ _ _ _ _ _ hX hE hD hl)
theorem ev_ldiv {x y : Int64} (d : decode (mC M) pc = .ok (.ldiv, 1)) (hne : ¬ y = 0) (kk : Ev M po px k (pc + 1) L (.long (x / y) :: st) w) : Ev M po px k pc L (.long y :: .long x :: st) w := by
  intro p l e s m args below meth c dC dI dA as A Q H locs ls hX hE hD hl
  obtain ⟨hx, hb, hml, hown, hts, hst, hlk, htb, hK, hA, hG, hsc⟩ := id hX
  obtain ⟨hP, hDD, hS⟩ := id hD
  exact lv_ldiv hx hb d hne (kk _ _ _ _ _ _ _ _ _ _ _ _ _ _ _ _ _ _ hX hE hD hl)
theorem ev_ineg {x : Int32} (d : decode (mC M) pc = .ok (.ineg, 1))  (kk : Ev M po px k (pc + 1) L (.int (-x) :: st) w) : Ev M po px k pc L (.int x :: st) w := by
  intro p l e s m args below meth c dC dI dA as A Q H locs ls hX hE hD hl
  obtain ⟨hx, hb, hml, hown, hts, hst, hlk, htb, hK, hA, hG, hsc⟩ := id hX
  obtain ⟨hP, hDD, hS⟩ := id hD
  exact lv_ineg hx hb d  (kk _ _ _ _ _ _ _ _ _ _ _ _ _ _ _ _ _ _ hX hE hD hl)
theorem ev_i2l {x : Int32} (d : decode (mC M) pc = .ok (.i2l, 1))  (kk : Ev M po px k (pc + 1) L (.long x.toInt64 :: st) w) : Ev M po px k pc L (.int x :: st) w := by
  intro p l e s m args below meth c dC dI dA as A Q H locs ls hX hE hD hl
  obtain ⟨hx, hb, hml, hown, hts, hst, hlk, htb, hK, hA, hG, hsc⟩ := id hX
  obtain ⟨hP, hDD, hS⟩ := id hD
  exact lv_i2l hx hb d rfl (kk _ _ _ _ _ _ _ _ _ _ _ _ _ _ _ _ _ _ hX hE hD hl)
theorem ev_l2i {x : Int64} (d : decode (mC M) pc = .ok (.l2i, 1))  (kk : Ev M po px k (pc + 1) L (.int x.toInt32 :: st) w) : Ev M po px k pc L (.long x :: st) w := by
  intro p l e s m args below meth c dC dI dA as A Q H locs ls hX hE hD hl
  obtain ⟨hx, hb, hml, hown, hts, hst, hlk, htb, hK, hA, hG, hsc⟩ := id hX
  obtain ⟨hP, hDD, hS⟩ := id hD
  exact lv_l2i hx hb d rfl (kk _ _ _ _ _ _ _ _ _ _ _ _ _ _ _ _ _ _ hX hE hD hl)
theorem ev_i2c {x : Int32} (d : decode (mC M) pc = .ok (.i2c, 1))  (kk : Ev M po px k (pc + 1) L (.int (x.toUInt32 % 65536).toInt32 :: st) w) : Ev M po px k pc L (.int x :: st) w := by
  intro p l e s m args below meth c dC dI dA as A Q H locs ls hX hE hD hl
  obtain ⟨hx, hb, hml, hown, hts, hst, hlk, htb, hK, hA, hG, hsc⟩ := id hX
  obtain ⟨hP, hDD, hS⟩ := id hD
  exact lv_i2c hx hb d rfl (kk _ _ _ _ _ _ _ _ _ _ _ _ _ _ _ _ _ _ hX hE hD hl)
theorem ev_lshl {x : Int64} {y : Int32} (d : decode (mC M) pc = .ok (.lshl, 1))  (kk : Ev M po px k (pc + 1) L (.long (x <<< (y.toInt64 &&& 63)) :: st) w) : Ev M po px k pc L (.int y :: .long x :: st) w := by
  intro p l e s m args below meth c dC dI dA as A Q H locs ls hX hE hD hl
  obtain ⟨hx, hb, hml, hown, hts, hst, hlk, htb, hK, hA, hG, hsc⟩ := id hX
  obtain ⟨hP, hDD, hS⟩ := id hD
  exact lv_lshl hx hb d rfl (kk _ _ _ _ _ _ _ _ _ _ _ _ _ _ _ _ _ _ hX hE hD hl)
theorem ev_i2d {x : Int32} (d : decode (mC M) pc = .ok (.i2d, 1))  (kk : Ev M po px k (pc + 1) L (.double (FP.i2d x) :: st) w) : Ev M po px k pc L (.int x :: st) w := by
  intro p l e s m args below meth c dC dI dA as A Q H locs ls hX hE hD hl
  obtain ⟨hx, hb, hml, hown, hts, hst, hlk, htb, hK, hA, hG, hsc⟩ := id hX
  obtain ⟨hP, hDD, hS⟩ := id hD
  exact lv_i2d hx hb d  (kk _ _ _ _ _ _ _ _ _ _ _ _ _ _ _ _ _ _ hX hE hD hl)
theorem ev_l2d {x : Int64} (d : decode (mC M) pc = .ok (.l2d, 1))  (kk : Ev M po px k (pc + 1) L (.double (FP.l2d x) :: st) w) : Ev M po px k pc L (.long x :: st) w := by
  intro p l e s m args below meth c dC dI dA as A Q H locs ls hX hE hD hl
  obtain ⟨hx, hb, hml, hown, hts, hst, hlk, htb, hK, hA, hG, hsc⟩ := id hX
  obtain ⟨hP, hDD, hS⟩ := id hD
  exact lv_l2d hx hb d  (kk _ _ _ _ _ _ _ _ _ _ _ _ _ _ _ _ _ _ hX hE hD hl)
theorem ev_d2l {x : UInt64} (d : decode (mC M) pc = .ok (.d2l, 1))  (kk : Ev M po px k (pc + 1) L (.long (FP.d2l x) :: st) w) : Ev M po px k pc L (.double x :: st) w := by
  intro p l e s m args below meth c dC dI dA as A Q H locs ls hX hE hD hl
  obtain ⟨hx, hb, hml, hown, hts, hst, hlk, htb, hK, hA, hG, hsc⟩ := id hX
  obtain ⟨hP, hDD, hS⟩ := id hD
  exact lv_d2l hx hb d  (kk _ _ _ _ _ _ _ _ _ _ _ _ _ _ _ _ _ _ hX hE hD hl)
theorem ev_ddiv {x y : UInt64} (d : decode (mC M) pc = .ok (.ddiv, 1)) (hne : vf_n64 (FP.ddiv x y)) (kk : Ev M po px k (pc + 1) L (.double (FP.ddiv x y) :: st) w) : Ev M po px k pc L (.double y :: .double x :: st) w := by
  intro p l e s m args below meth c dC dI dA as A Q H locs ls hX hE hD hl
  obtain ⟨hx, hb, hml, hown, hts, hst, hlk, htb, hK, hA, hG, hsc⟩ := id hX
  obtain ⟨hP, hDD, hS⟩ := id hD
  exact lv_ddiv hx hb d hne (kk _ _ _ _ _ _ _ _ _ _ _ _ _ _ _ _ _ _ hX hE hD hl)
theorem ev_dmul {x y : UInt64} (d : decode (mC M) pc = .ok (.dmul, 1)) (hne : vf_n64 (FP.dmul x y)) (kk : Ev M po px k (pc + 1) L (.double (FP.dmul x y) :: st) w) : Ev M po px k pc L (.double y :: .double x :: st) w := by
  intro p l e s m args below meth c dC dI dA as A Q H locs ls hX hE hD hl
  obtain ⟨hx, hb, hml, hown, hts, hst, hlk, htb, hK, hA, hG, hsc⟩ := id hX
  obtain ⟨hP, hDD, hS⟩ := id hD
  exact lv_dmul hx hb d hne (kk _ _ _ _ _ _ _ _ _ _ _ _ _ _ _ _ _ _ hX hE hD hl)
theorem ev_dsub {x y : UInt64} (d : decode (mC M) pc = .ok (.dsub, 1)) (hne : vf_n64 (FP.dsub x y)) (kk : Ev M po px k (pc + 1) L (.double (FP.dsub x y) :: st) w) : Ev M po px k pc L (.double y :: .double x :: st) w := by
  intro p l e s m args below meth c dC dI dA as A Q H locs ls hX hE hD hl
  obtain ⟨hx, hb, hml, hown, hts, hst, hlk, htb, hK, hA, hG, hsc⟩ := id hX
  obtain ⟨hP, hDD, hS⟩ := id hD
  exact lv_dsub hx hb d hne (kk _ _ _ _ _ _ _ _ _ _ _ _ _ _ _ _ _ _ hX hE hD hl)
theorem ev_dcmp {x y : UInt64} {op : CmpOp} (d : decode (mC M) pc = .ok (.dcmp op, 1))  (kk : Ev M po px k (pc + 1) L (.int (Op.cmpValue (FP.dcmp x y) op) :: st) w) : Ev M po px k pc L (.double y :: .double x :: st) w := by
  intro p l e s m args below meth c dC dI dA as A Q H locs ls hX hE hD hl
  obtain ⟨hx, hb, hml, hown, hts, hst, hlk, htb, hK, hA, hG, hsc⟩ := id hX
  obtain ⟨hP, hDD, hS⟩ := id hD
  exact lv_dcmp hx hb d  (kk _ _ _ _ _ _ _ _ _ _ _ _ _ _ _ _ _ _ hX hE hD hl)
theorem ev_pop {v : Value} (d : decode (mC M) pc = .ok (.pop, 1)) (hv : v.category = 1) (kk : Ev M po px k (pc + 1) L (st) w) : Ev M po px k pc L (v :: st) w := by
  intro p l e s m args below meth c dC dI dA as A Q H locs ls hX hE hD hl
  obtain ⟨hx, hb, hml, hown, hts, hst, hlk, htb, hK, hA, hG, hsc⟩ := id hX
  obtain ⟨hP, hDD, hS⟩ := id hD
  exact lv_pop hx hb d ((em_cat as v).trans hv) (kk _ _ _ _ _ _ _ _ _ _ _ _ _ _ _ _ _ _ hX hE hD hl)
theorem ev_dup {v : Value} (d : decode (mC M) pc = .ok (.dup, 1)) (hv : v.category = 1) (kk : Ev M po px k (pc + 1) L (v :: v :: st) w) : Ev M po px k pc L (v :: st) w := by
  intro p l e s m args below meth c dC dI dA as A Q H locs ls hX hE hD hl
  obtain ⟨hx, hb, hml, hown, hts, hst, hlk, htb, hK, hA, hG, hsc⟩ := id hX
  obtain ⟨hP, hDD, hS⟩ := id hD
  exact lv_dup hx hb d ((em_cat as v).trans hv) (kk _ _ _ _ _ _ _ _ _ _ _ _ _ _ _ _ _ _ hX hE hD hl)
theorem ev_dup2 {v u : Value} (d : decode (mC M) pc = .ok (.dup2, 1)) (hv : v.category = 1) (hu : u.category = 1) (kk : Ev M po px k (pc + 1) L (v :: u :: v :: u :: st) w) : Ev M po px k pc L (v :: u :: st) w := by
  intro p l e s m args below meth c dC dI dA as A Q H locs ls hX hE hD hl
  obtain ⟨hx, hb, hml, hown, hts, hst, hlk, htb, hK, hA, hG, hsc⟩ := id hX
  obtain ⟨hP, hDD, hS⟩ := id hD
  exact lv_dup2_11 hx hb d ((em_cat as v).trans hv) ((em_cat as u).trans hu) (kk _ _ _ _ _ _ _ _ _ _ _ _ _ _ _ _ _ _ hX hE hD hl)
theorem ev_if_eq {x : Int32} {off : Int} (tgt : Nat) (d : decode (mC M) pc = .ok (.ifCond .eq off, 3)) (ht : (pc : Int) + off = (tgt : Int)) (kt : x = 0 → Ev M po px k tgt L st w) (kf : ¬ (x = 0) → Ev M po px k (pc + 3) L st w) : Ev M po px k pc L (.int x :: st) w := by
  intro p l e s m args below meth c dC dI dA as A Q H locs ls hX hE hD hl
  obtain ⟨hx, hb, hml, hown, hts, hst, hlk, htb, hK, hA, hG, hsc⟩ := id hX
  obtain ⟨hP, hDD, hS⟩ := id hD
  exact lv_if_eq hx hb d ht (fun h => (kt h _ _ _ _ _ _ _ _ _ _ _ _ _ _ _ _ _ _ hX hE hD hl)) (fun h => (kf h _ _ _ _ _ _ _ _ _ _ _ _ _ _ _ _ _ _ hX hE hD hl))
theorem ev_icmp_eq {x y : Int32} {off : Int} (tgt : Nat) (d : decode (mC M) pc = .ok (.if_icmp .eq off, 3)) (ht : (pc : Int) + off = (tgt : Int)) (kt : x = y → Ev M po px k tgt L st w) (kf : ¬ (x = y) → Ev M po px k (pc + 3) L st w) : Ev M po px k pc L (.int y :: .int x :: st) w := by
  intro p l e s m args below meth c dC dI dA as A Q H locs ls hX hE hD hl
  obtain ⟨hx, hb, hml, hown, hts, hst, hlk, htb, hK, hA, hG, hsc⟩ := id hX
  obtain ⟨hP, hDD, hS⟩ := id hD
  exact lv_icmp_eq hx hb d ht (fun h => (kt h _ _ _ _ _ _ _ _ _ _ _ _ _ _ _ _ _ _ hX hE hD hl)) (fun h => (kf h _ _ _ _ _ _ _ _ _ _ _ _ _ _ _ _ _ _ hX hE hD hl))
theorem ev_if_ne {x : Int32} {off : Int} (tgt : Nat) (d : decode (mC M) pc = .ok (.ifCond .ne off, 3)) (ht : (pc : Int) + off = (tgt : Int)) (kt : ¬ x = 0 → Ev M po px k tgt L st w) (kf : x = 0 → Ev M po px k (pc + 3) L st w) : Ev M po px k pc L (.int x :: st) w := by
  intro p l e s m args below meth c dC dI dA as A Q H locs ls hX hE hD hl
  obtain ⟨hx, hb, hml, hown, hts, hst, hlk, htb, hK, hA, hG, hsc⟩ := id hX
  obtain ⟨hP, hDD, hS⟩ := id hD
  exact lv_if_ne hx hb d ht (fun h => (kt h _ _ _ _ _ _ _ _ _ _ _ _ _ _ _ _ _ _ hX hE hD hl)) (fun h => (kf h _ _ _ _ _ _ _ _ _ _ _ _ _ _ _ _ _ _ hX hE hD hl))
theorem ev_icmp_ne {x y : Int32} {off : Int} (tgt : Nat) (d : decode (mC M) pc = .ok (.if_icmp .ne off, 3)) (ht : (pc : Int) + off = (tgt : Int)) (kt : ¬ x = y → Ev M po px k tgt L st w) (kf : x = y → Ev M po px k (pc + 3) L st w) : Ev M po px k pc L (.int y :: .int x :: st) w := by
  intro p l e s m args below meth c dC dI dA as A Q H locs ls hX hE hD hl
  obtain ⟨hx, hb, hml, hown, hts, hst, hlk, htb, hK, hA, hG, hsc⟩ := id hX
  obtain ⟨hP, hDD, hS⟩ := id hD
  exact lv_icmp_ne hx hb d ht (fun h => (kt h _ _ _ _ _ _ _ _ _ _ _ _ _ _ _ _ _ _ hX hE hD hl)) (fun h => (kf h _ _ _ _ _ _ _ _ _ _ _ _ _ _ _ _ _ _ hX hE hD hl))
theorem ev_if_lt {x : Int32} {off : Int} (tgt : Nat) (d : decode (mC M) pc = .ok (.ifCond .lt off, 3)) (ht : (pc : Int) + off = (tgt : Int)) (kt : x < 0 → Ev M po px k tgt L st w) (kf : ¬ (x < 0) → Ev M po px k (pc + 3) L st w) : Ev M po px k pc L (.int x :: st) w := by
  intro p l e s m args below meth c dC dI dA as A Q H locs ls hX hE hD hl
  obtain ⟨hx, hb, hml, hown, hts, hst, hlk, htb, hK, hA, hG, hsc⟩ := id hX
  obtain ⟨hP, hDD, hS⟩ := id hD
  exact lv_if_lt hx hb d ht (fun h => (kt h _ _ _ _ _ _ _ _ _ _ _ _ _ _ _ _ _ _ hX hE hD hl)) (fun h => (kf h _ _ _ _ _ _ _ _ _ _ _ _ _ _ _ _ _ _ hX hE hD hl))
theorem ev_icmp_lt {x y : Int32} {off : Int} (tgt : Nat) (d : decode (mC M) pc = .ok (.if_icmp .lt off, 3)) (ht : (pc : Int) + off = (tgt : Int)) (kt : x < y → Ev M po px k tgt L st w) (kf : ¬ (x < y) → Ev M po px k (pc + 3) L st w) : Ev M po px k pc L (.int y :: .int x :: st) w := by
  intro p l e s m args below meth c dC dI dA as A Q H locs ls hX hE hD hl
  obtain ⟨hx, hb, hml, hown, hts, hst, hlk, htb, hK, hA, hG, hsc⟩ := id hX
  obtain ⟨hP, hDD, hS⟩ := id hD
  exact lv_icmp_lt hx hb d ht (fun h => (kt h _ _ _ _ _ _ _ _ _ _ _ _ _ _ _ _ _ _ hX hE hD hl)) (fun h => (kf h _ _ _ _ _ _ _ _ _ _ _ _ _ _ _ _ _ _ hX hE hD hl))
theorem ev_if_ge {x : Int32} {off : Int} (tgt : Nat) (d : decode (mC M) pc = .ok (.ifCond .ge off, 3)) (ht : (pc : Int) + off = (tgt : Int)) (kt : 0 ≤ x → Ev M po px k tgt L st w) (kf : ¬ (0 ≤ x) → Ev M po px k (pc + 3) L st w) : Ev M po px k pc L (.int x :: st) w := by
  intro p l e s m args below meth c dC dI dA as A Q H locs ls hX hE hD hl
  obtain ⟨hx, hb, hml, hown, hts, hst, hlk, htb, hK, hA, hG, hsc⟩ := id hX
  obtain ⟨hP, hDD, hS⟩ := id hD
  exact lv_if_ge hx hb d ht (fun h => (kt h _ _ _ _ _ _ _ _ _ _ _ _ _ _ _ _ _ _ hX hE hD hl)) (fun h => (kf h _ _ _ _ _ _ _ _ _ _ _ _ _ _ _ _ _ _ hX hE hD hl))
theorem ev_icmp_ge {x y : Int32} {off : Int} (tgt : Nat) (d : decode (mC M) pc = .ok (.if_icmp .ge off, 3)) (ht : (pc : Int) + off = (tgt : Int)) (kt : y ≤ x → Ev M po px k tgt L st w) (kf : ¬ (y ≤ x) → Ev M po px k (pc + 3) L st w) : Ev M po px k pc L (.int y :: .int x :: st) w := by
  intro p l e s m args below meth c dC dI dA as A Q H locs ls hX hE hD hl
  obtain ⟨hx, hb, hml, hown, hts, hst, hlk, htb, hK, hA, hG, hsc⟩ := id hX
  obtain ⟨hP, hDD, hS⟩ := id hD
  exact lv_icmp_ge hx hb d ht (fun h => (kt h _ _ _ _ _ _ _ _ _ _ _ _ _ _ _ _ _ _ hX hE hD hl)) (fun h => (kf h _ _ _ _ _ _ _ _ _ _ _ _ _ _ _ _ _ _ hX hE hD hl))
theorem ev_if_gt {x : Int32} {off : Int} (tgt : Nat) (d : decode (mC M) pc = .ok (.ifCond .gt off, 3)) (ht : (pc : Int) + off = (tgt : Int)) (kt : 0 < x → Ev M po px k tgt L st w) (kf : ¬ (0 < x) → Ev M po px k (pc + 3) L st w) : Ev M po px k pc L (.int x :: st) w := by
  intro p l e s m args below meth c dC dI dA as A Q H locs ls hX hE hD hl
  obtain ⟨hx, hb, hml, hown, hts, hst, hlk, htb, hK, hA, hG, hsc⟩ := id hX
  obtain ⟨hP, hDD, hS⟩ := id hD
  exact lv_if_gt hx hb d ht (fun h => (kt h _ _ _ _ _ _ _ _ _ _ _ _ _ _ _ _ _ _ hX hE hD hl)) (fun h => (kf h _ _ _ _ _ _ _ _ _ _ _ _ _ _ _ _ _ _ hX hE hD hl))
theorem ev_icmp_gt {x y : Int32} {off : Int} (tgt : Nat) (d : decode (mC M) pc = .ok (.if_icmp .gt off, 3)) (ht : (pc : Int) + off = (tgt : Int)) (kt : y < x → Ev M po px k tgt L st w) (kf : ¬ (y < x) → Ev M po px k (pc + 3) L st w) : Ev M po px k pc L (.int y :: .int x :: st) w := by
  intro p l e s m args below meth c dC dI dA as A Q H locs ls hX hE hD hl
  obtain ⟨hx, hb, hml, hown, hts, hst, hlk, htb, hK, hA, hG, hsc⟩ := id hX
  obtain ⟨hP, hDD, hS⟩ := id hD
  exact lv_icmp_gt hx hb d ht (fun h => (kt h _ _ _ _ _ _ _ _ _ _ _ _ _ _ _ _ _ _ hX hE hD hl)) (fun h => (kf h _ _ _ _ _ _ _ _ _ _ _ _ _ _ _ _ _ _ hX hE hD hl))
theorem ev_if_le {x : Int32} {off : Int} (tgt : Nat) (d : decode (mC M) pc = .ok (.ifCond .le off, 3)) (ht : (pc : Int) + off = (tgt : Int)) (kt : x ≤ 0 → Ev M po px k tgt L st w) (kf : ¬ (x ≤ 0) → Ev M po px k (pc + 3) L st w) : Ev M po px k pc L (.int x :: st) w := by
  intro p l e s m args below meth c dC dI dA as A Q H locs ls hX hE hD hl
  obtain ⟨hx, hb, hml, hown, hts, hst, hlk, htb, hK, hA, hG, hsc⟩ := id hX
  obtain ⟨hP, hDD, hS⟩ := id hD
  exact lv_if_le hx hb d ht (fun h => (kt h _ _ _ _ _ _ _ _ _ _ _ _ _ _ _ _ _ _ hX hE hD hl)) (fun h => (kf h _ _ _ _ _ _ _ _ _ _ _ _ _ _ _ _ _ _ hX hE hD hl))
theorem ev_icmp_le {x y : Int32} {off : Int} (tgt : Nat) (d : decode (mC M) pc = .ok (.if_icmp .le off, 3)) (ht : (pc : Int) + off = (tgt : Int)) (kt : x ≤ y → Ev M po px k tgt L st w) (kf : ¬ (x ≤ y) → Ev M po px k (pc + 3) L st w) : Ev M po px k pc L (.int y :: .int x :: st) w := by
  intro p l e s m args below meth c dC dI dA as A Q H locs ls hX hE hD hl
  obtain ⟨hx, hb, hml, hown, hts, hst, hlk, htb, hK, hA, hG, hsc⟩ := id hX
  obtain ⟨hP, hDD, hS⟩ := id hD
  exact lv_icmp_le hx hb d ht (fun h => (kt h _ _ _ _ _ _ _ _ _ _ _ _ _ _ _ _ _ _ hX hE hD hl)) (fun h => (kf h _ _ _ _ _ _ _ _ _ _ _ _ _ _ _ _ _ _ hX hE hD hl))
theorem ev_goto {off : Int} (tgt : Nat) (d : decode (mC M) pc = .ok (.goto off, 3)) (ht : (pc : Int) + off = (tgt : Int)) (kk : Ev M po px k tgt L st w) : Ev M po px k pc L st w := by
  intro p l e s m args below meth c dC dI dA as A Q H locs ls hX hE hD hl
  obtain ⟨hx, hb, hml, hown, hts, hst, hlk, htb, hK, hA, hG, hsc⟩ := id hX
  obtain ⟨hP, hDD, hS⟩ := id hD
  exact lv_goto hx hb d ht (kk _ _ _ _ _ _ _ _ _ _ _ _ _ _ _ _ _ _ hX hE hD hl)
theorem ev_lookup {dflt : Int} {ps : Array (Int × Int)} {len : Nat} {x : Int32} {off : Int} (tgt : Nat) (d : decode (mC M) pc = .ok (.lookupswitch dflt ps, len)) (hp : (ps.toList.zip (ps.toList.drop 1)).all (fun (a, next) => a.1 < next.1) = true) (ho : Op.lookupswitch.offset ps.toList dflt x.toInt = off) (ht : (pc : Int) + off = (tgt : Int)) (kk : Ev M po px k tgt L st w) : Ev M po px k pc L (.int x :: st) w := by
  intro p l e s m args below meth c dC dI dA as A Q H locs ls hX hE hD hl
  obtain ⟨hx, hb, hml, hown, hts, hst, hlk, htb, hK, hA, hG, hsc⟩ := id hX
  obtain ⟨hP, hDD, hS⟩ := id hD
  exact lv_lookup hx hb d hp ho ht (kk _ _ _ _ _ _ _ _ _ _ _ _ _ _ _ _ _ _ hX hE hD hl)
theorem ev_tableOut {dflt lo hi : Int} {offs : Array Int} {len : Nat} {x : Int32} (tgt : Nat) (d : decode (mC M) pc = .ok (.tableswitch dflt lo hi offs, len)) (h : x.toInt < lo ∨ hi < x.toInt) (ht : (pc : Int) + dflt = (tgt : Int)) (kk : Ev M po px k tgt L st w) : Ev M po px k pc L (.int x :: st) w := by
  intro p l e s m args below meth c dC dI dA as A Q H locs ls hX hE hD hl
  obtain ⟨hx, hb, hml, hown, hts, hst, hlk, htb, hK, hA, hG, hsc⟩ := id hX
  obtain ⟨hP, hDD, hS⟩ := id hD
  exact lv_tableOut hx hb d h ht (kk _ _ _ _ _ _ _ _ _ _ _ _ _ _ _ _ _ _ hX hE hD hl)
theorem ev_tableIn {dflt lo hi : Int} {offs : Array Int} {len : Nat} {x : Int32} {off : Int} (tgt : Nat) (d : decode (mC M) pc = .ok (.tableswitch dflt lo hi offs, len)) (h1 : ¬ x.toInt < lo) (h2 : ¬ hi < x.toInt) (ho : offs[(x.toInt - lo).toNat]? = some off) (ht : (pc : Int) + off = (tgt : Int)) (kk : Ev M po px k tgt L st w) : Ev M po px k pc L (.int x :: st) w := by
  intro p l e s m args below meth c dC dI dA as A Q H locs ls hX hE hD hl
  obtain ⟨hx, hb, hml, hown, hts, hst, hlk, htb, hK, hA, hG, hsc⟩ := id hX
  obtain ⟨hP, hDD, hS⟩ := id hD
  exact lv_tableIn hx hb d h1 h2 ho ht (kk _ _ _ _ _ _ _ _ _ _ _ _ _ _ _ _ _ _ hX hE hD hl)
theorem ev_sub {L' : LV} (ks : List Nat) (h : lv_pick L ks = L') (kk : Ev M po px k pc L' st w) : Ev M po px k pc L st w := by
  intro p l e s m args below meth c dC dI dA as A Q H locs ls hX hE hD hl
  obtain ⟨hx, hb, hml, hown, hts, hst, hlk, htb, hK, hA, hG, hsc⟩ := id hX
  obtain ⟨hP, hDD, hS⟩ := id hD
  have hl : lv_has ls (mN M) (emL as L') := by
    refine ⟨hl.1, hl.2.1, fun q hq => hl.2.2 q ?_⟩
    subst h
    obtain ⟨q0, h0, rfl⟩ := List.mem_map.mp hq
    obtain ⟨j, -, hj⟩ := List.mem_filterMap.mp h0
    exact List.mem_map.mpr ⟨q0, List.mem_of_getElem? hj, rfl⟩
  exact (kk _ _ _ _ _ _ _ _ _ _ _ _ _ _ _ _ _ _ hX hE hD hl)
theorem ev_ireturn {x : Int32} (d : decode (mC M) pc = .ok (.ireturn, 1)) (hk : k ≤ mK M) (h : po (some (.int x)) w) : Ev M po px k pc L ([.int x]) w := by
  intro p l e s m args below meth c dC dI dA as A Q H locs ls hX hE hD hl
  obtain ⟨hx, hb, hml, hown, hts, hst, hlk, htb, hK, hA, hG, hsc⟩ := id hX
  obtain ⟨hP, hDD, hS⟩ := id hD
  exact W.widen hk (Nat.mul_le_mul (Nat.le_refl 6) hk) (hE.1 _ _ _ _ _ _ h hD hl.1 d)
theorem ev_lreturn {x : Int64} (d : decode (mC M) pc = .ok (.lreturn, 1)) (hk : k ≤ mK M) (h : po (some (.long x)) w) : Ev M po px k pc L ([.long x]) w := by
  intro p l e s m args below meth c dC dI dA as A Q H locs ls hX hE hD hl
  obtain ⟨hx, hb, hml, hown, hts, hst, hlk, htb, hK, hA, hG, hsc⟩ := id hX
  obtain ⟨hP, hDD, hS⟩ := id hD
  exact W.widen hk (Nat.mul_le_mul (Nat.le_refl 6) hk) (hE.1 _ _ _ _ _ _ h hD hl.1 d)
theorem ev_dreturn {x : UInt64} (d : decode (mC M) pc = .ok (.dreturn, 1)) (hk : k ≤ mK M) (h : po (some (.double x)) w) : Ev M po px k pc L ([.double x]) w := by
  intro p l e s m args below meth c dC dI dA as A Q H locs ls hX hE hD hl
  obtain ⟨hx, hb, hml, hown, hts, hst, hlk, htb, hK, hA, hG, hsc⟩ := id hX
  obtain ⟨hP, hDD, hS⟩ := id hD
  exact W.widen hk (Nat.mul_le_mul (Nat.le_refl 6) hk) (hE.1 _ _ _ _ _ _ h hD hl.1 d)
theorem ev_areturn {x : Nat} (d : decode (mC M) pc = .ok (.areturn, 1)) (hk : k ≤ mK M) (h : po (some (.ref x)) w) : Ev M po px k pc L ([.ref x]) w := by
  intro p l e s m args below meth c dC dI dA as A Q H locs ls hX hE hD hl
  obtain ⟨hx, hb, hml, hown, hts, hst, hlk, htb, hK, hA, hG, hsc⟩ := id hX
  obtain ⟨hP, hDD, hS⟩ := id hD
  exact W.widen hk (Nat.mul_le_mul (Nat.le_refl 6) hk) (hE.1 _ _ _ _ _ _ h hD hl.1 d)
theorem ev_return  (d : decode (mC M) pc = .ok (.return_, 1)) (hk : k ≤ mK M) (h : po (none) w) : Ev M po px k pc L ([]) w := by
  intro p l e s m args below meth c dC dI dA as A Q H locs ls hX hE hD hl
  obtain ⟨hx, hb, hml, hown, hts, hst, hlk, htb, hK, hA, hG, hsc⟩ := id hX
  obtain ⟨hP, hDD, hS⟩ := id hD
  exact W.widen hk (Nat.mul_le_mul (Nat.le_refl 6) hk) (hE.1 _ _ _ _ _ _ h hD hl.1 d)
end EV
end
section
/-! ===== fields, arrays, throws, calls ===== -/
def CF (ci : Nat) (C : String) (T : u_T) (N : Nat) (ty : Nat → FieldType) : Prop := vwC8[ci]? = some (C, T, N) ∧ (∀ w ∈ u_ws C T N, w ∈ Gw) ∧ (∀ k, k < N → parseFieldDescriptor (T k).2.2.1 = some (ty k)) ∧ ∀ a, a < N → ∀ b, b < N → a ≠ b → (T a).2.1 ≠ (T b).2.1
theorem cf0 : CF 0 RX0 TX0 19 tyX0 := ⟨rfl, inGX0, tyX0_ok, nmX0⟩
theorem cf1 : CF 1 RX1 TX1 8 tyX1 := ⟨rfl, inGX1, tyX1_ok, nmX1⟩
theorem cf2 : CF 2 RX2 TX2 8 tyX2 := ⟨rfl, inGX2, tyX2_ok, nmX2⟩
theorem cf3 : CF 3 RX3 TX3 9 tyX3 := ⟨rfl, inGX3, tyX3_ok, nmX3⟩
theorem cf4 : CF 4 RX4 TX4 12 tyX4 := ⟨rfl, inGX4, tyX4_ok, nmX4⟩
/-- entry idx of own's pool names field kf of class ci -/
def FO (own : String) (idx ci kf : Nat) : Prop := ∃ (C : String) (T : u_T) (N : Nat) (ty : Nat → FieldType), CF ci C T N ty ∧ kf < N ∧ Cond.fieldLink own idx (T kf).1 (T kf).2.1 (T kf).2.2.1 ∈ Gw
/-- .. which isn't final, and is of this type -/
def FP9 (own : String) (idx ci kf : Nat) (t : FieldType) : Prop := ∃ (C : String) (T : u_T) (N : Nat) (ty : Nat → FieldType), CF ci C T N ty ∧ kf < N ∧ Cond.fieldLink own idx (T kf).1 (T kf).2.1 (T kf).2.2.1 ∈ Gw ∧ (T kf).2.2.2 = false ∧ parseFieldDescriptor (T kf).2.2.1 = some t
theorem P_congr {D : va_G} {cl : List vw_C} {ws : va_W} {H : Heap} {k a : Nat} {c : ClassId} {x y : vp_A} (h : va_P D cl (ws.set k (a, .inl (c, x))) H) (e : vp_cell c x = vp_cell c y) : va_P D cl (ws.set k (a, .inl (c, y))) H := by
  intro j q hj
  by_cases hl : k < ws.length
  · by_cases hjk : k = j
    · subst hjk
      rw [List.getElem?_set_self hl] at hj
      cases hj
      have h1 := h k (a, .inl (c, x)) (by rw [List.getElem?_set_self hl])
      show H[a]? = some (vp_cell c y)
      rw [← e]
      exact h1
    · rw [List.getElem?_set_ne hjk] at hj
      exact h j q (by rw [List.getElem?_set_ne hjk]; exact hj)
  · rw [List.set_eq_of_length_le (by omega)] at hj h
    exact h j q hj
theorem cell_congr {cA : ClassId} (n : Nat) {f g : Nat → Int32} (h : ∀ j, j < n → f j = g j) : arrV cA n (fun j => .int (f j)) = arrV cA n (fun j => .int (g j)) := by
  have e : (Array.ofFn (n := n) fun i => Value.int (f i)) = (Array.ofFn (n := n) fun i => Value.int (g i)) := by
    congr 1
    funext i
    rw [h i.1 i.2]
  simp only [arrV]
  first
    | exact congrArg _ e
    | rw [e]
    | (congr 1; apply Array.ext <;> simp_all)
/-- the words of a method's own code -/
def hdW (M : MT) : Cond := if mH M = [] then Cond.code (mY M) (mC M) (mN M) (mT M) else Cond.codeWith (mY M) (mC M) (mN M) (mT M) (mH M)
def QCt (po : PO) (dC : Nat → ClassId) (dI : Nat → Nat → Nat) (dA : Nat → ClassId) (as : Nat → Nat) (w : PW) (sz : Nat) : Array Value → State → Outcome → State → Prop := fun _ st oc t =>
  (∃ (v : Option Value) (u : PW), oc = .returned (v.map (em as)) ∧ po v u ∧ va_P (dC, dI) vwC8 (emW as dA u) t.heap ∧ va_D (va_A (emW as dA w) sz) (emW as dA u)) ∧ va_F (va_A (emW as dA w) sz) st t
def XCt (px : PX) (dC : Nat → ClassId) (dI : Nat → Nat → Nat) (dA : Nat → ClassId) (as : Nat → Nat) (w : PW) (sz : Nat) : String → State → State → Prop := fun E st t =>
  (∃ u : PW, px E u ∧ va_P (dC, dI) vwC8 (emW as dA u) t.heap ∧ va_D (va_A (emW as dA w) sz) (emW as dA u)) ∧ va_F (va_A (emW as dA w) sz) st t
def PCt (dC : Nat → ClassId) (dI : Nat → Nat → Nat) (dA : Nat → ClassId) (as : Nat → Nat) (w : PW) (sz : Nat) : State → Prop := fun U => U.heap.size = sz ∧ va_P (dC, dI) vwC8 (emW as dA w) U.heap ∧ va_K (dC, dI) vwC8 (tyT dA) U ∧ va_D (fun _ => True) (emW as dA w) ∧ GX as (va_A (emW as dA w) sz) U U.heap
/-- THE CONTRACT: called with these arguments in this world, M ends as po, px say -/
def Ct (M : MT) (args : List Value) (w : PW) (po : PO) (px : PX) : Prop := ∀ (l : Launch), l.stackTraces = false → ∀ (dC : Nat → ClassId) (dI : Nat → Nat → Nat) (dA : Nat → ClassId) (as : Nat → Nat) (sz : Nat),
  vx_Met l (mY M) (hdW M :: Gw) (mR M) (va_Pc (args.map (em as)) (PCt dC dI dA as w sz)) (QCt po dC dI dA as w sz) (XCt px dC dI dA as w sz) (mK M) (6 * mK M) (va_A (emW as dA w) sz)
/-- what the tables say of a method -/
def MF (M : MT) (n : Nat) : Prop := hdW M ∈ Gw ∧ Cond.initialized (mY M).cls ∈ Gw ∧ ((mY M).cls ≠ "java/lang/invoke/MethodHandle" ∧ (mY M).cls ≠ "java/lang/invoke/VarHandle") ∧ (parseMethodDescriptor (mY M).desc).map (fun d => d.parameters.length) = some n ∧ (mR M).cells = mK M ∧ (mR M).slots = 6 * mK M ∧ plainName (mY M).cls = true ∧ mS M = none
def MI (M : MT) : Prop := Cond.instanceMethod (mY M) ∈ Gw ∧ Cond.selects (mY M).cls (mY M) (mY M) ∈ Gw
def MS9 (M : MT) : Prop := Cond.static (mY M) ∈ Gw
def RO (M M' : MT) : Prop := (mR M').frames + 1 ≤ (mR M).frames ∧ 8 + (mN M' + 11) + (mR M').locals ≤ (mR M).locals
theorem gw_in (big : List Cond) (h : ∀ w ∈ Gw, w ∈ big) : GoodIn big Gw := fun w hw => ⟨h w hw, good_of_word (Gw_good w hw)⟩
theorem emL_args (as : Nat → Nat) : ∀ (n : Nat) (vs : List Value), emL as (lv_args n vs) = lv_args n (vs.map (em as))
  | _, [] => rfl
  | n, v :: vs => by
    simp only [lv_args, List.map_cons, em_cat]
    rw [← emL_args as _ vs]
    rfl
theorem sl_len (as : Nat → Nat) (vs : List Value) : (lg_sl (vs.map (em as))).length = (lg_sl vs).length := by
  induction vs with
  | nil => rfl
  | cons v vs ih =>
    simp only [lg_sl, List.map_cons, List.flatMap_cons, List.length_append] at ih ⊢
    rw [ih]
    cases v <;> rfl
def rtOK : Option FieldType → Option Value → Prop
  | none, none => True
  | some ty, some (.int x) => narrow ty (.int x) = .int x
  | some ty, some (.long _) => ty = .long
  | some ty, some (.double _) => ty = .double
  | some ty, some (.ref a) => ∃ C, ty = .object C
  | _, _ => False
/-- an exception of class E has left a call at pc -/
def EvX (M : MT) (po : PO) (px : PX) (k : Nat) (pc : Nat) (L : LV) (E : String) (w : PW) : Prop :=
  ∀ (p : Program) (l : Launch) (e : Env) (s : State) (m : MethodId) (args : Array Value) (below : List Frame) (meth : Method) (c : Code) (dC : Nat → ClassId) (dI : Nat → Nat → Nat) (dA : Nat → ClassId) (as : Nat → Nat) (A : Nat → Prop) (Q : State → Prop) (H : Heap) (locs : List Loc) (ls : Array Slot),
    Sx M p l s m args meth c dC dI dA as A → En M po px p l e s m args below meth c dC dI dA as A Q → Dy M s dC dI dA as A H locs w → lv_has ls (mN M) (emL as L) →
    ∀ (st : List Value) (ce : Cell) (q : Addr), H[q]? = some ce → ce.vm = .none → s.vm.findClass E = some ce.cls → vx_W p l e (mR M) s m args below meth c H locs k (6 * k) Q (F0 m pc ls st) q
section EV2
variable {M : MT} {po : PO} {px : PX} {k pc : Nat} {L : LV} {st : List Value} {w : PW}

theorem ev_lcmp {x y : Int64} (d : decode (mC M) pc = .ok (.lcmp, 1)) (kk : Ev M po px k (pc + 1) L (.int (lg_cmp x y) :: st) w) : Ev M po px k pc L (.long y :: .long x :: st) w := by
  intro p l e s m args below meth c dC dI dA as A Q H locs ls hX hE hD hl
  obtain ⟨hx, hb, hml, hown, hts, hst, hlk, htb, hK, hA, hG, hsc⟩ := id hX
  obtain ⟨hP, hDD, hS⟩ := id hD
  exact W.lcmp hx hb d (kk _ _ _ _ _ _ _ _ _ _ _ _ _ _ _ _ _ _ hX hE hD hl)
theorem ev_getfield {idx a ci : Nat} {fs : List Value} {v : Value} (kf : Nat) (d : decode (mC M) pc = .ok (.getfield idx, 3)) (hf : FO (mY M).cls idx ci kf) (hw : w[a]? = some (.inr (ci, fs))) (hv : fs[kf]? = some v) (kk : Ev M po px k (pc + 3) L (v :: st) w) : Ev M po px k pc L (.ref a :: st) w := by
  intro p l e s m args below meth c dC dI dA as A Q H locs ls hX hE hD hl
  obtain ⟨hx, hb, hml, hown, hts, hst, hlk, htb, hK, hA, hG, hsc⟩ := id hX
  obtain ⟨hP, hDD, hS⟩ := id hD
  obtain ⟨C, T, N, ty, ⟨c1, c2, c3, c4⟩, hkN, hlw⟩ := hf
  exact va_get hx hb hts c2 hown hK hP a (emW_get hw) c1 kf hkN (hts _ hlw) (fun _ h => h) (by rw [List.getElem?_map, hv]; rfl) d (kk _ _ _ _ _ _ _ _ _ _ _ _ _ _ _ _ _ _ hX hE hD hl)
theorem ev_putfield {idx a ci : Nat} {fs : List Value} {v : Value} (kf : Nat) {t : FieldType} {w' : PW} (d : decode (mC M) pc = .ok (.putfield idx, 3)) (hf : FP9 (mY M).cls idx ci kf t) (hw : w[a]? = some (.inr (ci, fs))) (hkl : kf < fs.length) (hn : ∀ as, narrow t (em as v) = em as v) (hfi : ∀ as, fits t (em as v) = true) (hw' : w.set a (.inr (ci, fs.set kf v)) = w') (kk : Ev M po px k (pc + 3) L st w') : Ev M po px k pc L (v :: .ref a :: st) w := by
  intro p l e s m args below meth c dC dI dA as A Q H locs ls hX hE hD hl
  obtain ⟨hx, hb, hml, hown, hts, hst, hlk, htb, hK, hA, hG, hsc⟩ := id hX
  obtain ⟨hP, hDD, hS⟩ := id hD
  subst hw'
  obtain ⟨C, T, N, ty, ⟨c1, c2, c3, c4⟩, hkN, hlw, hfin, hty⟩ := hf
  have e0 : (as a, (Sum.inr (ci, (fs.map (em as)).set kf (em as v)) : va_E)) = (as a, emE as dA (.inr (ci, fs.set kf v))) := by simp [emE, List.map_set]
  refine va_put hx hb hts c2 ty c3 c4 hown hK hP hDD hS a (emW_get hw) c1 kf hkN (hts _ hlw) (fun _ h => h) hfin hty (hn as) (hfi as) (by simpa using hkl) d (fun H1 locs1 q1 q2 q3 => ?_)
  rw [e0, emW_set] at q1 q2
  exact (kk _ _ _ _ _ _ _ _ _ _ _ _ _ _ _ _ _ _ hX hE ⟨q1, q2, q3⟩ hl)
theorem ev_iaload {a n : Nat} {i : Int32} {f : Nat → Int32} (d : decode (mC M) pc = .ok (.iaload, 1)) (hw : w[a]? = some (.inl (0, n, .inl f))) (hin : vp_in i n) (kk : Ev M po px k (pc + 1) L (.int (f i.toNatClampNeg) :: st) w) : Ev M po px k pc L (.int i :: .ref a :: st) w := by
  intro p l e s m args below meth c dC dI dA as A Q H locs ls hX hE hD hl
  obtain ⟨hx, hb, hml, hown, hts, hst, hlk, htb, hK, hA, hG, hsc⟩ := id hX
  obtain ⟨hP, hDD, hS⟩ := id hD
  exact va_iald hx hb hK hP a 0 (emW_get hw) rfl hin d (kk _ _ _ _ _ _ _ _ _ _ _ _ _ _ _ _ _ _ hX hE hD hl)
theorem ev_baload {a n : Nat} {i : Int32} {f : Nat → Int32} (d : decode (mC M) pc = .ok (.baload, 1)) (hw : w[a]? = some (.inl (1, n, .inl f))) (hin : vp_in i n) (kk : Ev M po px k (pc + 1) L (.int (f i.toNatClampNeg) :: st) w) : Ev M po px k pc L (.int i :: .ref a :: st) w := by
  intro p l e s m args below meth c dC dI dA as A Q H locs ls hX hE hD hl
  obtain ⟨hx, hb, hml, hown, hts, hst, hlk, htb, hK, hA, hG, hsc⟩ := id hX
  obtain ⟨hP, hDD, hS⟩ := id hD
  exact va_zald hx hb hK hP a 1 (emW_get hw) rfl hin d (kk _ _ _ _ _ _ _ _ _ _ _ _ _ _ _ _ _ _ hX hE hD hl)
theorem ev_laload {a n : Nat} {i : Int32} {f : Nat → Int64} (d : decode (mC M) pc = .ok (.laload, 1)) (hw : w[a]? = some (.inl (2, n, .inr (.inl f)))) (hin : vp_in i n) (kk : Ev M po px k (pc + 1) L (.long (f i.toNatClampNeg) :: st) w) : Ev M po px k pc L (.int i :: .ref a :: st) w := by
  intro p l e s m args below meth c dC dI dA as A Q H locs ls hX hE hD hl
  obtain ⟨hx, hb, hml, hown, hts, hst, hlk, htb, hK, hA, hG, hsc⟩ := id hX
  obtain ⟨hP, hDD, hS⟩ := id hD
  exact va_lald hx hb hK hP a 2 (emW_get hw) rfl hin d (kk _ _ _ _ _ _ _ _ _ _ _ _ _ _ _ _ _ _ hX hE hD hl)
theorem ev_aaload {a n r : Nat} {i : Int32} {f : Nat → Option Nat} (d : decode (mC M) pc = .ok (.aaload, 1)) (hw : w[a]? = some (.inl (3, n, .inr (.inr (.inr (.inr f)))))) (hin : vp_in i n) (hr : f i.toNatClampNeg = some r) (kk : Ev M po px k (pc + 1) L (.ref r :: st) w) : Ev M po px k pc L (.int i :: .ref a :: st) w := by
  intro p l e s m args below meth c dC dI dA as A Q H locs ls hX hE hD hl
  obtain ⟨hx, hb, hml, hown, hts, hst, hlk, htb, hK, hA, hG, hsc⟩ := id hX
  obtain ⟨hP, hDD, hS⟩ := id hD
  refine va_aldq hx hb hK hP a 3 (emW_get hw) rfl hin d ?_
  simp only [hr, Option.map, va_rf]
  exact (kk _ _ _ _ _ _ _ _ _ _ _ _ _ _ _ _ _ _ hX hE hD hl)
theorem ev_iastore {a n : Nat} {i : Int32} {x : Int32} {f : Nat → Int32} {w' : PW} (d : decode (mC M) pc = .ok (.iastore, 1)) (hw : w[a]? = some (.inl (0, n, .inl f))) (hin : vp_in i n) (hw' : w.set a (.inl (0, n, .inl (upd f i.toNatClampNeg x))) = w') (kk : Ev M po px k (pc + 1) L st w') : Ev M po px k pc L (.int x :: .int i :: .ref a :: st) w := by
  intro p l e s m args below meth c dC dI dA as A Q H locs ls hX hE hD hl
  obtain ⟨hx, hb, hml, hown, hts, hst, hlk, htb, hK, hA, hG, hsc⟩ := id hX
  obtain ⟨hP, hDD, hS⟩ := id hD
  subst hw'
  refine va_iast hx hb hK hP hDD hS a 0 (emW_get hw) rfl hin d (fun H1 locs1 q1 q2 q3 => ?_)
  have e0 := emW_set as dA w a (.inl (0, n, .inl (upd f i.toNatClampNeg x)))
  exact (kk _ _ _ _ _ _ _ _ _ _ _ _ _ _ _ _ _ _ hX hE ⟨e0 ▸ q1, e0 ▸ q2, q3⟩ hl)
theorem ev_bastore {a n : Nat} {i : Int32} {x : Int32} {f : Nat → Int32} {w' : PW} (d : decode (mC M) pc = .ok (.bastore, 1)) (hw : w[a]? = some (.inl (1, n, .inl f))) (hin : vp_in i n) (hx1 : vp_nar .boolean x = x) (hw' : w.set a (.inl (1, n, .inl (upd f i.toNatClampNeg x))) = w') (kk : Ev M po px k (pc + 1) L st w') : Ev M po px k pc L (.int x :: .int i :: .ref a :: st) w := by
  intro p l e s m args below meth c dC dI dA as A Q H locs ls hX hE hD hl
  obtain ⟨hx, hb, hml, hown, hts, hst, hlk, htb, hK, hA, hG, hsc⟩ := id hX
  obtain ⟨hP, hDD, hS⟩ := id hD
  subst hw'
  refine va_zast hx hb hK hP hDD hS a 1 (emW_get hw) rfl hin d (fun H1 locs1 q1 q2 q3 => ?_)
  rw [hx1] at q1 q2
  have e0 := emW_set as dA w a (.inl (1, n, .inl (upd f i.toNatClampNeg x)))
  exact (kk _ _ _ _ _ _ _ _ _ _ _ _ _ _ _ _ _ _ hX hE ⟨e0 ▸ q1, e0 ▸ q2, q3⟩ hl)
theorem ev_lastore {a n : Nat} {i : Int32} {x : Int64} {f : Nat → Int64} {w' : PW} (d : decode (mC M) pc = .ok (.lastore, 1)) (hw : w[a]? = some (.inl (2, n, .inr (.inl f)))) (hin : vp_in i n) (hw' : w.set a (.inl (2, n, .inr (.inl (vp_updL f i.toNatClampNeg x)))) = w') (kk : Ev M po px k (pc + 1) L st w') : Ev M po px k pc L (.long x :: .int i :: .ref a :: st) w := by
  intro p l e s m args below meth c dC dI dA as A Q H locs ls hX hE hD hl
  obtain ⟨hx, hb, hml, hown, hts, hst, hlk, htb, hK, hA, hG, hsc⟩ := id hX
  obtain ⟨hP, hDD, hS⟩ := id hD
  subst hw'
  refine va_last hx hb hK hP hDD hS a 2 (emW_get hw) rfl hin d (fun H1 locs1 q1 q2 q3 => ?_)
  have e0 := emW_set as dA w a (.inl (2, n, .inr (.inl (vp_updL f i.toNatClampNeg x))))
  exact (kk _ _ _ _ _ _ _ _ _ _ _ _ _ _ _ _ _ _ hX hE ⟨e0 ▸ q1, e0 ▸ q2, q3⟩ hl)
theorem ev_aastore {a n r ci : Nat} {i : Int32} {f : Nat → Option Nat} {fs : List Value} {w' : PW} (d : decode (mC M) pc = .ok (.aastore, 1)) (hw : w[a]? = some (.inl (3, n, .inr (.inr (.inr (.inr f)))))) (hv : w[r]? = some (.inr (0, fs))) (hin : vp_in i n) (hw' : w.set a (.inl (3, n, .inr (.inr (.inr (.inr (va_up f i.toNatClampNeg (some r))))))) = w') (kk : Ev M po px k (pc + 1) L st w') : Ev M po px k pc L (.ref r :: .int i :: .ref a :: st) w := by
  intro p l e s m args below meth c dC dI dA as A Q H locs ls hX hE hD hl
  obtain ⟨hx, hb, hml, hown, hts, hst, hlk, htb, hK, hA, hG, hsc⟩ := id hX
  obtain ⟨hP, hDD, hS⟩ := id hD
  subst hw'
  refine va_astq (r := (RX0, TX0, 19)) hx hb hK hP hDD hS a 3 r 0 (emW_get hw) rfl (emW_get hv) rfl hin d (fun H1 locs1 q1 q2 q3 => ?_)
  have e0 := emW_set as dA w a (.inl (3, n, .inr (.inr (.inr (.inr (va_up f i.toNatClampNeg (some r)))))))
  have e1 : (fun k => (va_up f i.toNatClampNeg (some r) k).map as) = va_up (fun k => (f k).map as) i.toNatClampNeg (some (as r)) := by
    funext j
    simp only [va_up]
    split <;> rfl
  simp only [emE, emA, e1] at e0
  exact (kk _ _ _ _ _ _ _ _ _ _ _ _ _ _ _ _ _ _ hX hE ⟨e0 ▸ q1, e0 ▸ q2, q3⟩ hl)
theorem ev_copyi {idx a b n : Nat} {nn : Int32} {f g : Nat → Int32} {w' : PW} (d : decode (mC M) pc = .ok (.invokestatic idx, 3)) (hlw : Cond.methodLink (mY M).cls idx arraycopyName ∈ Gw) (h4 : Cond.native arraycopyName ∈ Gw ∧ Cond.static arraycopyName ∈ Gw ∧ Cond.initialized "java/lang/System" ∈ Gw) (hb0 : w[b]? = some (.inl (0, n, .inl f))) (ha0 : w[a]? = some (.inl (0, n, .inl g))) (hn0 : ¬ nn < 0) (hN : nn.toNatClampNeg = n) (hR : 1 ≤ (mR M).frames ∧ (st.map fun v => v.category).sum + (nativeFrameWords "java/lang/System" "arraycopy" 5 + 11) ≤ (mR M).locals) (hw' : w.set a (.inl (0, n, .inl f)) = w') (kk : Ev M po px k (pc + 3) L st w') : Ev M po px k pc L (.int nn :: .int 0 :: .ref a :: .int 0 :: .ref b :: st) w := by
  intro p l e s m args below meth c dC dI dA as A Q H locs ls hX hE hD hl
  obtain ⟨hx, hb, hml, hown, hts, hst, hlk, htb, hK, hA, hG, hsc⟩ := id hX
  obtain ⟨hP, hDD, hS⟩ := id hD
  subst hw'
  have z0 : (0 : Int32).toNatClampNeg = 0 := rfl
  have hc : ((st.map (em as)).map fun v => v.category) = st.map fun v => v.category := by simp [em_cat]
  refine va_copyi (ty := .int) hx hb (hml.trans hl.1.symm) hown (hts _ hlw) (hts _ h4.1) (hts _ h4.2.1) (hts _ h4.2.2) hK hP hDD hS b a 0 0 (emW_get hb0) (emW_get ha0) rfl rfl rfl (sp := 0) (dp := 0) (n := nn) (by decide) (by decide) hn0 (by rw [z0, hN]; omega) (by rw [z0, hN]; omega) (fun _ _ => rfl) hR.1 (by rw [hc]; exact hR.2) d (fun H1 locs1 q1 q2 q3 => ?_)
  have e0 := emW_set as dA w a (.inl (0, n, .inl f))
  have e1 : vp_cell (dA 0) (n, .inl (va_cpy f g (0 : Int32).toNatClampNeg (0 : Int32).toNatClampNeg nn.toNatClampNeg)) = vp_cell (dA 0) (n, .inl f) := by
    rw [vp_cell_i, vp_cell_i, z0, hN]
    refine cell_congr n (fun j hj => ?_)
    simp [va_cpy, hj]
  exact (kk _ _ _ _ _ _ _ _ _ _ _ _ _ _ _ _ _ _ hX hE ⟨e0 ▸ P_congr q1 e1, e0 ▸ hDD.set (emW_get ha0), q3⟩ hl)
theorem ev_copyb {idx a b n : Nat} {nn : Int32} {f g : Nat → Int32} {w' : PW} (d : decode (mC M) pc = .ok (.invokestatic idx, 3)) (hlw : Cond.methodLink (mY M).cls idx arraycopyName ∈ Gw) (h4 : Cond.native arraycopyName ∈ Gw ∧ Cond.static arraycopyName ∈ Gw ∧ Cond.initialized "java/lang/System" ∈ Gw) (hb0 : w[b]? = some (.inl (1, n, .inl f))) (ha0 : w[a]? = some (.inl (1, n, .inl g))) (hn0 : ¬ nn < 0) (hN : nn.toNatClampNeg = n) (hfit : ∀ i, i < n → fits .boolean (.int (f i)) = true) (hR : 1 ≤ (mR M).frames ∧ (st.map fun v => v.category).sum + (nativeFrameWords "java/lang/System" "arraycopy" 5 + 11) ≤ (mR M).locals) (hw' : w.set a (.inl (1, n, .inl f)) = w') (kk : Ev M po px k (pc + 3) L st w') : Ev M po px k pc L (.int nn :: .int 0 :: .ref a :: .int 0 :: .ref b :: st) w := by
  intro p l e s m args below meth c dC dI dA as A Q H locs ls hX hE hD hl
  obtain ⟨hx, hb, hml, hown, hts, hst, hlk, htb, hK, hA, hG, hsc⟩ := id hX
  obtain ⟨hP, hDD, hS⟩ := id hD
  subst hw'
  have z0 : (0 : Int32).toNatClampNeg = 0 := rfl
  have hc : ((st.map (em as)).map fun v => v.category) = st.map fun v => v.category := by simp [em_cat]
  refine va_copyi (ty := .boolean) hx hb (hml.trans hl.1.symm) hown (hts _ hlw) (hts _ h4.1) (hts _ h4.2.1) (hts _ h4.2.2) hK hP hDD hS b a 1 1 (emW_get hb0) (emW_get ha0) rfl rfl rfl (sp := 0) (dp := 0) (n := nn) (by decide) (by decide) hn0 (by rw [z0, hN]; omega) (by rw [z0, hN]; omega) (fun i hi => by rw [hN] at hi; simpa using hfit i hi) hR.1 (by rw [hc]; exact hR.2) d (fun H1 locs1 q1 q2 q3 => ?_)
  have e0 := emW_set as dA w a (.inl (1, n, .inl f))
  have e1 : vp_cell (dA 1) (n, .inl (va_cpy f g (0 : Int32).toNatClampNeg (0 : Int32).toNatClampNeg nn.toNatClampNeg)) = vp_cell (dA 1) (n, .inl f) := by
    rw [vp_cell_i, vp_cell_i, z0, hN]
    refine cell_congr n (fun j hj => ?_)
    simp [va_cpy, hj]
  exact (kk _ _ _ _ _ _ _ _ _ _ _ _ _ _ _ _ _ _ hX hE ⟨e0 ▸ P_congr q1 e1, e0 ▸ hDD.set (emW_get ha0), q3⟩ hl)
theorem ev_slen {n : Nat} {xs : Nat → Int32} (d : decode (mC M) pc = .ok (.arraylength, 1)) (hs : mS M = some (n, xs)) (kk : Ev M po px k (pc + 1) L (.int (Int32.ofNat n) :: st) w) : Ev M po px k pc L (.ref 999 :: st) w := by
  intro p l e s m args below meth c dC dI dA as A Q H locs ls hX hE hD hl
  obtain ⟨hx, hb, hml, hown, hts, hst, hlk, htb, hK, hA, hG, hsc⟩ := id hX
  obtain ⟨hP, hDD, hS⟩ := id hD
  rw [hs] at hsc
  exact va_slen hx hb hsc.1 hsc.2.1 hsc.2.2 hS d (kk _ _ _ _ _ _ _ _ _ _ _ _ _ _ _ _ _ _ hX hE hD hl)
theorem ev_sld {n : Nat} {xs : Nat → Int32} {i : Int32} (d : decode (mC M) pc = .ok (.iaload, 1)) (hs : mS M = some (n, xs)) (hin : vp_in i n) (kk : Ev M po px k (pc + 1) L (.int (xs i.toNatClampNeg) :: st) w) : Ev M po px k pc L (.int i :: .ref 999 :: st) w := by
  intro p l e s m args below meth c dC dI dA as A Q H locs ls hX hE hD hl
  obtain ⟨hx, hb, hml, hown, hts, hst, hlk, htb, hK, hA, hG, hsc⟩ := id hX
  obtain ⟨hP, hDD, hS⟩ := id hD
  rw [hs] at hsc
  exact va_sld hx hb hsc.1 hsc.2.1 hsc.2.2 hS hin d (kk _ _ _ _ _ _ _ _ _ _ _ _ _ _ _ _ _ _ hX hE hD hl)
theorem ev_ldc {idx : Nat} (v : Int32) (d : decode (mC M) pc = .ok (.ldc idx, 2)) (hlw : Cond.constant (mY M).cls idx v ∈ Gw) (kk : Ev M po px k (pc + 2) L (.int v :: st) w) : Ev M po px k pc L st w := by
  intro p l e s m args below meth c dC dI dA as A Q H locs ls hX hE hD hl
  obtain ⟨hx, hb, hml, hown, hts, hst, hlk, htb, hK, hA, hG, hsc⟩ := id hX
  obtain ⟨hP, hDD, hS⟩ := id hD
  exact lv_ldc hx hb hown (hts _ hlw) d (kk _ _ _ _ _ _ _ _ _ _ _ _ _ _ _ _ _ _ hX hE hD hl)
theorem ev_ldc2 {idx : Nat} (v : Int64) (d : decode (mC M) pc = .ok (.ldc2_w idx, 3)) (hlw : Cond.constantLong (mY M).cls idx v ∈ Gw) (kk : Ev M po px k (pc + 3) L (.long v :: st) w) : Ev M po px k pc L st w := by
  intro p l e s m args below meth c dC dI dA as A Q H locs ls hX hE hD hl
  obtain ⟨hx, hb, hml, hown, hts, hst, hlk, htb, hK, hA, hG, hsc⟩ := id hX
  obtain ⟨hP, hDD, hS⟩ := id hD
  exact lv_ldc2 hx hb hown (hts _ hlw) d (kk _ _ _ _ _ _ _ _ _ _ _ _ _ _ _ _ _ _ hX hE hD hl)
theorem ev_ldc2d {idx : Nat} (v : UInt64) (d : decode (mC M) pc = .ok (.ldc2_w idx, 3)) (hlw : Cond.constantDouble (mY M).cls idx v ∈ Gw) (kk : Ev M po px k (pc + 3) L (.double v :: st) w) : Ev M po px k pc L st w := by
  intro p l e s m args below meth c dC dI dA as A Q H locs ls hX hE hD hl
  obtain ⟨hx, hb, hml, hown, hts, hst, hlk, htb, hK, hA, hG, hsc⟩ := id hX
  obtain ⟨hP, hDD, hS⟩ := id hD
  exact lv_ldc2d hx hb hown (hts _ hlw) d (kk _ _ _ _ _ _ _ _ _ _ _ _ _ _ _ _ _ _ hX hE hD hl)
theorem ev_ldcS {idx i : Nat} (d : decode (mC M) pc = .ok (.ldc idx, 2)) (hM : (mY M).cls = RX1) (hi : i < 5) (hix : (tx5.getD i (0, "")).1 = idx) (kk : Ev M po px k (pc + 2) L (.ref (1000 + i) :: st) w) : Ev M po px k pc L st w := by
  intro p l e s m args below meth c dC dI dA as A Q H locs ls hX hE hD hl
  obtain ⟨hx, hb, hml, hown, hts, hst, hlk, htb, hK, hA, hG, hsc⟩ := id hX
  obtain ⟨hP, hDD, hS⟩ := id hD
  subst hix
  exact va_ldcS hx hb hown (hM ▸ hG.2.2.2.2.2.2.2 i hi) d (kk _ _ _ _ _ _ _ _ _ _ _ _ _ _ _ _ _ _ hX hE hD hl)
theorem evx_out {E : String} (hout : ∀ x ∈ tableOf (mH M), covers x pc = false) (hk : k ≤ mK M) (h : px E w) : EvX M po px k pc L E w := by
  intro p l e s m args below meth c dC dI dA as A Q H locs ls hX hE hD hl st ce q h1 h2 h3
  exact vx_widen hk (Nat.mul_le_mul (Nat.le_refl 6) hk) (hE.2 _ _ _ _ _ _ _ _ _ h hD hout h1 h2 h3)

end EV2
section CT
set_option maxHeartbeats 1000000 in
/-- a contract, out of a walk from the entry -/
theorem ct_of {M : MT} {args : List Value} {w : PW} {po : PO} {px : PX} (n : Nat) (hF : MF M n) (hh : mH M = []) (hl : (lg_sl args).length ≤ mN M) (hrt : ∀ v u, po v u → rtOK (mT M) v) (h : Ev M po px 0 0 (lv_args 0 args) [] w) : Ct M args w po px := by
  obtain ⟨f1, f2, f3, f4, f5, f6, f7, f8⟩ := hF
  intro l hst dC dI dA as sz
  have hW : hdW M = Cond.code (mY M) (mC M) (mN M) (mT M) := by unfold hdW; rw [if_pos hh]
  rw [hW]
  refine vx_ofW (cc := mC M) (maxL := mN M) (ret := mT M) f7 rfl ?_
  intro p e s m args' below meth c s₁ B hml hnt hv
  obtain ⟨rfl, hsz, hP, hK, hD0, hG⟩ := hv
  subst hsz
  have hts : ∀ w ∈ Gw, w.before _ s = true := fun w hw => atoms_spec (ws := Cond.code (mY M) (mC M) (mN M) (mT M) :: Gw) B.pre w (List.mem_cons_of_mem _ hw)
  have htab : c.exceptionTable.toList = tableOf (mH M) := by
    rw [hh]
    exact List.eq_nil_iff_forall_not_mem.mpr (fun x hx => hnt x hx)
  have hent := lv_entry (args.map (em as)) (n := mN M) (by rw [sl_len]; exact hl)
  rw [lg_entry_eq]
  generalize (lg_sl (args.map (em as)) ++ List.replicate (mN M - (lg_sl (args.map (em as))).length) Slot.unset).toArray = ls at hent ⊢
  rw [← emL_args] at hent
  refine h p l e s m _ below meth c dC dI dA as (va_A (emW as dA w) s.heap.size) _ s.heap [] ls ⟨B.exec, B.bytes, hml, findClass_of_methodNamed B.named, hts, hst, B.notSynchronized, htab, hK, fun q h => Or.inr h, hG, by rw [f8]; trivial⟩ ⟨?_, ?_⟩ ⟨hP, hD0.self, va_S.rf⟩ hent
  · intro H locs ls pc v u hpo hD hsz d
    have hok := hrt v u hpo
    have hq : ∀ t : State, t.heap = H → s.WarmedH t.vm → QCt po dC dI dA as w s.heap.size (args.map (em as)).toArray s (.returned (v.map (em as))) t := fun t ht _ => ⟨⟨v, u, rfl, hpo, by rw [ht]; exact hD.1, hD.2.1⟩, hD.2.2.F ht⟩
    have hf := hD.2.2.2.2
    have hlk := B.notSynchronized
    refine vx_ret ?_
    have hr := B.returns
    cases v with
    | none =>
      cases hT : mT M with
      | none => exact W.vret B.exec B.bytes (by rw [hr, hT]) hq hf d hlk
      | some ty => rw [hT] at hok; exact hok.elim
    | some v =>
      cases hT : mT M with
      | none => rw [hT] at hok; cases v <;> exact hok.elim
      | some ty =>
        rw [hT] at hok
        cases v with
        | int x => exact W.zret B.exec B.bytes (by rw [hr, hT]) hok hq hf d hlk
        | long x => exact W.lret B.exec B.bytes (by rw [hr, hT, show ty = .long from hok]) hq hf d hlk
        | double x => exact W.dret B.exec B.bytes (by rw [hr, hT, show ty = .double from hok]) hq hf d hlk
        | ref a =>
          obtain ⟨C, hC⟩ := hok
          exact W.aret (v := .ref (as a)) (rt := .object C) B.exec B.bytes (by rw [hr, hT, hC]) (Or.inl ⟨C, rfl⟩) (Or.inr ⟨_, rfl⟩) hq hf d hlk
        | float x => exact hok.elim
        | null => exact hok.elim
        | retAddr x => exact hok.elim
  · intro H locs ls pc st E ce q u hpx hD hout h1 h2 h3
    exact vx_out (by rw [htab]; exact hout) B.notSynchronized h1 h2 h3 (fun t ht _ => ⟨⟨u, hpx, by rw [ht]; exact hD.1, hD.2.1⟩, hD.2.2.F ht⟩) hD.2.2.2.2 (Nat.le_refl _) (Nat.le_refl _)
/-- the same for a method with a table (it returns an int) -/
theorem ct_ofH {M : MT} {args : List Value} {w : PW} {po : PO} {px : PX} (n : Nat) (hF : MF M n) (hh : ¬ mH M = []) (hT : mT M = some .int) (hl : (lg_sl args).length ≤ mN M) (hrt : ∀ v u, po v u → ∃ x, v = some (.int x)) (hpx : ∀ E u, ¬ px E u) (h : Ev M po px 0 0 (lv_args 0 args) [] w) : Ct M args w po px := by
  obtain ⟨f1, f2, f3, f4, f5, f6, f7, f8⟩ := hF
  intro l hst dC dI dA as sz
  have hW : hdW M = Cond.codeWith (mY M) (mC M) (mN M) (mT M) (mH M) := by unfold hdW; rw [if_neg hh]
  rw [hW]
  refine vx_ofWH (cc := mC M) (maxL := mN M) (ret := mT M) (hh := mH M) f7 rfl ?_
  intro p e s m args' below meth c s₁ B hml hv
  obtain ⟨rfl, hsz, hP, hK, hD0, hG⟩ := hv
  subst hsz
  have hts : ∀ w ∈ Gw, w.before _ s = true := fun w hw => atoms_spec (ws := Cond.codeWith (mY M) (mC M) (mN M) (mT M) (mH M) :: Gw) B.pre w (List.mem_cons_of_mem _ hw)
  have htab : c.exceptionTable.toList = tableOf (mH M) := vx_table (x := mY M) B (hts _ (by rw [← hW]; exact f1))
  have hent := lv_entry (args.map (em as)) (n := mN M) (by rw [sl_len]; exact hl)
  rw [lg_entry_eq]
  generalize (lg_sl (args.map (em as)) ++ List.replicate (mN M - (lg_sl (args.map (em as))).length) Slot.unset).toArray = ls at hent ⊢
  rw [← emL_args] at hent
  refine h p l e s m _ below meth c dC dI dA as (va_A (emW as dA w) s.heap.size) _ s.heap [] ls ⟨B.exec, B.bytes, hml, findClass_of_methodNamed B.named, hts, hst, B.notSynchronized, htab, hK, fun q h => Or.inr h, hG, by rw [f8]; trivial⟩ ⟨?_, ?_⟩ ⟨hP, hD0.self, va_S.rf⟩ hent
  · intro H locs ls pc v u hpo hD hsz d
    obtain ⟨x, rfl⟩ := hrt v u hpo
    have hq : ∀ t : State, t.heap = H → s.WarmedH t.vm → QCt po dC dI dA as w s.heap.size (args.map (em as)).toArray s (.returned (some (.int x))) t := fun t ht _ => ⟨⟨some (.int x), u, rfl, hpo, by rw [ht]; exact hD.1, hD.2.1⟩, hD.2.2.F ht⟩
    exact vx_ret (W.iret B.exec B.bytes (by rw [B.returns, hT]) hq hD.2.2.2.2 d B.notSynchronized)
  · intro H locs ls pc st E ce q u hp _ _ _ _ _
    exact (hpx E u hp).elim
theorem gin_hd {M' : MT} (h : hdW M' ∈ Gw) : GoodIn Gw (hdW M' :: Gw) := fun w hw => by
  rcases List.mem_cons.mp hw with rfl | hw
  · exact ⟨h, good_of_word (Gw_good _ h)⟩
  · exact ⟨hw, good_of_word (Gw_good _ hw)⟩
theorem pct_blind (dC : Nat → ClassId) (dI : Nat → Nat → Nat) (dA : Nat → ClassId) (as : Nat → Nat) (w : PW) (sz : Nat) (av : List Value) : FrameBlind (va_Pc av (PCt dC dI dA as w sz)) := fun a U g mk h => by
  obtain ⟨h1, h2, h3, h4, h5, h6⟩ := h
  exact ⟨h1, h2, h3, va_K.moved (u := U) (U := U.calling g mk a) (Vm.Alike.refl U.vm) h4, h5, GX.warm (s := U) (U := U.calling g mk a) (State.WarmedH.refl U) h6⟩
theorem fA_of {as dA : Nat → Nat} {w : PW} {s : State} {A : Nat → Prop} {H : Heap} {locs : List Loc} (hD : va_D A (emW as dA w)) (hS : va_S A s.heap H locs) (hA : ∀ q, s.heap.size ≤ q → A q) : ∀ q, va_A (emW as dA w) H.size q → A q := by
  intro q h
  rcases h with ⟨k, e, h⟩ | h
  · exact hD.2 k (q, e) h
  · exact hA q (Nat.le_trans hS.1 h)
theorem pct_at {M : MT} {p : Program} {l : Launch} {s U : State} {m : MethodId} {args : Array Value} {meth : Method} {c : Code} {dC : Nat → ClassId} {dI : Nat → Nat → Nat} {dA : Nat → ClassId} {as : Nat → Nat} {A : Nat → Prop} {H : Heap} {locs : List Loc} {w : PW} (hX : Sx M p l s m args meth c dC dI dA as A) (hD : Dy M s dC dI dA as A H locs w) (hU : U.heap = H) (hW : s.WarmedH U.vm) : PCt dC dI dA as w H.size U := by
  obtain ⟨hx, hb, hml, hown, hts, hst, hlk, htb, hK, hA, hG, hsc⟩ := hX
  obtain ⟨hP, hDD, hS⟩ := hD
  subst hU
  exact ⟨rfl, hP, va_K.moved hW.alike hK, hDD.weaken (fun _ _ _ _ => trivial), ((hG.kept (fun a h1 h2 => hS.2.1 a h1 h2)).narrow (fA_of hDD hS hA)).warm hW⟩
/-- the run of a call -/
def Rn (M M' : MT) (k pc : Nat) (L : LV) (stk st : List Value) (w : PW) (po' : PO) (px' : PX) : Prop :=
  ∀ (p : Program) (l : Launch) (e : Env) (s : State) (m : MethodId) (args : Array Value) (below : List Frame) (meth : Method) (c : Code) (dC : Nat → ClassId) (dI : Nat → Nat → Nat) (dA : Nat → ClassId) (as : Nat → Nat) (A : Nat → Prop) (H : Heap) (locs : List Loc) (ls : Array Slot),
    Sx M p l s m args meth c dC dI dA as A → Dy M s dC dI dA as A H locs w → lv_has ls (mN M) (emL as L) →
    ∃ a, vx_Run p l e (mR M) s m args below meth c H locs k (6 * k) (mK M') (6 * mK M') (F0 m pc ls (stk.map (em as))) (st.map (em as)) (QCt po' dC dI dA as w H.size a) (XCt px' dC dI dA as w H.size) (va_A (emW as dA w) H.size)
variable {M M' : MT} {po po' : PO} {px px' : PX} {k pc : Nat} {L : LV} {stk st : List Value} {w : PW}
theorem ev_run (hr : Rn M M' k pc L stk st w po' px') (kk : ∀ v u, po' v u → Ev M po px (k + mK M') (pc + 3) L (v.toList ++ st) u) (kx : ∀ E u, px' E u → EvX M po px (k + mK M') pc L E u) : Ev M po px k pc L stk w := by
  intro p l e s m args below meth c dC dI dA as A Q H locs ls hX hE hD hl
  obtain ⟨a, hr⟩ := hr p l e s m args below meth c dC dI dA as A H locs ls hX hD hl
  obtain ⟨hx, hb, hml, hown, hts, hst, hlk, htb, hK, hA, hG, hsc⟩ := id hX
  obtain ⟨hP, hDD, hS⟩ := id hD
  have fA := fA_of hDD hS hA
  have e6 : 6 * k + 6 * mK M' = 6 * (k + mK M') := by omega
  intro T hT X
  rcases hr T hT X with ⟨v, st₀, t, T', Ls, h0, X', hL, e1, e2, ⟨⟨v0, u, hv, hpo, hP1, hD1⟩, hF⟩, stp⟩ | ⟨q, st₀, t, T', Ls, E, ce, h0, X', hL, e1, e2, ⟨⟨u, hpx, hP1, hD1⟩, hF⟩, hce, hcv, hcl, stp⟩
  · cases hv
    rw [e6] at X'
    obtain ⟨k1, k2, k3⟩ := vx_keep h0 e1 hS (fun q _ h => fA q h) fA hL hF
    obtain ⟨t2, a1, b1⟩ := kk v0 u hpo p l e s m args below meth c dC dI dA as A Q T'.heap (locs ++ Ls) ls hX hE ⟨by rw [e1]; exact hP1, hD1.weaken (fun _ _ _ h => fA _ h), k3⟩ hl T' rfl X'
    refine ⟨t2, stp t2 ?_, b1⟩
    cases v0 <;> exact a1
  · rw [e6] at X'
    obtain ⟨k1, k2, k3⟩ := vx_keep h0 e1 hS (fun q _ h => fA q h) fA hL hF
    obtain ⟨t2, a1, b1⟩ := kx E u hpx p l e s m args below meth c dC dI dA as A Q T'.heap (locs ++ Ls) ls hX hE ⟨by rw [e1]; exact hP1, hD1.weaken (fun _ _ _ h => fA _ h), k3⟩ hl (st.map (em as)) ce q (by rw [e1]; exact hce) hcv hcl T' rfl X'
    exact ⟨t2, stp.trans a1, b1⟩
/-- there is room for a call -/
def RF (M M' : MT) (k : Nat) : Prop := (mR M').frames + 1 ≤ (mR M).frames ∧ 8 + (mN M' + 11) + (mR M').locals ≤ (mR M).locals ∧ k + mK M' ≤ (mR M).cells ∧ 6 * (k + mK M') ≤ (mR M).slots
theorem cat_map (as : Nat → Nat) (st : List Value) : ((st.map (em as)).map fun v => v.category) = st.map fun v => v.category := by simp [em_cat]
theorem rn_V {n idx b ci : Nat} {As fs : List Value} (hc : Ct M' (.ref b :: As) w po' px') (hF : MF M' n) (hI : MI M') (hh : mH M' = []) (hlw : Cond.methodLink (mY M).cls idx (mY M') ∈ Gw) (hR : RF M M' k) (hn : As.length = n) (hw : w[b]? = some (.inr (ci, fs))) (hci : (vwC8[ci]?).map (fun q => q.1) = some (mY M').cls) (hs : (st.map fun v => v.category).sum ≤ 8) (d : decode (mC M) pc = .ok (.invokevirtual idx, 3)) : Rn M M' k pc L (As.reverse ++ .ref b :: st) st w po' px' := by
  intro p l e s m args below meth c dC dI dA as A H locs ls hX hD hl
  obtain ⟨hx, hb, hml, hown, hts, hst, hlk, htb, hK, hA, hG, hsc⟩ := id hX
  obtain ⟨hP, hDD, hS⟩ := id hD
  obtain ⟨f1, f2, f3, f4, f5, f6, f7, f8⟩ := hF
  obtain ⟨r1, r2, r3, r4⟩ := hR
  have hW : hdW M' = Cond.code (mY M') (mC M') (mN M') (mT M') := by unfold hdW; rw [if_pos hh]
  obtain ⟨q, hq, hq1⟩ : ∃ q, vwC8[ci]? = some q ∧ q.1 = (mY M').cls := by
    cases hq : vwC8[ci]? with
    | none => rw [hq] at hci; cases hci
    | some q => rw [hq] at hci; exact ⟨q, rfl, Option.some.inj hci⟩
  have hrec := va_recv hK hP hq (emW_get hw)
  rw [hq1] at hrec
  refine ⟨_, vx_runV (C := (mY M').cls) (b := as b) (As := As.map (em as)) (n := n) ⟨hx, hb, hml, hown, hts⟩ (hc l hst dC dI dA as H.size) ⟨callB_of n hts (gin_hd f1) (by rw [hW]) f5 f6 (hts _ f2) (hts _ hlw) ⟨f3.1, f3.2, f4⟩ ⟨r1, r2⟩, hts _ hI.1, hts _ hI.2⟩ ⟨pct_blind _ _ _ _ _ _ _, hrec, fun U hU hWm => ⟨rfl, pct_at hX hD hU hWm⟩⟩ rfl (by simpa using hn) hl.1 (by simp [em]) (lv_room (by rw [cat_map]; exact hs)) d ⟨r3, by omega⟩⟩
theorem rn_S {n idx : Nat} {As : List Value} (hc : Ct M' As w po' px') (hF : MF M' n) (hI : MS9 M') (hh : mH M' = []) (hlw : Cond.methodLink (mY M).cls idx (mY M') ∈ Gw) (hR : RF M M' k) (hn : As.length = n) (hs : (st.map fun v => v.category).sum ≤ 8) (d : decode (mC M) pc = .ok (.invokestatic idx, 3)) : Rn M M' k pc L (As.reverse ++ st) st w po' px' := by
  intro p l e s m args below meth c dC dI dA as A H locs ls hX hD hl
  obtain ⟨hx, hb, hml, hown, hts, hst, hlk, htb, hK, hA, hG, hsc⟩ := id hX
  obtain ⟨f1, f2, f3, f4, f5, f6, f7, f8⟩ := hF
  obtain ⟨r1, r2, r3, r4⟩ := hR
  have hW : hdW M' = Cond.code (mY M') (mC M') (mN M') (mT M') := by unfold hdW; rw [if_pos hh]
  exact ⟨_, vx_runS (As := As.map (em as)) (n := n) ⟨hx, hb, hml, hown, hts⟩ (hc l hst dC dI dA as H.size) ⟨callB_of n hts (gin_hd f1) (by rw [hW]) f5 f6 (hts _ f2) (hts _ hlw) ⟨f3.1, f3.2, f4⟩ ⟨r1, r2⟩, hts _ hI⟩ ⟨pct_blind _ _ _ _ _ _ _, fun U hU hWm => ⟨rfl, pct_at hX hD hU hWm⟩⟩ rfl (by simpa using hn) hl.1 (by simp [em]) (lv_room (by rw [cat_map]; exact hs)) d ⟨r3, by omega⟩⟩
/-- a static method of a nest mate -/
theorem rn_N {n idx : Nat} {host : String} {As : List Value} (hc : Ct M' As w po' px') (hF : MF M' n) (hI : MS9 M') (hh : mH M' = []) (hnw : ∀ as A U H, GX as A U H → va_Nw (.methodLinkNest (mY M).cls idx (mY M') host) U) (hR : RF M M' k) (hn : As.length = n) (hs : (st.map fun v => v.category).sum ≤ 8) (d : decode (mC M) pc = .ok (.invokestatic idx, 3)) : Rn M M' k pc L (As.reverse ++ st) st w po' px' := by
  intro p l e s m args below meth c dC dI dA as A H locs ls hX hD hl
  obtain ⟨hx, hb, hml, hown, hts, hst, hlk, htb, hK, hA, hG, hsc⟩ := id hX
  obtain ⟨f1, f2, f3, f4, f5, f6, f7, f8⟩ := hF
  obtain ⟨r1, r2, r3, r4⟩ := hR
  have hW : hdW M' = Cond.code (mY M') (mC M') (mN M') (mT M') := by unfold hdW; rw [if_pos hh]
  exact ⟨_, vx_runSN (As := As.map (em as)) (n := n) (host := host) ⟨hx, hb, hml, hown, hts⟩ (hc l hst dC dI dA as H.size) ⟨va_cnB n hts (gin_hd f1) (by rw [hW]) f5 f6 (hnw _ _ _ _ hG) (hts _ f2) ⟨f3.1, f3.2, f4⟩ ⟨r1, r2⟩, hts _ hI, trivial⟩ ⟨pct_blind _ _ _ _ _ _ _, fun U hU hWm => ⟨rfl, pct_at hX hD hU hWm⟩⟩ rfl (by simpa using hn) hl.1 (by simp [em]) (lv_room (by rw [cat_map]; exact hs)) d ⟨r3, by omega⟩⟩
/-- a static method with a table -/
theorem rn_W {n idx : Nat} {As : List Value} (hc : Ct M' As w po' px') (hF : MF M' n) (hI : MS9 M') (hh : ¬ mH M' = []) (hlw : Cond.methodLink (mY M).cls idx (mY M') ∈ Gw) (hR : RF M M' k) (hn : As.length = n) (hs : (st.map fun v => v.category).sum ≤ 8) (d : decode (mC M) pc = .ok (.invokestatic idx, 3)) : Rn M M' k pc L (As.reverse ++ st) st w po' px' := by
  intro p l e s m args below meth c dC dI dA as A H locs ls hX hD hl
  obtain ⟨hx, hb, hml, hown, hts, hst, hlk, htb, hK, hA, hG, hsc⟩ := id hX
  obtain ⟨f1, f2, f3, f4, f5, f6, f7, f8⟩ := hF
  obtain ⟨r1, r2, r3, r4⟩ := hR
  have hW : hdW M' = Cond.codeWith (mY M') (mC M') (mN M') (mT M') (mH M') := by unfold hdW; rw [if_neg hh]
  have hgi : GoodIn Gw (va_wsS (mY M).cls idx (mY M') (hdW M' :: Gw)) := fun w hw => by
    rcases List.mem_append.mp hw with h | h
    · simp only [List.mem_cons, List.not_mem_nil, or_false] at h
      rcases h with rfl | rfl | rfl
      · exact ⟨hlw, good_of_word (Gw_good _ hlw)⟩
      · exact ⟨hI, good_of_word (Gw_good _ hI)⟩
      · exact ⟨f2, good_of_word (Gw_good _ f2)⟩
    · exact gin_hd f1 w h
  exact ⟨_, vx_runSX (hh := mH M') (As := As.map (em as)) (n := n) ⟨hx, hb, hml, hown, hts⟩ (hc l hst dC dI dA as H.size) (vx_cwSW n hts hgi (by rw [hW]) f5 f6 ⟨f3.1, f3.2, f4⟩ ⟨r1, r2⟩) ⟨pct_blind _ _ _ _ _ _ _, fun U hU hWm => ⟨rfl, pct_at hX hD hU hWm⟩⟩ rfl (by simpa using hn) hl.1 (by simp [em]) (lv_room (by rw [cat_map]; exact hs)) d ⟨r3, by omega⟩⟩
set_option maxHeartbeats 1000000 in
/-- throw new E() -/
theorem ev_throw {cls : String} {ik ic ci : Nat} (names : List String) (hcls : Bundle.fit cls = true) (hnames : ∀ n ∈ names, Bundle.fit n = true) (hk0 : Cond.classLink (mY M).cls ik cls ∈ Gw) (hini : Cond.initialized cls ∈ Gw) (hat1 : ∀ w ∈ (vx_at0 (mY M).cls ic cls names).filter goodWord, w ∈ Gw) (hat2 : ∀ w ∈ (vx_at0 (mY M).cls ic cls names).filter (fun w => !goodWord w), w ∈ bd9) (hgood : ∀ w ∈ Cond.classLink (mY M).cls ik cls :: Cond.initialized cls :: vx_at0 (mY M).cls ic cls names, vx_ot w = true) (hc : vwC8[ci]? = some (cls, TX9, 0))
    (hRf : names.length + 3 < (mR M).frames) (hRl : (st.map fun v => v.category).sum + (13 * (names.length + 1) + 42) ≤ (mR M).locals) (hRc : k + 1 ≤ (mR M).cells ∧ 6 * k + 6 ≤ (mR M).slots) (hkM : k + 1 ≤ mK M) (hout : ∀ x ∈ tableOf (mH M), covers x (pc + 7) = false)
    (d0 : decode (mC M) pc = .ok (.new ik, 3)) (d3 : decode (mC M) (pc + 3) = .ok (.dup, 1)) (d4 : decode (mC M) (pc + 4) = .ok (.invokespecial ic, 3)) (d7 : decode (mC M) (pc + 7) = .ok (.athrow, 1)) (h : px cls w) : Ev M po px k pc L st w := by
  intro p l e s m args below meth c dC dI dA as A Q H locs ls hX hE hD hl
  obtain ⟨hx, hb, hml, hown, hts, hst, hlk, htb, hK, hA, hG, hsc⟩ := id hX
  obtain ⟨hP, hDD, hS⟩ := id hD
  obtain ⟨-, hG2, -, hG3, hG4, -⟩ := id hG
  have hat : ∀ w ∈ vx_at0 (mY M).cls ic cls names, w.before args s = true := vx_hat (B := bd9) (fun w hw => hts _ (hat1 w hw)) hat2 (fun w hw => by
    have hb9 := hG2 w hw
    simp only [bd9, List.mem_cons, List.not_mem_nil, or_false] at hw
    rcases hw with rfl | rfl | rfl <;> exact va_Nw.use rfl hb9)
  refine vx_make0 hx hb hst hown hcls hnames (hts _ hk0) (hts _ hini) hat hgood hG3 hG4 hS (hl.1.trans hml.symm) d0 d3 d4 hK hP hDD hA hc hRf (by rw [cat_map]; exact hRl) hRc.1 hRc.2 (fun q H1 P1 D1 S1 => ?_)
  refine vx_athrow hx hb d7 ?_
  obtain ⟨r, g1, ce, g2, g3, g4, -⟩ := P1 (emW as dA w).length (q, .inr (ci, [])) (by simp)
  have hP1 : va_P (dC, dI) vwC8 (emW as dA w) H1 := fun j z hj => P1 j z (by rw [List.getElem?_append_left (List.getElem?_eq_some_iff.mp hj).1]; exact hj)
  have hcl : s.vm.findClass cls = some ce.cls := by rw [g3]; exact (hK.1 ci _ hc).2.1
  refine vx_widen (k := mK M) (n := 6 * mK M) hkM (by omega) ?_
  exact hE.2 H1 locs ls (pc + 7) (st.map (em as)) cls ce q w h ⟨hP1, hDD, S1⟩ hout g2 g4 hcl
/-- caught: the handler keeps the exception and answers v -/
theorem evx_catch {E : String} (pre : List ExceptionTableEntry) (x : ExceptionTableEntry) (suf : List ExceptionTableEntry) (hsplit : tableOf (mH M) = pre ++ x :: suf) (hpass : ∀ z ∈ pre, z.catchType ≠ 0 ∧ ∃ nm : String, Cond.classLink (mY M).cls z.catchType nm ∈ Gw ∧ ∀ as A U H, GX as A U H → va_Nc E nm U) (hcov : covers x pc = true) (h0 : x.catchType ≠ 0) (hlink : Cond.classLink (mY M).cls x.catchType E ∈ Gw) (hcast : Cond.castable E E ∈ bd9) (v : Int32)
    (hend : ∀ (st : List Value), Ev M po px k x.handlerPc L (.ref 998 :: st) w → True) (hh : (∃ (q : Fin 4), decode (mC M) x.handlerPc = .ok (.astore_n q, 1) ∧ (q : Nat) < mN M ∧ ∃ n, decode (mC M) (x.handlerPc + 1) = .ok (.iconst n, 1) ∧ Int32.ofInt n = v ∧ decode (mC M) (x.handlerPc + 1 + 1) = .ok (.ireturn, 1)) ∨ (∃ (i : Nat), decode (mC M) x.handlerPc = .ok (.astore i, 2) ∧ i < mN M ∧ ∃ n, decode (mC M) (x.handlerPc + 2) = .ok (.iconst n, 1) ∧ Int32.ofInt n = v ∧ decode (mC M) (x.handlerPc + 2 + 1) = .ok (.ireturn, 1)))
    (hk : k ≤ mK M) (h : po (some (.int v)) w) : EvX M po px k pc L E w := by
  intro p l e s m args below meth c dC dI dA as A Q H locs ls hX hE hD hl st ce q h1 h2 h3
  obtain ⟨hx, hb, hml, hown, hts, hst, hlk, htb, hK, hA, hG, hsc⟩ := id hX
  obtain ⟨-, hG2, -⟩ := id hG
  have hca : (Cond.castable E E).before args s = true := va_Nw.use rfl (hG2 _ hcast)
  refine vx_catch hown pre x suf (by rw [htb]; exact hsplit) (fun z hz => Or.inr ?_) hcov h0 (hts _ hlink) hca h1 h2 h3 ?_
  · obtain ⟨a1, nm, a2, a3⟩ := hpass z hz
    exact ⟨a1, nm, hts _ a2, a3 _ _ _ _ hG⟩
  · rcases hh with ⟨q0, d1, hq, n, d2, hv, d3⟩ | ⟨i, d1, hq, n, d2, hv, d3⟩
    · refine lv_astore_n hx hb d1 rfl hl hq rfl (fun ls hl => ?_)
      refine lv_iconst hx hb d2 hv ?_
      exact W.widen hk (Nat.mul_le_mul (Nat.le_refl 6) hk) (hE.1 _ _ _ _ (some (.int v)) _ h hD hl.1 d3)
    · refine lv_astore hx hb d1 hl hq rfl (fun ls hl => ?_)
      refine lv_iconst hx hb d2 hv ?_
      exact W.widen hk (Nat.mul_le_mul (Nat.le_refl 6) hk) (hE.1 _ _ _ _ (some (.int v)) _ h hD hl.1 d3)
end CT

/-- what a call needs of its method, in one word -/
def MKV (M' : MT) (n : Nat) : Prop := MF M' n ∧ MI M' ∧ mH M' = []
def MKS (M' : MT) (n : Nat) : Prop := MF M' n ∧ MS9 M' ∧ mH M' = []
def MKW (M' : MT) (n : Nat) : Prop := MF M' n ∧ MS9 M' ∧ ¬ mH M' = []
def rfB (M M' : MT) (k : Nat) : Bool := Nat.ble ((mR M').frames + 1) (mR M).frames && (Nat.ble (8 + (mN M' + 11) + (mR M').locals) (mR M).locals && (Nat.ble (k + mK M') (mR M).cells && Nat.ble (6 * (k + mK M')) (mR M).slots))
theorem rf_of {M M' : MT} {k : Nat} (h : rfB M M' k = true) : RF M M' k := by
  simp only [rfB, Bool.and_eq_true, Nat.ble_eq] at h
  exact h
def stB (st : List Value) : Bool := Nat.ble (st.map fun v => v.category).sum 8
/-- one answer, one world; no throw -/
abbrev d1 (r : Option Value) (u : PW) : PO := fun v u' => v = r ∧ u' = u
abbrev nx : PX := fun _ _ => False
section CALLS
variable {M M' : MT} {po : PO} {px : PX} {k pc : Nat} {L : LV} {st : List Value} {w u : PW} {idx b ci : Nat} {fs : List Value}
theorem ev_cV0 {r : Value} (hc : Ct M' [.ref b] w (d1 (some r) u) nx) (hM : MKV M' 0) (hz : mK M' = 0) (hlw : Cond.methodLink (mY M).cls idx (mY M') ∈ Gw) (hR : rfB M M' k = true) (hw : w[b]? = some (.inr (ci, fs))) (hci : (vwC8[ci]?).map (fun q => q.1) = some (mY M').cls) (hs : stB st = true) (d : decode (mC M) pc = .ok (.invokevirtual idx, 3)) (kk : Ev M po px k (pc + 3) L (r :: st) u) : Ev M po px k pc L (.ref b :: st) w := by
  refine ev_run (rn_V (As := []) hc hM.1 hM.2.1 hM.2.2 hlw (rf_of hR) rfl hw hci (Nat.le_of_ble_eq_true hs) d) (fun v u' h => ?_) (fun _ _ h => h.elim)
  obtain ⟨rfl, rfl⟩ := h
  rw [hz]
  exact kk
theorem ev_cV0v (hc : Ct M' [.ref b] w (d1 (none) u) nx) (hM : MKV M' 0) (hz : mK M' = 0) (hlw : Cond.methodLink (mY M).cls idx (mY M') ∈ Gw) (hR : rfB M M' k = true) (hw : w[b]? = some (.inr (ci, fs))) (hci : (vwC8[ci]?).map (fun q => q.1) = some (mY M').cls) (hs : stB st = true) (d : decode (mC M) pc = .ok (.invokevirtual idx, 3)) (kk : Ev M po px k (pc + 3) L (st) u) : Ev M po px k pc L (.ref b :: st) w := by
  refine ev_run (rn_V (As := []) hc hM.1 hM.2.1 hM.2.2 hlw (rf_of hR) rfl hw hci (Nat.le_of_ble_eq_true hs) d) (fun v u' h => ?_) (fun _ _ h => h.elim)
  obtain ⟨rfl, rfl⟩ := h
  rw [hz]
  exact kk
theorem ev_cS0 {r : Value} (hc : Ct M' [] w (d1 (some r) u) nx) (hM : MKS M' 0) (hz : mK M' = 0) (hlw : Cond.methodLink (mY M).cls idx (mY M') ∈ Gw) (hR : rfB M M' k = true) (hs : stB st = true) (d : decode (mC M) pc = .ok (.invokestatic idx, 3)) (kk : Ev M po px k (pc + 3) L (r :: st) u) : Ev M po px k pc L (st) w := by
  refine ev_run (rn_S (As := []) hc hM.1 hM.2.1 hM.2.2 hlw (rf_of hR) rfl (Nat.le_of_ble_eq_true hs) d) (fun v u' h => ?_) (fun _ _ h => h.elim)
  obtain ⟨rfl, rfl⟩ := h
  rw [hz]
  exact kk
theorem ev_cN0 {host : String} {r : Value} (hc : Ct M' [] w (d1 (some r) u) nx) (hM : MKS M' 0) (hz : mK M' = 0) (hnw : ∀ as A U H, GX as A U H → va_Nw (.methodLinkNest (mY M).cls idx (mY M') host) U) (hR : rfB M M' k = true) (hs : stB st = true) (d : decode (mC M) pc = .ok (.invokestatic idx, 3)) (kk : Ev M po px k (pc + 3) L (r :: st) u) : Ev M po px k pc L (st) w := by
  refine ev_run (rn_N (As := []) hc hM.1 hM.2.1 hM.2.2 hnw (rf_of hR) rfl (Nat.le_of_ble_eq_true hs) d) (fun v u' h => ?_) (fun _ _ h => h.elim)
  obtain ⟨rfl, rfl⟩ := h
  rw [hz]
  exact kk
theorem ev_cW0 {r : Value} (hc : Ct M' [] w (d1 (some r) u) nx) (hM : MKW M' 0) (hz : mK M' = 0) (hlw : Cond.methodLink (mY M).cls idx (mY M') ∈ Gw) (hR : rfB M M' k = true) (hs : stB st = true) (d : decode (mC M) pc = .ok (.invokestatic idx, 3)) (kk : Ev M po px k (pc + 3) L (r :: st) u) : Ev M po px k pc L (st) w := by
  refine ev_run (rn_W (As := []) hc hM.1 hM.2.1 hM.2.2 hlw (rf_of hR) rfl (Nat.le_of_ble_eq_true hs) d) (fun v u' h => ?_) (fun _ _ h => h.elim)
  obtain ⟨rfl, rfl⟩ := h
  rw [hz]
  exact kk
theorem ev_cV1 {x1 : Value} {r : Value} (hc : Ct M' [.ref b, x1] w (d1 (some r) u) nx) (hM : MKV M' 1) (hz : mK M' = 0) (hlw : Cond.methodLink (mY M).cls idx (mY M') ∈ Gw) (hR : rfB M M' k = true) (hw : w[b]? = some (.inr (ci, fs))) (hci : (vwC8[ci]?).map (fun q => q.1) = some (mY M').cls) (hs : stB st = true) (d : decode (mC M) pc = .ok (.invokevirtual idx, 3)) (kk : Ev M po px k (pc + 3) L (r :: st) u) : Ev M po px k pc L (x1 :: .ref b :: st) w := by
  refine ev_run (rn_V (As := [x1]) hc hM.1 hM.2.1 hM.2.2 hlw (rf_of hR) rfl hw hci (Nat.le_of_ble_eq_true hs) d) (fun v u' h => ?_) (fun _ _ h => h.elim)
  obtain ⟨rfl, rfl⟩ := h
  rw [hz]
  exact kk
theorem ev_cV1v {x1 : Value} (hc : Ct M' [.ref b, x1] w (d1 (none) u) nx) (hM : MKV M' 1) (hz : mK M' = 0) (hlw : Cond.methodLink (mY M).cls idx (mY M') ∈ Gw) (hR : rfB M M' k = true) (hw : w[b]? = some (.inr (ci, fs))) (hci : (vwC8[ci]?).map (fun q => q.1) = some (mY M').cls) (hs : stB st = true) (d : decode (mC M) pc = .ok (.invokevirtual idx, 3)) (kk : Ev M po px k (pc + 3) L (st) u) : Ev M po px k pc L (x1 :: .ref b :: st) w := by
  refine ev_run (rn_V (As := [x1]) hc hM.1 hM.2.1 hM.2.2 hlw (rf_of hR) rfl hw hci (Nat.le_of_ble_eq_true hs) d) (fun v u' h => ?_) (fun _ _ h => h.elim)
  obtain ⟨rfl, rfl⟩ := h
  rw [hz]
  exact kk
theorem ev_cS1 {x1 : Value} {r : Value} (hc : Ct M' [x1] w (d1 (some r) u) nx) (hM : MKS M' 1) (hz : mK M' = 0) (hlw : Cond.methodLink (mY M).cls idx (mY M') ∈ Gw) (hR : rfB M M' k = true) (hs : stB st = true) (d : decode (mC M) pc = .ok (.invokestatic idx, 3)) (kk : Ev M po px k (pc + 3) L (r :: st) u) : Ev M po px k pc L (x1 :: st) w := by
  refine ev_run (rn_S (As := [x1]) hc hM.1 hM.2.1 hM.2.2 hlw (rf_of hR) rfl (Nat.le_of_ble_eq_true hs) d) (fun v u' h => ?_) (fun _ _ h => h.elim)
  obtain ⟨rfl, rfl⟩ := h
  rw [hz]
  exact kk
theorem ev_cN1 {host : String} {x1 : Value} {r : Value} (hc : Ct M' [x1] w (d1 (some r) u) nx) (hM : MKS M' 1) (hz : mK M' = 0) (hnw : ∀ as A U H, GX as A U H → va_Nw (.methodLinkNest (mY M).cls idx (mY M') host) U) (hR : rfB M M' k = true) (hs : stB st = true) (d : decode (mC M) pc = .ok (.invokestatic idx, 3)) (kk : Ev M po px k (pc + 3) L (r :: st) u) : Ev M po px k pc L (x1 :: st) w := by
  refine ev_run (rn_N (As := [x1]) hc hM.1 hM.2.1 hM.2.2 hnw (rf_of hR) rfl (Nat.le_of_ble_eq_true hs) d) (fun v u' h => ?_) (fun _ _ h => h.elim)
  obtain ⟨rfl, rfl⟩ := h
  rw [hz]
  exact kk
theorem ev_cW1 {x1 : Value} {r : Value} (hc : Ct M' [x1] w (d1 (some r) u) nx) (hM : MKW M' 1) (hz : mK M' = 0) (hlw : Cond.methodLink (mY M).cls idx (mY M') ∈ Gw) (hR : rfB M M' k = true) (hs : stB st = true) (d : decode (mC M) pc = .ok (.invokestatic idx, 3)) (kk : Ev M po px k (pc + 3) L (r :: st) u) : Ev M po px k pc L (x1 :: st) w := by
  refine ev_run (rn_W (As := [x1]) hc hM.1 hM.2.1 hM.2.2 hlw (rf_of hR) rfl (Nat.le_of_ble_eq_true hs) d) (fun v u' h => ?_) (fun _ _ h => h.elim)
  obtain ⟨rfl, rfl⟩ := h
  rw [hz]
  exact kk
theorem ev_cV2 {x1 x2 : Value} {r : Value} (hc : Ct M' [.ref b, x1, x2] w (d1 (some r) u) nx) (hM : MKV M' 2) (hz : mK M' = 0) (hlw : Cond.methodLink (mY M).cls idx (mY M') ∈ Gw) (hR : rfB M M' k = true) (hw : w[b]? = some (.inr (ci, fs))) (hci : (vwC8[ci]?).map (fun q => q.1) = some (mY M').cls) (hs : stB st = true) (d : decode (mC M) pc = .ok (.invokevirtual idx, 3)) (kk : Ev M po px k (pc + 3) L (r :: st) u) : Ev M po px k pc L (x2 :: x1 :: .ref b :: st) w := by
  refine ev_run (rn_V (As := [x1, x2]) hc hM.1 hM.2.1 hM.2.2 hlw (rf_of hR) rfl hw hci (Nat.le_of_ble_eq_true hs) d) (fun v u' h => ?_) (fun _ _ h => h.elim)
  obtain ⟨rfl, rfl⟩ := h
  rw [hz]
  exact kk
theorem ev_cV2v {x1 x2 : Value} (hc : Ct M' [.ref b, x1, x2] w (d1 (none) u) nx) (hM : MKV M' 2) (hz : mK M' = 0) (hlw : Cond.methodLink (mY M).cls idx (mY M') ∈ Gw) (hR : rfB M M' k = true) (hw : w[b]? = some (.inr (ci, fs))) (hci : (vwC8[ci]?).map (fun q => q.1) = some (mY M').cls) (hs : stB st = true) (d : decode (mC M) pc = .ok (.invokevirtual idx, 3)) (kk : Ev M po px k (pc + 3) L (st) u) : Ev M po px k pc L (x2 :: x1 :: .ref b :: st) w := by
  refine ev_run (rn_V (As := [x1, x2]) hc hM.1 hM.2.1 hM.2.2 hlw (rf_of hR) rfl hw hci (Nat.le_of_ble_eq_true hs) d) (fun v u' h => ?_) (fun _ _ h => h.elim)
  obtain ⟨rfl, rfl⟩ := h
  rw [hz]
  exact kk
theorem ev_cS2 {x1 x2 : Value} {r : Value} (hc : Ct M' [x1, x2] w (d1 (some r) u) nx) (hM : MKS M' 2) (hz : mK M' = 0) (hlw : Cond.methodLink (mY M).cls idx (mY M') ∈ Gw) (hR : rfB M M' k = true) (hs : stB st = true) (d : decode (mC M) pc = .ok (.invokestatic idx, 3)) (kk : Ev M po px k (pc + 3) L (r :: st) u) : Ev M po px k pc L (x2 :: x1 :: st) w := by
  refine ev_run (rn_S (As := [x1, x2]) hc hM.1 hM.2.1 hM.2.2 hlw (rf_of hR) rfl (Nat.le_of_ble_eq_true hs) d) (fun v u' h => ?_) (fun _ _ h => h.elim)
  obtain ⟨rfl, rfl⟩ := h
  rw [hz]
  exact kk
theorem ev_cN2 {host : String} {x1 x2 : Value} {r : Value} (hc : Ct M' [x1, x2] w (d1 (some r) u) nx) (hM : MKS M' 2) (hz : mK M' = 0) (hnw : ∀ as A U H, GX as A U H → va_Nw (.methodLinkNest (mY M).cls idx (mY M') host) U) (hR : rfB M M' k = true) (hs : stB st = true) (d : decode (mC M) pc = .ok (.invokestatic idx, 3)) (kk : Ev M po px k (pc + 3) L (r :: st) u) : Ev M po px k pc L (x2 :: x1 :: st) w := by
  refine ev_run (rn_N (As := [x1, x2]) hc hM.1 hM.2.1 hM.2.2 hnw (rf_of hR) rfl (Nat.le_of_ble_eq_true hs) d) (fun v u' h => ?_) (fun _ _ h => h.elim)
  obtain ⟨rfl, rfl⟩ := h
  rw [hz]
  exact kk
theorem ev_cW2 {x1 x2 : Value} {r : Value} (hc : Ct M' [x1, x2] w (d1 (some r) u) nx) (hM : MKW M' 2) (hz : mK M' = 0) (hlw : Cond.methodLink (mY M).cls idx (mY M') ∈ Gw) (hR : rfB M M' k = true) (hs : stB st = true) (d : decode (mC M) pc = .ok (.invokestatic idx, 3)) (kk : Ev M po px k (pc + 3) L (r :: st) u) : Ev M po px k pc L (x2 :: x1 :: st) w := by
  refine ev_run (rn_W (As := [x1, x2]) hc hM.1 hM.2.1 hM.2.2 hlw (rf_of hR) rfl (Nat.le_of_ble_eq_true hs) d) (fun v u' h => ?_) (fun _ _ h => h.elim)
  obtain ⟨rfl, rfl⟩ := h
  rw [hz]
  exact kk
theorem ev_cV3 {x1 x2 x3 : Value} {r : Value} (hc : Ct M' [.ref b, x1, x2, x3] w (d1 (some r) u) nx) (hM : MKV M' 3) (hz : mK M' = 0) (hlw : Cond.methodLink (mY M).cls idx (mY M') ∈ Gw) (hR : rfB M M' k = true) (hw : w[b]? = some (.inr (ci, fs))) (hci : (vwC8[ci]?).map (fun q => q.1) = some (mY M').cls) (hs : stB st = true) (d : decode (mC M) pc = .ok (.invokevirtual idx, 3)) (kk : Ev M po px k (pc + 3) L (r :: st) u) : Ev M po px k pc L (x3 :: x2 :: x1 :: .ref b :: st) w := by
  refine ev_run (rn_V (As := [x1, x2, x3]) hc hM.1 hM.2.1 hM.2.2 hlw (rf_of hR) rfl hw hci (Nat.le_of_ble_eq_true hs) d) (fun v u' h => ?_) (fun _ _ h => h.elim)
  obtain ⟨rfl, rfl⟩ := h
  rw [hz]
  exact kk
theorem ev_cV3v {x1 x2 x3 : Value} (hc : Ct M' [.ref b, x1, x2, x3] w (d1 (none) u) nx) (hM : MKV M' 3) (hz : mK M' = 0) (hlw : Cond.methodLink (mY M).cls idx (mY M') ∈ Gw) (hR : rfB M M' k = true) (hw : w[b]? = some (.inr (ci, fs))) (hci : (vwC8[ci]?).map (fun q => q.1) = some (mY M').cls) (hs : stB st = true) (d : decode (mC M) pc = .ok (.invokevirtual idx, 3)) (kk : Ev M po px k (pc + 3) L (st) u) : Ev M po px k pc L (x3 :: x2 :: x1 :: .ref b :: st) w := by
  refine ev_run (rn_V (As := [x1, x2, x3]) hc hM.1 hM.2.1 hM.2.2 hlw (rf_of hR) rfl hw hci (Nat.le_of_ble_eq_true hs) d) (fun v u' h => ?_) (fun _ _ h => h.elim)
  obtain ⟨rfl, rfl⟩ := h
  rw [hz]
  exact kk
theorem ev_cS3 {x1 x2 x3 : Value} {r : Value} (hc : Ct M' [x1, x2, x3] w (d1 (some r) u) nx) (hM : MKS M' 3) (hz : mK M' = 0) (hlw : Cond.methodLink (mY M).cls idx (mY M') ∈ Gw) (hR : rfB M M' k = true) (hs : stB st = true) (d : decode (mC M) pc = .ok (.invokestatic idx, 3)) (kk : Ev M po px k (pc + 3) L (r :: st) u) : Ev M po px k pc L (x3 :: x2 :: x1 :: st) w := by
  refine ev_run (rn_S (As := [x1, x2, x3]) hc hM.1 hM.2.1 hM.2.2 hlw (rf_of hR) rfl (Nat.le_of_ble_eq_true hs) d) (fun v u' h => ?_) (fun _ _ h => h.elim)
  obtain ⟨rfl, rfl⟩ := h
  rw [hz]
  exact kk
theorem ev_cN3 {host : String} {x1 x2 x3 : Value} {r : Value} (hc : Ct M' [x1, x2, x3] w (d1 (some r) u) nx) (hM : MKS M' 3) (hz : mK M' = 0) (hnw : ∀ as A U H, GX as A U H → va_Nw (.methodLinkNest (mY M).cls idx (mY M') host) U) (hR : rfB M M' k = true) (hs : stB st = true) (d : decode (mC M) pc = .ok (.invokestatic idx, 3)) (kk : Ev M po px k (pc + 3) L (r :: st) u) : Ev M po px k pc L (x3 :: x2 :: x1 :: st) w := by
  refine ev_run (rn_N (As := [x1, x2, x3]) hc hM.1 hM.2.1 hM.2.2 hnw (rf_of hR) rfl (Nat.le_of_ble_eq_true hs) d) (fun v u' h => ?_) (fun _ _ h => h.elim)
  obtain ⟨rfl, rfl⟩ := h
  rw [hz]
  exact kk
theorem ev_cW3 {x1 x2 x3 : Value} {r : Value} (hc : Ct M' [x1, x2, x3] w (d1 (some r) u) nx) (hM : MKW M' 3) (hz : mK M' = 0) (hlw : Cond.methodLink (mY M).cls idx (mY M') ∈ Gw) (hR : rfB M M' k = true) (hs : stB st = true) (d : decode (mC M) pc = .ok (.invokestatic idx, 3)) (kk : Ev M po px k (pc + 3) L (r :: st) u) : Ev M po px k pc L (x3 :: x2 :: x1 :: st) w := by
  refine ev_run (rn_W (As := [x1, x2, x3]) hc hM.1 hM.2.1 hM.2.2 hlw (rf_of hR) rfl (Nat.le_of_ble_eq_true hs) d) (fun v u' h => ?_) (fun _ _ h => h.elim)
  obtain ⟨rfl, rfl⟩ := h
  rw [hz]
  exact kk
theorem ev_cV4 {x1 x2 x3 x4 : Value} {r : Value} (hc : Ct M' [.ref b, x1, x2, x3, x4] w (d1 (some r) u) nx) (hM : MKV M' 4) (hz : mK M' = 0) (hlw : Cond.methodLink (mY M).cls idx (mY M') ∈ Gw) (hR : rfB M M' k = true) (hw : w[b]? = some (.inr (ci, fs))) (hci : (vwC8[ci]?).map (fun q => q.1) = some (mY M').cls) (hs : stB st = true) (d : decode (mC M) pc = .ok (.invokevirtual idx, 3)) (kk : Ev M po px k (pc + 3) L (r :: st) u) : Ev M po px k pc L (x4 :: x3 :: x2 :: x1 :: .ref b :: st) w := by
  refine ev_run (rn_V (As := [x1, x2, x3, x4]) hc hM.1 hM.2.1 hM.2.2 hlw (rf_of hR) rfl hw hci (Nat.le_of_ble_eq_true hs) d) (fun v u' h => ?_) (fun _ _ h => h.elim)
  obtain ⟨rfl, rfl⟩ := h
  rw [hz]
  exact kk
theorem ev_cV4v {x1 x2 x3 x4 : Value} (hc : Ct M' [.ref b, x1, x2, x3, x4] w (d1 (none) u) nx) (hM : MKV M' 4) (hz : mK M' = 0) (hlw : Cond.methodLink (mY M).cls idx (mY M') ∈ Gw) (hR : rfB M M' k = true) (hw : w[b]? = some (.inr (ci, fs))) (hci : (vwC8[ci]?).map (fun q => q.1) = some (mY M').cls) (hs : stB st = true) (d : decode (mC M) pc = .ok (.invokevirtual idx, 3)) (kk : Ev M po px k (pc + 3) L (st) u) : Ev M po px k pc L (x4 :: x3 :: x2 :: x1 :: .ref b :: st) w := by
  refine ev_run (rn_V (As := [x1, x2, x3, x4]) hc hM.1 hM.2.1 hM.2.2 hlw (rf_of hR) rfl hw hci (Nat.le_of_ble_eq_true hs) d) (fun v u' h => ?_) (fun _ _ h => h.elim)
  obtain ⟨rfl, rfl⟩ := h
  rw [hz]
  exact kk
theorem ev_cS4 {x1 x2 x3 x4 : Value} {r : Value} (hc : Ct M' [x1, x2, x3, x4] w (d1 (some r) u) nx) (hM : MKS M' 4) (hz : mK M' = 0) (hlw : Cond.methodLink (mY M).cls idx (mY M') ∈ Gw) (hR : rfB M M' k = true) (hs : stB st = true) (d : decode (mC M) pc = .ok (.invokestatic idx, 3)) (kk : Ev M po px k (pc + 3) L (r :: st) u) : Ev M po px k pc L (x4 :: x3 :: x2 :: x1 :: st) w := by
  refine ev_run (rn_S (As := [x1, x2, x3, x4]) hc hM.1 hM.2.1 hM.2.2 hlw (rf_of hR) rfl (Nat.le_of_ble_eq_true hs) d) (fun v u' h => ?_) (fun _ _ h => h.elim)
  obtain ⟨rfl, rfl⟩ := h
  rw [hz]
  exact kk
theorem ev_cN4 {host : String} {x1 x2 x3 x4 : Value} {r : Value} (hc : Ct M' [x1, x2, x3, x4] w (d1 (some r) u) nx) (hM : MKS M' 4) (hz : mK M' = 0) (hnw : ∀ as A U H, GX as A U H → va_Nw (.methodLinkNest (mY M).cls idx (mY M') host) U) (hR : rfB M M' k = true) (hs : stB st = true) (d : decode (mC M) pc = .ok (.invokestatic idx, 3)) (kk : Ev M po px k (pc + 3) L (r :: st) u) : Ev M po px k pc L (x4 :: x3 :: x2 :: x1 :: st) w := by
  refine ev_run (rn_N (As := [x1, x2, x3, x4]) hc hM.1 hM.2.1 hM.2.2 hnw (rf_of hR) rfl (Nat.le_of_ble_eq_true hs) d) (fun v u' h => ?_) (fun _ _ h => h.elim)
  obtain ⟨rfl, rfl⟩ := h
  rw [hz]
  exact kk
theorem ev_cW4 {x1 x2 x3 x4 : Value} {r : Value} (hc : Ct M' [x1, x2, x3, x4] w (d1 (some r) u) nx) (hM : MKW M' 4) (hz : mK M' = 0) (hlw : Cond.methodLink (mY M).cls idx (mY M') ∈ Gw) (hR : rfB M M' k = true) (hs : stB st = true) (d : decode (mC M) pc = .ok (.invokestatic idx, 3)) (kk : Ev M po px k (pc + 3) L (r :: st) u) : Ev M po px k pc L (x4 :: x3 :: x2 :: x1 :: st) w := by
  refine ev_run (rn_W (As := [x1, x2, x3, x4]) hc hM.1 hM.2.1 hM.2.2 hlw (rf_of hR) rfl (Nat.le_of_ble_eq_true hs) d) (fun v u' h => ?_) (fun _ _ h => h.elim)
  obtain ⟨rfl, rfl⟩ := h
  rw [hz]
  exact kk
end CALLS
end
