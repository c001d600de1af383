section
-- ===== PART A: goes FIRST, ahead of the names: the tables' words, and 'selects' of the private methods out of them =====
/-- a private method of a class that the tables say can be made, by its rows of tables_1 -/
def lw_okq (q : MethodName × Nat) : Prop := (q.1.cls ≠ "java/lang/invoke/MethodHandle" ∧ q.1.cls ≠ "java/lang/invoke/VarHandle") ∧ Cond.instantiable q.1.cls q.2 ∈ tables_1 ∧ Cond.privateMethod q.1 ∈ tables_1 ∧ Cond.instanceMethod q.1 ∈ tables_1
theorem lw_p0 : lw_okq (⟨"PledgeHouse", "save", "()V"⟩, 9) := ⟨⟨by decide +kernel, by decide +kernel⟩, List.mem_of_getElem? (i := 19) (by decide +kernel), List.mem_of_getElem? (i := 230) (by decide +kernel), List.mem_of_getElem? (i := 231) (by decide +kernel)⟩
theorem lw_p1 : lw_okq (⟨"PledgeHouse", "saveBefore", "()V"⟩, 9) := ⟨⟨by decide +kernel, by decide +kernel⟩, List.mem_of_getElem? (i := 19) (by decide +kernel), List.mem_of_getElem? (i := 241) (by decide +kernel), List.mem_of_getElem? (i := 242) (by decide +kernel)⟩
theorem lw_p2 : lw_okq (⟨"PledgeHouse", "hashKind", "(JI)J"⟩, 9) := ⟨⟨by decide +kernel, by decide +kernel⟩, List.mem_of_getElem? (i := 19) (by decide +kernel), List.mem_of_getElem? (i := 441) (by decide +kernel), List.mem_of_getElem? (i := 442) (by decide +kernel)⟩
theorem lw_p3 : lw_okq (⟨"PledgeHouse", "hashPledges", "(JI)J"⟩, 9) := ⟨⟨by decide +kernel, by decide +kernel⟩, List.mem_of_getElem? (i := 19) (by decide +kernel), List.mem_of_getElem? (i := 453) (by decide +kernel), List.mem_of_getElem? (i := 454) (by decide +kernel)⟩
theorem lw_p4 : lw_okq (⟨"PledgeHouse", "hashOutlook", "(JI)J"⟩, 9) := ⟨⟨by decide +kernel, by decide +kernel⟩, List.mem_of_getElem? (i := 19) (by decide +kernel), List.mem_of_getElem? (i := 467) (by decide +kernel), List.mem_of_getElem? (i := 468) (by decide +kernel)⟩
theorem lw_p5 : lw_okq (⟨"PledgeHouse", "hashRules", "(J)J"⟩, 9) := ⟨⟨by decide +kernel, by decide +kernel⟩, List.mem_of_getElem? (i := 19) (by decide +kernel), List.mem_of_getElem? (i := 540) (by decide +kernel), List.mem_of_getElem? (i := 541) (by decide +kernel)⟩
theorem lw_p6 : lw_okq (⟨"PledgeHouse", "hashAccounts", "(J)J"⟩, 9) := ⟨⟨by decide +kernel, by decide +kernel⟩, List.mem_of_getElem? (i := 19) (by decide +kernel), List.mem_of_getElem? (i := 548) (by decide +kernel), List.mem_of_getElem? (i := 549) (by decide +kernel)⟩
theorem lw_p7 : lw_okq (⟨"PledgeHouse", "hashSlotsAndText", "(J)J"⟩, 9) := ⟨⟨by decide +kernel, by decide +kernel⟩, List.mem_of_getElem? (i := 19) (by decide +kernel), List.mem_of_getElem? (i := 560) (by decide +kernel), List.mem_of_getElem? (i := 561) (by decide +kernel)⟩
theorem lw_p8 : lw_okq (⟨"java/lang/Throwable", "fillInStackTrace", "(I)Ljava/lang/Throwable;"⟩, 6) := ⟨⟨by decide +kernel, by decide +kernel⟩, List.mem_of_getElem? (i := 614) (by decide +kernel), List.mem_of_getElem? (i := 612) (by decide +kernel), List.mem_of_getElem? (i := 613) (by decide +kernel)⟩
theorem lw_p9 : lw_okq (⟨"PledgeHouse", "carryOutPart", "()Z"⟩, 9) := ⟨⟨by decide +kernel, by decide +kernel⟩, List.mem_of_getElem? (i := 19) (by decide +kernel), List.mem_of_getElem? (i := 867) (by decide +kernel), List.mem_of_getElem? (i := 868) (by decide +kernel)⟩
theorem lw_p10 : lw_okq (⟨"PledgeHouseModel", "sets", "(IIII)I"⟩, 12) := ⟨⟨by decide +kernel, by decide +kernel⟩, List.mem_of_getElem? (i := 1053) (by decide +kernel), List.mem_of_getElem? (i := 1110) (by decide +kernel), List.mem_of_getElem? (i := 1111) (by decide +kernel)⟩
theorem lw_p11 : lw_okq (⟨"PledgeHouseModel", "throwing", "(I)I"⟩, 12) := ⟨⟨by decide +kernel, by decide +kernel⟩, List.mem_of_getElem? (i := 1053) (by decide +kernel), List.mem_of_getElem? (i := 1114) (by decide +kernel), List.mem_of_getElem? (i := 1115) (by decide +kernel)⟩
theorem lw_p12 : lw_okq (⟨"PledgeHouseModel", "save", "()V"⟩, 12) := ⟨⟨by decide +kernel, by decide +kernel⟩, List.mem_of_getElem? (i := 1053) (by decide +kernel), List.mem_of_getElem? (i := 1118) (by decide +kernel), List.mem_of_getElem? (i := 1119) (by decide +kernel)⟩
theorem lw_p13 : lw_okq (⟨"PledgeHouseModel", "looks", "()V"⟩, 12) := ⟨⟨by decide +kernel, by decide +kernel⟩, List.mem_of_getElem? (i := 1053) (by decide +kernel), List.mem_of_getElem? (i := 1122) (by decide +kernel), List.mem_of_getElem? (i := 1123) (by decide +kernel)⟩
theorem lw_p14 : lw_okq (⟨"PledgeHouseModel", "isCovered", "(I)Z"⟩, 12) := ⟨⟨by decide +kernel, by decide +kernel⟩, List.mem_of_getElem? (i := 1053) (by decide +kernel), List.mem_of_getElem? (i := 1126) (by decide +kernel), List.mem_of_getElem? (i := 1127) (by decide +kernel)⟩
theorem lw_p15 : lw_okq (⟨"PledgeHouseModel", "of", "(II)I"⟩, 12) := ⟨⟨by decide +kernel, by decide +kernel⟩, List.mem_of_getElem? (i := 1053) (by decide +kernel), List.mem_of_getElem? (i := 1130) (by decide +kernel), List.mem_of_getElem? (i := 1131) (by decide +kernel)⟩
def lw_privs_1 : List (MethodName × Nat) := [(⟨"PledgeHouse", "save", "()V"⟩, 9), (⟨"PledgeHouse", "saveBefore", "()V"⟩, 9), (⟨"PledgeHouse", "hashKind", "(JI)J"⟩, 9), (⟨"PledgeHouse", "hashPledges", "(JI)J"⟩, 9), (⟨"PledgeHouse", "hashOutlook", "(JI)J"⟩, 9), (⟨"PledgeHouse", "hashRules", "(J)J"⟩, 9), (⟨"PledgeHouse", "hashAccounts", "(J)J"⟩, 9), (⟨"PledgeHouse", "hashSlotsAndText", "(J)J"⟩, 9), (⟨"java/lang/Throwable", "fillInStackTrace", "(I)Ljava/lang/Throwable;"⟩, 6), (⟨"PledgeHouse", "carryOutPart", "()Z"⟩, 9), (⟨"PledgeHouseModel", "sets", "(IIII)I"⟩, 12), (⟨"PledgeHouseModel", "throwing", "(I)I"⟩, 12), (⟨"PledgeHouseModel", "save", "()V"⟩, 12), (⟨"PledgeHouseModel", "looks", "()V"⟩, 12), (⟨"PledgeHouseModel", "isCovered", "(I)Z"⟩, 12), (⟨"PledgeHouseModel", "of", "(II)I"⟩, 12)]
theorem lw_r1 : ∀ q ∈ lw_privs_1, lw_okq q := List.forall_mem_cons.mpr ⟨lw_p0, List.forall_mem_cons.mpr ⟨lw_p1, List.forall_mem_cons.mpr ⟨lw_p2, List.forall_mem_cons.mpr ⟨lw_p3, List.forall_mem_cons.mpr ⟨lw_p4, List.forall_mem_cons.mpr ⟨lw_p5, List.forall_mem_cons.mpr ⟨lw_p6, List.forall_mem_cons.mpr ⟨lw_p7, List.forall_mem_cons.mpr ⟨lw_p8, List.forall_mem_cons.mpr ⟨lw_p9, List.forall_mem_cons.mpr ⟨lw_p10, List.forall_mem_cons.mpr ⟨lw_p11, List.forall_mem_cons.mpr ⟨lw_p12, List.forall_mem_cons.mpr ⟨lw_p13, List.forall_mem_cons.mpr ⟨lw_p14, List.forall_mem_cons.mpr ⟨lw_p15, fun _ h => absurd h List.not_mem_nil⟩⟩⟩⟩⟩⟩⟩⟩⟩⟩⟩⟩⟩⟩⟩⟩
theorem lw_p16 : lw_okq (⟨"PledgeHouseModel", "cover", "(I)I"⟩, 12) := ⟨⟨by decide +kernel, by decide +kernel⟩, List.mem_of_getElem? (i := 1053) (by decide +kernel), List.mem_of_getElem? (i := 1134) (by decide +kernel), List.mem_of_getElem? (i := 1135) (by decide +kernel)⟩
theorem lw_p17 : lw_okq (⟨"PledgeHouseModel", "coverIf", "(III)I"⟩, 12) := ⟨⟨by decide +kernel, by decide +kernel⟩, List.mem_of_getElem? (i := 1053) (by decide +kernel), List.mem_of_getElem? (i := 1138) (by decide +kernel), List.mem_of_getElem? (i := 1139) (by decide +kernel)⟩
theorem lw_p18 : lw_okq (⟨"PledgeHouseModel", "fallen", "(II)I"⟩, 12) := ⟨⟨by decide +kernel, by decide +kernel⟩, List.mem_of_getElem? (i := 1053) (by decide +kernel), List.mem_of_getElem? (i := 1142) (by decide +kernel), List.mem_of_getElem? (i := 1143) (by decide +kernel)⟩
theorem lw_p19 : lw_okq (⟨"PledgeHouseModel", "called", "(I)Z"⟩, 12) := ⟨⟨by decide +kernel, by decide +kernel⟩, List.mem_of_getElem? (i := 1053) (by decide +kernel), List.mem_of_getElem? (i := 1146) (by decide +kernel), List.mem_of_getElem? (i := 1147) (by decide +kernel)⟩
theorem lw_p20 : lw_okq (⟨"PledgeHouseModel", "lay", "(III)V"⟩, 12) := ⟨⟨by decide +kernel, by decide +kernel⟩, List.mem_of_getElem? (i := 1053) (by decide +kernel), List.mem_of_getElem? (i := 1150) (by decide +kernel), List.mem_of_getElem? (i := 1151) (by decide +kernel)⟩
theorem lw_p21 : lw_okq (⟨"PledgeHouseModel", "areThere", "(II)Z"⟩, 12) := ⟨⟨by decide +kernel, by decide +kernel⟩, List.mem_of_getElem? (i := 1053) (by decide +kernel), List.mem_of_getElem? (i := 1166) (by decide +kernel), List.mem_of_getElem? (i := 1167) (by decide +kernel)⟩
theorem lw_p22 : lw_okq (⟨"PledgeHouseModel", "canPledge", "(III)Z"⟩, 12) := ⟨⟨by decide +kernel, by decide +kernel⟩, List.mem_of_getElem? (i := 1053) (by decide +kernel), List.mem_of_getElem? (i := 1173) (by decide +kernel), List.mem_of_getElem? (i := 1174) (by decide +kernel)⟩
theorem lw_p23 : lw_okq (⟨"PledgeHouseModel", "grow", "(III)V"⟩, 12) := ⟨⟨by decide +kernel, by decide +kernel⟩, List.mem_of_getElem? (i := 1053) (by decide +kernel), List.mem_of_getElem? (i := 1177) (by decide +kernel), List.mem_of_getElem? (i := 1178) (by decide +kernel)⟩
theorem lw_p24 : lw_okq (⟨"PledgeHouseModel", "canLack", "(III)Z"⟩, 12) := ⟨⟨by decide +kernel, by decide +kernel⟩, List.mem_of_getElem? (i := 1053) (by decide +kernel), List.mem_of_getElem? (i := 1185) (by decide +kernel), List.mem_of_getElem? (i := 1186) (by decide +kernel)⟩
theorem lw_p25 : lw_okq (⟨"PledgeHouseModel", "isThere", "(I)Z"⟩, 12) := ⟨⟨by decide +kernel, by decide +kernel⟩, List.mem_of_getElem? (i := 1053) (by decide +kernel), List.mem_of_getElem? (i := 1193) (by decide +kernel), List.mem_of_getElem? (i := 1194) (by decide +kernel)⟩
theorem lw_p26 : lw_okq (⟨"PledgeHouseModel", "canLend", "(II)Z"⟩, 12) := ⟨⟨by decide +kernel, by decide +kernel⟩, List.mem_of_getElem? (i := 1053) (by decide +kernel), List.mem_of_getElem? (i := 1206) (by decide +kernel), List.mem_of_getElem? (i := 1207) (by decide +kernel)⟩
theorem lw_p27 : lw_okq (⟨"PledgeHouseModel", "lends", "(II)V"⟩, 12) := ⟨⟨by decide +kernel, by decide +kernel⟩, List.mem_of_getElem? (i := 1053) (by decide +kernel), List.mem_of_getElem? (i := 1210) (by decide +kernel), List.mem_of_getElem? (i := 1211) (by decide +kernel)⟩
theorem lw_p28 : lw_okq (⟨"PledgeHouseModel", "paysBack", "(II)I"⟩, 12) := ⟨⟨by decide +kernel, by decide +kernel⟩, List.mem_of_getElem? (i := 1053) (by decide +kernel), List.mem_of_getElem? (i := 1218) (by decide +kernel), List.mem_of_getElem? (i := 1219) (by decide +kernel)⟩
theorem lw_p29 : lw_okq (⟨"PledgeHouseModel", "passes", "(I)I"⟩, 12) := ⟨⟨by decide +kernel, by decide +kernel⟩, List.mem_of_getElem? (i := 1053) (by decide +kernel), List.mem_of_getElem? (i := 1230) (by decide +kernel), List.mem_of_getElem? (i := 1231) (by decide +kernel)⟩
theorem lw_p30 : lw_okq (⟨"PledgeHouseModel", "hour", "()I"⟩, 12) := ⟨⟨by decide +kernel, by decide +kernel⟩, List.mem_of_getElem? (i := 1053) (by decide +kernel), List.mem_of_getElem? (i := 1234) (by decide +kernel), List.mem_of_getElem? (i := 1235) (by decide +kernel)⟩
theorem lw_p31 : lw_okq (⟨"PledgeHouseModel", "sellsOut", "(I)I"⟩, 12) := ⟨⟨by decide +kernel, by decide +kernel⟩, List.mem_of_getElem? (i := 1053) (by decide +kernel), List.mem_of_getElem? (i := 1241) (by decide +kernel), List.mem_of_getElem? (i := 1242) (by decide +kernel)⟩
def lw_privs_2 : List (MethodName × Nat) := [(⟨"PledgeHouseModel", "cover", "(I)I"⟩, 12), (⟨"PledgeHouseModel", "coverIf", "(III)I"⟩, 12), (⟨"PledgeHouseModel", "fallen", "(II)I"⟩, 12), (⟨"PledgeHouseModel", "called", "(I)Z"⟩, 12), (⟨"PledgeHouseModel", "lay", "(III)V"⟩, 12), (⟨"PledgeHouseModel", "areThere", "(II)Z"⟩, 12), (⟨"PledgeHouseModel", "canPledge", "(III)Z"⟩, 12), (⟨"PledgeHouseModel", "grow", "(III)V"⟩, 12), (⟨"PledgeHouseModel", "canLack", "(III)Z"⟩, 12), (⟨"PledgeHouseModel", "isThere", "(I)Z"⟩, 12), (⟨"PledgeHouseModel", "canLend", "(II)Z"⟩, 12), (⟨"PledgeHouseModel", "lends", "(II)V"⟩, 12), (⟨"PledgeHouseModel", "paysBack", "(II)I"⟩, 12), (⟨"PledgeHouseModel", "passes", "(I)I"⟩, 12), (⟨"PledgeHouseModel", "hour", "()I"⟩, 12), (⟨"PledgeHouseModel", "sellsOut", "(I)I"⟩, 12)]
theorem lw_r2 : ∀ q ∈ lw_privs_2, lw_okq q := List.forall_mem_cons.mpr ⟨lw_p16, List.forall_mem_cons.mpr ⟨lw_p17, List.forall_mem_cons.mpr ⟨lw_p18, List.forall_mem_cons.mpr ⟨lw_p19, List.forall_mem_cons.mpr ⟨lw_p20, List.forall_mem_cons.mpr ⟨lw_p21, List.forall_mem_cons.mpr ⟨lw_p22, List.forall_mem_cons.mpr ⟨lw_p23, List.forall_mem_cons.mpr ⟨lw_p24, List.forall_mem_cons.mpr ⟨lw_p25, List.forall_mem_cons.mpr ⟨lw_p26, List.forall_mem_cons.mpr ⟨lw_p27, List.forall_mem_cons.mpr ⟨lw_p28, List.forall_mem_cons.mpr ⟨lw_p29, List.forall_mem_cons.mpr ⟨lw_p30, List.forall_mem_cons.mpr ⟨lw_p31, fun _ h => absurd h List.not_mem_nil⟩⟩⟩⟩⟩⟩⟩⟩⟩⟩⟩⟩⟩⟩⟩⟩
theorem lw_p32 : lw_okq (⟨"PledgeHouseModel", "pays", "(II)V"⟩, 12) := ⟨⟨by decide +kernel, by decide +kernel⟩, List.mem_of_getElem? (i := 1053) (by decide +kernel), List.mem_of_getElem? (i := 1245) (by decide +kernel), List.mem_of_getElem? (i := 1246) (by decide +kernel)⟩
theorem lw_p33 : lw_okq (⟨"PledgeHouseModel", "selling", "(I)I"⟩, 12) := ⟨⟨by decide +kernel, by decide +kernel⟩, List.mem_of_getElem? (i := 1053) (by decide +kernel), List.mem_of_getElem? (i := 1249) (by decide +kernel), List.mem_of_getElem? (i := 1250) (by decide +kernel)⟩
theorem lw_p34 : lw_okq (⟨"PledgeHouseModel", "isAhead", "(II)Z"⟩, 12) := ⟨⟨by decide +kernel, by decide +kernel⟩, List.mem_of_getElem? (i := 1053) (by decide +kernel), List.mem_of_getElem? (i := 1253) (by decide +kernel), List.mem_of_getElem? (i := 1254) (by decide +kernel)⟩
theorem lw_p35 : lw_okq (⟨"PledgeHouseModel", "rules", "(IIII)I"⟩, 12) := ⟨⟨by decide +kernel, by decide +kernel⟩, List.mem_of_getElem? (i := 1053) (by decide +kernel), List.mem_of_getElem? (i := 1261) (by decide +kernel), List.mem_of_getElem? (i := 1262) (by decide +kernel)⟩
theorem lw_p36 : lw_okq (⟨"PledgeHouseModel", "go", "(Z)Z"⟩, 12) := ⟨⟨by decide +kernel, by decide +kernel⟩, List.mem_of_getElem? (i := 1053) (by decide +kernel), List.mem_of_getElem? (i := 1289) (by decide +kernel), List.mem_of_getElem? (i := 1290) (by decide +kernel)⟩
theorem lw_p37 : lw_okq (⟨"PledgeHouseModel", "isOrdered", "(Z)Z"⟩, 12) := ⟨⟨by decide +kernel, by decide +kernel⟩, List.mem_of_getElem? (i := 1053) (by decide +kernel), List.mem_of_getElem? (i := 1293) (by decide +kernel), List.mem_of_getElem? (i := 1294) (by decide +kernel)⟩
theorem lw_p38 : lw_okq (⟨"PledgeHouseModel", "sign", "(II)I"⟩, 12) := ⟨⟨by decide +kernel, by decide +kernel⟩, List.mem_of_getElem? (i := 1053) (by decide +kernel), List.mem_of_getElem? (i := 1297) (by decide +kernel), List.mem_of_getElem? (i := 1298) (by decide +kernel)⟩
theorem lw_p39 : lw_okq (⟨"PledgeHouseModel", "number", "(II)I"⟩, 12) := ⟨⟨by decide +kernel, by decide +kernel⟩, List.mem_of_getElem? (i := 1053) (by decide +kernel), List.mem_of_getElem? (i := 1301) (by decide +kernel), List.mem_of_getElem? (i := 1302) (by decide +kernel)⟩
theorem lw_p40 : lw_okq (⟨"PledgeHouseModel", "isFollowed", "(IIII)Z"⟩, 12) := ⟨⟨by decide +kernel, by decide +kernel⟩, List.mem_of_getElem? (i := 1053) (by decide +kernel), List.mem_of_getElem? (i := 1305) (by decide +kernel), List.mem_of_getElem? (i := 1306) (by decide +kernel)⟩
theorem lw_p41 : lw_okq (⟨"PledgeHouseModel", "keepsAside", "()V"⟩, 12) := ⟨⟨by decide +kernel, by decide +kernel⟩, List.mem_of_getElem? (i := 1053) (by decide +kernel), List.mem_of_getElem? (i := 1313) (by decide +kernel), List.mem_of_getElem? (i := 1314) (by decide +kernel)⟩
theorem lw_p42 : lw_okq (⟨"PledgeHouseModel", "putsBack", "()V"⟩, 12) := ⟨⟨by decide +kernel, by decide +kernel⟩, List.mem_of_getElem? (i := 1053) (by decide +kernel), List.mem_of_getElem? (i := 1317) (by decide +kernel), List.mem_of_getElem? (i := 1318) (by decide +kernel)⟩
theorem lw_p43 : lw_okq (⟨"PledgeHouseModel", "allCalled", "()I"⟩, 12) := ⟨⟨by decide +kernel, by decide +kernel⟩, List.mem_of_getElem? (i := 1053) (by decide +kernel), List.mem_of_getElem? (i := 1321) (by decide +kernel), List.mem_of_getElem? (i := 1322) (by decide +kernel)⟩
theorem lw_p44 : lw_okq (⟨"PledgeHouseModel", "told", "(II)I"⟩, 12) := ⟨⟨by decide +kernel, by decide +kernel⟩, List.mem_of_getElem? (i := 1053) (by decide +kernel), List.mem_of_getElem? (i := 1345) (by decide +kernel), List.mem_of_getElem? (i := 1346) (by decide +kernel)⟩
theorem lw_p45 : lw_okq (⟨"PledgeHouseModel", "pledged", "(I)I"⟩, 12) := ⟨⟨by decide +kernel, by decide +kernel⟩, List.mem_of_getElem? (i := 1053) (by decide +kernel), List.mem_of_getElem? (i := 1357) (by decide +kernel), List.mem_of_getElem? (i := 1358) (by decide +kernel)⟩
theorem lw_p46 : lw_okq (⟨"PledgeHouseModel", "worth", "(I)I"⟩, 12) := ⟨⟨by decide +kernel, by decide +kernel⟩, List.mem_of_getElem? (i := 1053) (by decide +kernel), List.mem_of_getElem? (i := 1381) (by decide +kernel), List.mem_of_getElem? (i := 1382) (by decide +kernel)⟩
theorem lw_p47 : lw_okq (⟨"PledgeHouseModel", "room", "(I)I"⟩, 12) := ⟨⟨by decide +kernel, by decide +kernel⟩, List.mem_of_getElem? (i := 1053) (by decide +kernel), List.mem_of_getElem? (i := 1393) (by decide +kernel), List.mem_of_getElem? (i := 1394) (by decide +kernel)⟩
def lw_privs_3 : List (MethodName × Nat) := [(⟨"PledgeHouseModel", "pays", "(II)V"⟩, 12), (⟨"PledgeHouseModel", "selling", "(I)I"⟩, 12), (⟨"PledgeHouseModel", "isAhead", "(II)Z"⟩, 12), (⟨"PledgeHouseModel", "rules", "(IIII)I"⟩, 12), (⟨"PledgeHouseModel", "go", "(Z)Z"⟩, 12), (⟨"PledgeHouseModel", "isOrdered", "(Z)Z"⟩, 12), (⟨"PledgeHouseModel", "sign", "(II)I"⟩, 12), (⟨"PledgeHouseModel", "number", "(II)I"⟩, 12), (⟨"PledgeHouseModel", "isFollowed", "(IIII)Z"⟩, 12), (⟨"PledgeHouseModel", "keepsAside", "()V"⟩, 12), (⟨"PledgeHouseModel", "putsBack", "()V"⟩, 12), (⟨"PledgeHouseModel", "allCalled", "()I"⟩, 12), (⟨"PledgeHouseModel", "told", "(II)I"⟩, 12), (⟨"PledgeHouseModel", "pledged", "(I)I"⟩, 12), (⟨"PledgeHouseModel", "worth", "(I)I"⟩, 12), (⟨"PledgeHouseModel", "room", "(I)I"⟩, 12)]
theorem lw_r3 : ∀ q ∈ lw_privs_3, lw_okq q := List.forall_mem_cons.mpr ⟨lw_p32, List.forall_mem_cons.mpr ⟨lw_p33, List.forall_mem_cons.mpr ⟨lw_p34, List.forall_mem_cons.mpr ⟨lw_p35, List.forall_mem_cons.mpr ⟨lw_p36, List.forall_mem_cons.mpr ⟨lw_p37, List.forall_mem_cons.mpr ⟨lw_p38, List.forall_mem_cons.mpr ⟨lw_p39, List.forall_mem_cons.mpr ⟨lw_p40, List.forall_mem_cons.mpr ⟨lw_p41, List.forall_mem_cons.mpr ⟨lw_p42, List.forall_mem_cons.mpr ⟨lw_p43, List.forall_mem_cons.mpr ⟨lw_p44, List.forall_mem_cons.mpr ⟨lw_p45, List.forall_mem_cons.mpr ⟨lw_p46, List.forall_mem_cons.mpr ⟨lw_p47, fun _ h => absurd h List.not_mem_nil⟩⟩⟩⟩⟩⟩⟩⟩⟩⟩⟩⟩⟩⟩⟩⟩
theorem lw_p48 : lw_okq (⟨"PledgeHouseModel", "rank", "(I)I"⟩, 12) := ⟨⟨by decide +kernel, by decide +kernel⟩, List.mem_of_getElem? (i := 1053) (by decide +kernel), List.mem_of_getElem? (i := 1413) (by decide +kernel), List.mem_of_getElem? (i := 1414) (by decide +kernel)⟩
theorem lw_p49 : lw_okq (⟨"PledgeHouseModel", "isRiskier", "(II)Z"⟩, 12) := ⟨⟨by decide +kernel, by decide +kernel⟩, List.mem_of_getElem? (i := 1053) (by decide +kernel), List.mem_of_getElem? (i := 1417) (by decide +kernel), List.mem_of_getElem? (i := 1418) (by decide +kernel)⟩
theorem lw_p50 : lw_okq (⟨"PledgeHouseModel", "risky", "(I)I"⟩, 12) := ⟨⟨by decide +kernel, by decide +kernel⟩, List.mem_of_getElem? (i := 1053) (by decide +kernel), List.mem_of_getElem? (i := 1425) (by decide +kernel), List.mem_of_getElem? (i := 1426) (by decide +kernel)⟩
theorem lw_p51 : lw_okq (⟨"PledgeHouseModel", "rule", "(I)I"⟩, 12) := ⟨⟨by decide +kernel, by decide +kernel⟩, List.mem_of_getElem? (i := 1053) (by decide +kernel), List.mem_of_getElem? (i := 1441) (by decide +kernel), List.mem_of_getElem? (i := 1442) (by decide +kernel)⟩
theorem lw_p52 : lw_okq (⟨"PledgeHouseModel", "toldFall", "(I)I"⟩, 12) := ⟨⟨by decide +kernel, by decide +kernel⟩, List.mem_of_getElem? (i := 1053) (by decide +kernel), List.mem_of_getElem? (i := 1461) (by decide +kernel), List.mem_of_getElem? (i := 1462) (by decide +kernel)⟩
theorem lw_p53 : lw_okq (⟨"PledgeHouseModel", "falling", "(I)I"⟩, 12) := ⟨⟨by decide +kernel, by decide +kernel⟩, List.mem_of_getElem? (i := 1053) (by decide +kernel), List.mem_of_getElem? (i := 1465) (by decide +kernel), List.mem_of_getElem? (i := 1466) (by decide +kernel)⟩
theorem lw_p54 : lw_okq (⟨"PledgeHouseModel", "would", "(IZ)I"⟩, 12) := ⟨⟨by decide +kernel, by decide +kernel⟩, List.mem_of_getElem? (i := 1053) (by decide +kernel), List.mem_of_getElem? (i := 1481) (by decide +kernel), List.mem_of_getElem? (i := 1482) (by decide +kernel)⟩
theorem lw_p55 : lw_okq (⟨"PledgeHouseModel", "ifFallen", "(I)I"⟩, 12) := ⟨⟨by decide +kernel, by decide +kernel⟩, List.mem_of_getElem? (i := 1053) (by decide +kernel), List.mem_of_getElem? (i := 1493) (by decide +kernel), List.mem_of_getElem? (i := 1494) (by decide +kernel)⟩
theorem lw_p56 : lw_okq (⟨"PledgeHouseModel", "debts", "()I"⟩, 12) := ⟨⟨by decide +kernel, by decide +kernel⟩, List.mem_of_getElem? (i := 1053) (by decide +kernel), List.mem_of_getElem? (i := 1505) (by decide +kernel), List.mem_of_getElem? (i := 1506) (by decide +kernel)⟩
theorem lw_p57 : lw_okq (⟨"PledgeHouseModel", "used", "()D"⟩, 12) := ⟨⟨by decide +kernel, by decide +kernel⟩, List.mem_of_getElem? (i := 1053) (by decide +kernel), List.mem_of_getElem? (i := 1541) (by decide +kernel), List.mem_of_getElem? (i := 1542) (by decide +kernel)⟩
theorem lw_p58 : lw_okq (⟨"PledgeHouseModel", "mix", "(J)V"⟩, 12) := ⟨⟨by decide +kernel, by decide +kernel⟩, List.mem_of_getElem? (i := 1053) (by decide +kernel), List.mem_of_getElem? (i := 1550) (by decide +kernel), List.mem_of_getElem? (i := 1551) (by decide +kernel)⟩
def lw_privs_4 : List (MethodName × Nat) := [(⟨"PledgeHouseModel", "rank", "(I)I"⟩, 12), (⟨"PledgeHouseModel", "isRiskier", "(II)Z"⟩, 12), (⟨"PledgeHouseModel", "risky", "(I)I"⟩, 12), (⟨"PledgeHouseModel", "rule", "(I)I"⟩, 12), (⟨"PledgeHouseModel", "toldFall", "(I)I"⟩, 12), (⟨"PledgeHouseModel", "falling", "(I)I"⟩, 12), (⟨"PledgeHouseModel", "would", "(IZ)I"⟩, 12), (⟨"PledgeHouseModel", "ifFallen", "(I)I"⟩, 12), (⟨"PledgeHouseModel", "debts", "()I"⟩, 12), (⟨"PledgeHouseModel", "used", "()D"⟩, 12), (⟨"PledgeHouseModel", "mix", "(J)V"⟩, 12)]
theorem lw_r4 : ∀ q ∈ lw_privs_4, lw_okq q := List.forall_mem_cons.mpr ⟨lw_p48, List.forall_mem_cons.mpr ⟨lw_p49, List.forall_mem_cons.mpr ⟨lw_p50, List.forall_mem_cons.mpr ⟨lw_p51, List.forall_mem_cons.mpr ⟨lw_p52, List.forall_mem_cons.mpr ⟨lw_p53, List.forall_mem_cons.mpr ⟨lw_p54, List.forall_mem_cons.mpr ⟨lw_p55, List.forall_mem_cons.mpr ⟨lw_p56, List.forall_mem_cons.mpr ⟨lw_p57, List.forall_mem_cons.mpr ⟨lw_p58, fun _ h => absurd h List.not_mem_nil⟩⟩⟩⟩⟩⟩⟩⟩⟩⟩⟩
def lw_privs : List (MethodName × Nat) := lw_privs_1 ++ (lw_privs_2 ++ (lw_privs_3 ++ (lw_privs_4)))
def lw_tbl : List Cond := k2_sels lw_privs ++ tables_1
theorem lw_privs_ok : ∀ q ∈ lw_privs, lw_okq q := by
  show ∀ q ∈ lw_privs_1 ++ (lw_privs_2 ++ (lw_privs_3 ++ (lw_privs_4))), lw_okq q
  exact List.forall_mem_append.mpr ⟨lw_r1, List.forall_mem_append.mpr ⟨lw_r2, List.forall_mem_append.mpr ⟨lw_r3, lw_r4⟩⟩⟩
/-- the streams that the claim lets the run draw from -/
abbrev lw_cs : List Choice := [Jvm.Choice.named "NaN.bits"]
theorem lw_bits : nanBits ∈ lw_cs := by first | decide | exact List.mem_cons_self | simp [lw_cs, nanBits]
/-! ===== BEGIN words of one list among another's, by their places ===== -/
theorem goodIn_r {big : List Cond} (ws : List Cond) (ps : List Nat) (hp : ws = ps.filterMap (fun i => big[i]?)) (h : ws.all goodWord = true) : GoodIn big ws := by
  intro w hw
  have h1 := List.all_eq_true.mp h w hw
  rw [hp] at hw
  obtain ⟨i, -, hi⟩ := List.mem_filterMap.mp hw
  have hm : w ∈ big := by first | exact List.mem_of_getElem? hi | exact List.getElem?_mem hi
  exact ⟨hm, good_of_word h1⟩
theorem goodIn_app {big a b : List Cond} (ha : GoodIn big a) (hb : GoodIn big b) : GoodIn big (a ++ b) := fun w h => (List.mem_append.mp h).elim (ha w) (hb w)
theorem goodIn_ca {big a b : List Cond} {c : Cond} (ha : GoodIn big (c :: a)) (hb : GoodIn big b) : GoodIn big (c :: (a ++ b)) := fun w h => (List.mem_cons.mp h).elim (fun e => ha w (List.mem_cons.mpr (Or.inl e))) (fun h => (List.mem_append.mp h).elim (fun h => ha w (List.mem_cons.mpr (Or.inr h))) (hb w))
theorem goodIn_sub {big ws : List Cond} (hm : ∀ w ∈ ws, w ∈ big) (h : ws.all goodWord = true) : GoodIn big ws := fun w hw => ⟨hm w hw, good_of_word (List.all_eq_true.mp h w hw)⟩
/-! ===== END ===== -/

/-! ===== BEGIN exceptions that leave a method, and their catching by the caller (launches without stack traces) ===== -/
section VXA
/-! The laws vx_back, vx_callV, vx_callS, vx_callSW, vx_throw0, vx_throwS follow proofs of the library, with one case more: JvmDerived/Free/Laws.lean (Back.of_free), Shelf42/LK1.lean (callV, callS), Shelf/KitTraced.lean (throwNew0V, throwNewS). -/
/-- where a method has thrown q: the class by its name, the cell, what was written, the world -/
def vx_T (XC : String → State → State → Prop) (st : State) (q : Addr) (t : State) (mc ms : Nat) (free : Addr → Prop) : Prop :=
  ∃ (E : String) (ce : Cell) (L : List Loc), XC E st t ∧ t.heap[q]? = some ce ∧ ce.vm = .none ∧ st.vm.findClass E = some ce.cls ∧ st.WarmedH t.vm ∧ st.sameButNew ({ t with vm := st.vm } : State) L mc ms ∧ ∀ z ∈ L, free z.base
def vx_Q (Qc : Array Value → State → Outcome → State → Prop) (XC : String → State → State → Prop) (mc ms : Nat) (free : Addr → Prop) : Array Value → State → Outcome → State → Prop := fun a st o t =>
  (Qc a st o t ∧ ∃ L, FrameEnd st o t L mc ms ∧ ∀ q ∈ L, free q.base) ∨ ∃ q, o = .threw q ∧ vx_T XC st q t mc ms free
/-- a callee that returns or throws -/
def vx_Met (l : Launch) (y : MethodName) (ws : List Cond) (rm : Room) (Pc : Array Value → State → Prop) (Qc : Array Value → State → Outcome → State → Prop) (XC : String → State → State → Prop) (mc ms : Nat) (free : Addr → Prop) : Prop :=
  MetFree l y (headSpec ws rm) Pc (fun _ _ _ _ _ => True) (vx_Q Qc XC mc ms free)
def vx_Post (XC : String → State → State → Prop) (mc ms : Nat) (free : Addr → Prop) : Pt → Array Value → Addr → Pt → Prop := fun A a q B =>
  ∃ (g : JFrame) (mk : MethodId) (t : State) (L : List Loc) (E : String) (ce : Cell), B.U.heap = t.heap ∧ B.U.vm = t.vm ∧ XC E (A.U.calling g mk a) t ∧ t.heap[q]? = some ce ∧ ce.vm = .none ∧ A.U.vm.findClass E = some ce.cls ∧ B.locs = A.locs ++ L ∧ (∀ z ∈ L, free z.base) ∧ B.cells = A.cells + mc ∧ B.slots = A.slots + ms
def vx_Back (l : Launch) (R : Room) (p : Program) (e : Env) (below : List Frame) (s : State) (sargs : Array Value) (y : MethodName) (len W9 : Nat)
    (Pre : Pt → Array Value → Prop) (Post : Pt → Array Value → Option Value → Pt → Prop) (PostX : Pt → Array Value → Addr → Pt → Prop) : Prop :=
  ∀ (m : MethodId) (meth : Method) (c : Code) (A : Pt) (g : JFrame) (ig : Instr) (mk : MethodId) (a : Array Value),
    Stand p l e R s m sargs below meth c A.U A.locs A.cells A.slots → g.method = m → g.locals.size = c.maxLocals → decode c.code g.pc = .ok (ig, len) →
    2 * g.monitorRoom + (g.stack.map fun v => v.category).sum ≤ W9 → A.U.methodNamed? y = some mk → Pre A a →
    (∃ (v : Option Value) (B : Pt), Stand p l e R s m sargs below meth c B.U B.locs B.cells B.slots ∧ Post A a v B ∧
      Steps p.tables e below (doInvoke e (A.U.setTop g) [] mk a).1 (B.U.setTop { g with pc := g.pc + len, stack := v.toList ++ g.stack })) ∨
    (∃ (q : Addr) (B : Pt), Stand p l e R s m sargs below meth c B.U B.locs B.cells B.slots ∧ PostX A a q B ∧
      Steps p.tables e below (doInvoke e (A.U.setTop g) [] mk a).1 ((B.U.setTop g).pushFrame (.throwing q)))
section Payer
variable {l : Launch} {R : Room} {p : Program} {e : Env} {below : List Frame} {s : State} {sargs : Array Value} {y : MethodName} {len W9 : Nat}
theorem vx_back {ws : List Cond} {rm : Room} {Pc : Array Value → State → Prop} {Qc : Array Value → State → Outcome → State → Prop} {XC : String → State → State → Prop} {mc ms : Nat} {free : Addr → Prop} {bytes : ByteArray} {maxL : Nat} {ret : Option FieldType}
    (hM : vx_Met l y ws rm Pc Qc XC mc ms free) (hblind : FrameBlind Pc) (hrc : rm.cells = mc) (hrs : rm.slots = ms)
    (hframes : rm.frames + 1 ≤ R.frames) (hlocals : W9 + (maxL + 11) + rm.locals ≤ R.locals)
    (hws : ∀ w ∈ ws, ∀ a' U, s.WarmedH U.vm → w.before a' U = true) (hcode : Cond.code y bytes maxL ret ∈ ws) (hinit : ∀ a' U, s.WarmedH U.vm → (Cond.initialized y.cls).before a' U = true) :
    vx_Back l R p e below s sargs y len W9 (PreOf R mc ms Pc) (PostOf Qc mc ms free) (vx_Post XC mc ms free) := by
  intro m meth c A g ig mk a X hg hsize hdg hW hn hp
  have h1 : (headSpec ws rm).pre.before a A.U = true := atoms_intro fun w hw => hws w hw _ _ X.warmed
  have h2 : (Cond.code y bytes maxL ret).before a A.U = true := hws _ hcode _ _ X.warmed
  have h3 : (Cond.initialized y.cls).before a A.U = true := hinit _ _ X.warmed
  have h4 : A.cells + (headSpec ws rm).room.cells ≤ R.cells := by rw [show (headSpec ws rm).room.cells = mc from hrc]; exact hp.1
  have h5 : A.slots + (headSpec ws rm).room.slots ≤ R.slots := by rw [show (headSpec ws rm).room.slots = ms from hrs]; exact hp.2.1
  have hPc : Pc a (A.U.calling g mk a) := hblind _ _ _ _ hp.2.2
  obtain ⟨U, Ls, c0, s0⟩ := A
  dsimp only [Pt.U, Pt.locs, Pt.cells, Pt.slots] at h1 h2 h3 h4 h5 X hn hPc ⊢
  obtain ⟨methY, cY, hmY, hcY, -, hlY, -, -, -, -⟩ := Cond.code_spec hn h2
  obtain ⟨kY, hkY, -⟩ := className_of_methodNamed hn
  have hinitY : kY.init = .initialized := Cond.initialized_spec (findClass_of_methodNamed hn) hkY h3
  have h : At U g.method c below := by rw [hg]; exact X.here
  have hlocals9 : W9 + (maxL + 11) + (headSpec ws rm).room.locals ≤ R.locals := hlocals
  have happ : (headSpec ws rm).appliesLoose y e.platform (U.calling g mk a) = true :=
    Spec.appliesLoose_calling (g := g) h hdg hn hkY hinitY
      (X.room_calling (g := g) (R' := (headSpec ws rm).room) hsize hmY hcY hframes (by rw [hlY]; omega) h4 h5) h1
  obtain ⟨mid, hmid⟩ := h.above
  have hfr : (U.setTop g).frames = (.java g :: mid) ++ below := by rw [State.frames_setTop' g h.top, hmid]; rfl
  obtain ⟨o, s₂, hsteps, -, hend, hq⟩ := Steps.callFree hM p X.admits X.cas X.clock (acts := []) hfr happ hPc trivial
  have hq' : vx_Q Qc XC mc ms free a (U.calling g mk a) o s₂ := hq
  rw [State.frames_setTop' g h.top] at hend
  obtain ⟨g₀, hg0⟩ := Option.isSome_iff_exists.mp h.top
  obtain ⟨r, hr⟩ := State.topJava?_eq_some.mp hg0
  have hr' : (({ U with heap := s₂.heap, slotsUsed := s₂.slotsUsed } : State).setVm s₂.vm).frames = .java g₀ :: r := hr
  rcases hq' with ⟨hqc, L, hfe, hL⟩ | ⟨q, rfl, E, ce, L, hx, hce, hcv, hcl, hW₂, hsm, hL⟩
  · obtain ⟨⟨v, rfl⟩, hW₂, e2, q2, q3, q4, q5, q6⟩ := id hfe
    have e3 : s₂ = ({ (U.calling g mk a).setFrames s₂.frames with heap := s₂.heap, slotsUsed := s₂.slotsUsed } : State).setVm s₂.vm := by
      have : s₂ = ({ s₂ with vm := (U.calling g mk a).vm } : State).setVm s₂.vm := rfl
      rw [e2] at this
      exact this
    obtain ⟨c₂, i₂, len₂, hc₂, hd₂, hf₂⟩ := hend
    have hW' : U.WarmedH s₂.vm := hW₂
    have hcc : c₂ = c := by
      have h1 : s₂.code? g.method = U.code? g.method := by
        rw [State.code?_eq, State.code?_eq, hW'.alike.method?]
      exact Option.some.inj (hc₂.symm.trans (h1.trans h.code))
    subst hcc
    have hlen : len₂ = len := by rw [hdg] at hd₂; cases hd₂; rfl
    subst hlen
    have hs₂ : s₂ = (({ U with heap := s₂.heap, slotsUsed := s₂.slotsUsed } : State).setVm s₂.vm).setTop { g with pc := g.pc + len₂, stack := v.toList ++ g.stack } := by
      refine e3.trans ?_
      rw [hf₂, State.calling_eq h.top, State.setFrames_setFrames, State.setTop_of_frames _ hr', hr]
      rfl
    have hsame : U.sameButNew ({ U with heap := s₂.heap, slotsUsed := s₂.slotsUsed } : State) L mc ms := by
      refine ⟨?_, q2, q3, q4, q5, q6⟩
      obtain ⟨t, ht, -⟩ := State.frames_cons hr
      show ({ U with heap := s₂.heap, slotsUsed := s₂.slotsUsed } : State) = { U.setFrames U.frames with heap := s₂.heap, slotsUsed := s₂.slotsUsed }
      rw [State.setFrames_self ht]
    subst hg
    refine Or.inl ⟨v, ⟨(({ U with heap := s₂.heap, slotsUsed := s₂.slotsUsed } : State).setVm s₂.vm), Ls ++ L, c0 + mc, s0 + ms⟩,
      ⟨X.admits, X.cas, X.clock, X.frames, X.room, X.hears, X.method, X.code, (X.here.setHeapUsed s₂.heap s₂.slotsUsed).setVm hW'.alike, X.tail, State.WarmedH.trans X.warmed hW', X.limits, X.bytes, X.same.trans (hsame.setVm s.vm)⟩,
      ⟨g, mk, s₂, L, rfl, rfl, hqc, rfl, hL, rfl, rfl⟩, ?_⟩
    show Steps p.tables e below _ ((({ U with heap := s₂.heap, slotsUsed := s₂.slotsUsed } : State).setVm s₂.vm).setTop { g with pc := g.pc + len₂, stack := v.toList ++ g.stack })
    rw [← hs₂]
    exact hsteps
  · obtain ⟨e2, q2, q3, q4, q5, q6⟩ := id hsm
    have e3 : s₂ = ({ (U.calling g mk a).setFrames s₂.frames with heap := s₂.heap, slotsUsed := s₂.slotsUsed } : State).setVm s₂.vm := by
      have : s₂ = ({ s₂ with vm := (U.calling g mk a).vm } : State).setVm s₂.vm := rfl
      rw [e2] at this
      exact this
    have hf₂ : s₂.frames = .throwing q :: .java g :: U.frames.tail := hend
    have hW' : U.WarmedH s₂.vm := hW₂
    have hs₂ : s₂ = ((({ U with heap := s₂.heap, slotsUsed := s₂.slotsUsed } : State).setVm s₂.vm).setTop g).pushFrame (.throwing q) := by
      refine e3.trans ?_
      rw [hf₂, State.calling_eq h.top, State.setFrames_setFrames, State.pushFrame, State.frames_setTop _ hr', State.setTop_of_frames _ hr', State.setFrames_setFrames, hr]
      rfl
    have hsame : U.sameButNew ({ U with heap := s₂.heap, slotsUsed := s₂.slotsUsed } : State) L mc ms := by
      refine ⟨?_, q2, q3, q4, q5, q6⟩
      obtain ⟨t, ht, -⟩ := State.frames_cons hr
      show ({ U with heap := s₂.heap, slotsUsed := s₂.slotsUsed } : State) = { U.setFrames U.frames with heap := s₂.heap, slotsUsed := s₂.slotsUsed }
      rw [State.setFrames_self ht]
    subst hg
    refine Or.inr ⟨q, ⟨(({ U with heap := s₂.heap, slotsUsed := s₂.slotsUsed } : State).setVm s₂.vm), Ls ++ L, c0 + mc, s0 + ms⟩,
      ⟨X.admits, X.cas, X.clock, X.frames, X.room, X.hears, X.method, X.code, (X.here.setHeapUsed s₂.heap s₂.slotsUsed).setVm hW'.alike, X.tail, State.WarmedH.trans X.warmed hW', X.limits, X.bytes, X.same.trans (hsame.setVm s.vm)⟩,
      ⟨g, mk, s₂, L, E, ce, rfl, rfl, hx, hce, hcv, hcl, rfl, hL, rfl, rfl⟩, ?_⟩
    show Steps p.tables e below _ (((({ U with heap := s₂.heap, slotsUsed := s₂.slotsUsed } : State).setVm s₂.vm).setTop g).pushFrame (.throwing q))
    rw [← hs₂]
    exact hsteps
end Payer
section Calls
variable {p : Program} {l : Launch} {e : Env} {R : Room} {s : State} {m : MethodId} {args : Array Value} {below : List Frame} {meth : Method} {c : Code} {T : State} {locs : List Loc} {cells slots : Nat}
theorem vx_callV (X : Stand p l e R s m args below meth c T locs cells slots) (hexec : p.tables.exec = Jvm.exec) {own C : String} {index : Nat} {y : MethodName} {bytes : ByteArray} {maxL : Nat} {ret : Option FieldType}
    (hown : s.vm.findClass own = some m.cls) (hlink : (Cond.methodLink own index y).before args s = true) (hinst : (Cond.instanceMethod y).before args s = true) (hsel : (Cond.selects C y y).before args s = true)
    (hcode : (Cond.code y bytes maxL ret).before args s = true) (hy : y.cls ≠ "java/lang/invoke/MethodHandle" ∧ y.cls ≠ "java/lang/invoke/VarHandle")
    {W9 : Nat} {Pre : Pt → Array Value → Prop} {Post : Pt → Array Value → Option Value → Pt → Prop} {PostX : Pt → Array Value → Addr → Pt → Prop} (hK : vx_Back l R p e below s args y 3 W9 Pre Post PostX)
    {b : Addr} {cellB : Cell} (hcell : T.heap[b]? = some cellB) (hobj : cellB.vm.isStatics = false) (hcls : s.vm.findClass C = some cellB.cls)
    {g : JFrame} (hg : g.method = m) (hsize : g.locals.size = c.maxLocals) {argsL rest : List Value} (hlen : ∀ sig, parseMethodDescriptor y.desc = some sig → argsL.length = sig.parameters.length)
    (hstack : g.stack = argsL.reverse ++ .ref b :: rest) (hW : 2 * g.monitorRoom + (rest.map fun v => v.category).sum ≤ W9) (hdg : decode c.code g.pc = .ok (.invokevirtual index, 3))
    (hpre : ∀ vm₁, s.WarmedH vm₁ → Pre ⟨T.setVm vm₁, locs, cells, slots⟩ (Value.ref b :: argsL).toArray) :
    (∃ (v : Option Value) (vm₁ : Vm) (B : Pt), s.WarmedH vm₁ ∧ Stand p l e R s m args below meth c B.U B.locs B.cells B.slots ∧ Post ⟨T.setVm vm₁, locs, cells, slots⟩ (Value.ref b :: argsL).toArray v B ∧
      ∀ target, Steps p.tables e below (B.U.setTop { g with pc := g.pc + 3, stack := v.toList ++ rest }) target → Steps p.tables e below (T.setTop g) target) ∨
    (∃ (q : Addr) (vm₁ : Vm) (B : Pt), s.WarmedH vm₁ ∧ Stand p l e R s m args below meth c B.U B.locs B.cells B.slots ∧ PostX ⟨T.setVm vm₁, locs, cells, slots⟩ (Value.ref b :: argsL).toArray q B ∧
      Steps p.tables e below (T.setTop g) ((B.U.setTop { g with stack := rest }).pushFrame (.throwing q))) := by
  obtain ⟨mk, methM, hnamed, hmethM, hstM, habM⟩ := Cond.instanceMethod_spec hinst
  obtain ⟨methM', cM, hmethM', -, -, -, -, -, -, hsigM⟩ := Cond.code_spec hnamed hcode
  cases hmethM.symm.trans hmethM'
  obtain ⟨c2, r2, m2, q1, q2, q3, q4, kP, hkP, hkPi⟩ := Cond.selects_spec hsel
  cases hcls.symm.trans q1
  cases (State.methodFound?_of_named hnamed hy).symm.trans q2
  cases hnamed.symm.trans q3
  have hselP : selectMethod e.platform s.vm cellB.cls mk = .method mk := by rw [Launch.admits_selectMethod X.admits]; exact q4
  obtain ⟨vm₁, X₁, hstep₁⟩ := X.invokevirtual hexec hown hlink hnamed hmethM hstM hkP hkPi hy (a := b) (cell := cellB) hcell
    (fun z h => by rw [h] at hobj; cases hobj) hselP hmethM habM hkP hkPi (g := g) hg (argsL := argsL) (rest := rest) (hlen _ hsigM) hstack hdg
  rcases hK m meth c ⟨T.setVm vm₁, locs, cells, slots⟩ { g with stack := rest } (.invokevirtual index) mk (Value.ref b :: argsL).toArray X₁ hg hsize hdg hW (X₁.named hnamed) (hpre vm₁ X₁.warmed) with ⟨v, B, X', hpost, hsteps⟩ | ⟨q, B, X', hpost, hsteps⟩
  · exact Or.inl ⟨v, vm₁, B, X₁.warmed, X', hpost, fun target h => hstep₁ _ fun acts => by rw [doInvoke_state]; exact hsteps.trans h⟩
  · exact Or.inr ⟨q, vm₁, B, X₁.warmed, X', hpost, hstep₁ _ fun acts => by rw [doInvoke_state]; exact hsteps⟩
theorem vx_callS (X : Stand p l e R s m args below meth c T locs cells slots) (hexec : p.tables.exec = Jvm.exec) {own : String} {index : Nat} {y : MethodName} {bytes : ByteArray} {maxL : Nat} {ret : Option FieldType}
    (hown : s.vm.findClass own = some m.cls) (hlink : (Cond.methodLink own index y).before args s = true) (hstat : (Cond.static y).before args s = true) (hinit : (Cond.initialized y.cls).before args s = true)
    (hcode : (Cond.code y bytes maxL ret).before args s = true) (hy : y.cls ≠ "java/lang/invoke/MethodHandle" ∧ y.cls ≠ "java/lang/invoke/VarHandle")
    {W9 : Nat} {Pre : Pt → Array Value → Prop} {Post : Pt → Array Value → Option Value → Pt → Prop} {PostX : Pt → Array Value → Addr → Pt → Prop} (hK : vx_Back l R p e below s args y 3 W9 Pre Post PostX)
    {g : JFrame} (hg : g.method = m) (hsize : g.locals.size = c.maxLocals) {argsL rest : List Value} (hlen : ∀ sig, parseMethodDescriptor y.desc = some sig → argsL.length = sig.parameters.length)
    (hstack : g.stack = argsL.reverse ++ rest) (hW : 2 * g.monitorRoom + (rest.map fun v => v.category).sum ≤ W9) (hdg : decode c.code g.pc = .ok (.invokestatic index, 3))
    (hpre : ∀ vm₁, s.WarmedH vm₁ → Pre ⟨T.setVm vm₁, locs, cells, slots⟩ argsL.toArray) :
    (∃ (v : Option Value) (vm₁ : Vm) (B : Pt), s.WarmedH vm₁ ∧ Stand p l e R s m args below meth c B.U B.locs B.cells B.slots ∧ Post ⟨T.setVm vm₁, locs, cells, slots⟩ argsL.toArray v B ∧
      ∀ target, Steps p.tables e below (B.U.setTop { g with pc := g.pc + 3, stack := v.toList ++ rest }) target → Steps p.tables e below (T.setTop g) target) ∨
    (∃ (q : Addr) (vm₁ : Vm) (B : Pt), s.WarmedH vm₁ ∧ Stand p l e R s m args below meth c B.U B.locs B.cells B.slots ∧ PostX ⟨T.setVm vm₁, locs, cells, slots⟩ argsL.toArray q B ∧
      Steps p.tables e below (T.setTop g) ((B.U.setTop { g with stack := rest }).pushFrame (.throwing q))) := by
  obtain ⟨mk, hnamed⟩ := Cond.code_named hcode
  obtain ⟨methM, cM, hmethM, -, -, -, -, -, -, hsigM⟩ := Cond.code_spec hnamed hcode
  have hstatic : methM.isStatic = true := Cond.static_spec hnamed hmethM hstat
  obtain ⟨kP, hkP, -⟩ := className_of_methodNamed hnamed
  have hinitP : kP.init = .initialized := Cond.initialized_spec (findClass_of_methodNamed hnamed) hkP hinit
  obtain ⟨vm₁, X₁, hstep₁⟩ := X.invokestatic hexec hown hlink hnamed hmethM hstatic hkP hinitP hy (g := g) hg (argsL := argsL) (rest := rest) (hlen _ hsigM) hstack hdg
  rcases hK m meth c ⟨T.setVm vm₁, locs, cells, slots⟩ { g with stack := rest } (.invokestatic index) mk argsL.toArray X₁ hg hsize hdg hW (X₁.named hnamed) (hpre vm₁ X₁.warmed) with ⟨v, B, X', hpost, hsteps⟩ | ⟨q, B, X', hpost, hsteps⟩
  · exact Or.inl ⟨v, vm₁, B, X₁.warmed, X', hpost, fun target h => hstep₁ _ fun acts => by rw [doInvoke_state]; exact hsteps.trans h⟩
  · exact Or.inr ⟨q, vm₁, B, X₁.warmed, X', hpost, hstep₁ _ fun acts => by rw [doInvoke_state]; exact hsteps⟩
end Calls
theorem vx_cls {s : State} {T : State} {vm₁ : Vm} {E : String} {k : ClassId} (hW : s.WarmedH vm₁) (h : (T.setVm vm₁).vm.findClass E = some k) : s.vm.findClass E = some k := by
  have h1 : vm₁.findClass E = some k := h
  rw [hW.alike.findClass] at h1
  exact h1
/-- the method's frame g, with q thrown over it -/
def vx_W (p : Program) (l : Launch) (e : Env) (R : Room) (s : State) (m : MethodId) (args : Array Value) (below : List Frame) (meth : Method) (c : Code) (H : Heap) (locs : List Loc) (cells slots : Nat) (Q : State → Prop) (g : JFrame) (q : Addr) : Prop :=
  ∀ T : State, T.heap = H → Stand p l e R s m args below meth c T locs cells slots → ∃ t, Steps p.tables e below ((T.setTop g).pushFrame (.throwing q)) t ∧ Q t
def vx_Run (p : Program) (l : Launch) (e : Env) (R : Room) (s : State) (m : MethodId) (args : Array Value) (below : List Frame) (meth : Method) (c : Code) (H : Heap) (locs : List Loc) (cells slots mc ms : Nat) (g : JFrame) (rest : List Value) (Qa : State → Outcome → State → Prop) (XC : String → State → State → Prop) (free : Addr → Prop) : Prop :=
  ∀ T : State, T.heap = H → Stand p l e R s m args below meth c T locs cells slots →
    (∃ (v : Option Value) (st₀ t T' : State) (L : List Loc), st₀.heap = H ∧ Stand p l e R s m args below meth c T' (locs ++ L) (cells + mc) (slots + ms) ∧ (∀ q ∈ L, free q.base) ∧ T'.heap = t.heap ∧ T'.vm = t.vm ∧ Qa st₀ (.returned v) t ∧
      Goes p e below T g T' { g with pc := g.pc + 3, stack := v.toList ++ rest }) ∨
    (∃ (q : Addr) (st₀ t T' : State) (L : List Loc) (E : String) (ce : Cell), st₀.heap = H ∧ Stand p l e R s m args below meth c T' (locs ++ L) (cells + mc) (slots + ms) ∧ (∀ z ∈ L, free z.base) ∧ T'.heap = t.heap ∧ T'.vm = t.vm ∧ XC E st₀ t ∧ t.heap[q]? = some ce ∧ ce.vm = .none ∧ s.vm.findClass E = some ce.cls ∧
      Steps p.tables e below (T.setTop g) ((T'.setTop { g with stack := rest }).pushFrame (.throwing q)))
def vx_X {S : Type} (px : S → Prop) (B : String → S → State → Prop) (A : Nat → Prop) : String → State → State → Prop := fun E st t => ∃ u : S, px u ∧ B E u t ∧ va_F A st t
section Runs
variable {p : Program} {l : Launch} {e : Env} {R : Room} {s : State} {m : MethodId} {args : Array Value} {below : List Frame} {meth : Method} {c : Code} {H : Heap} {locs : List Loc} {cells slots : Nat}
variable {y : MethodName} {bytes cc : ByteArray} {maxL nL mc ms n index : Nat} {ret : Option FieldType} {ws : List Cond} {rm : Room} {Pc : Array Value → State → Prop} {Qc : Array Value → State → Outcome → State → Prop} {XC : String → State → State → Prop} {free : Addr → Prop} {Ts : List Cond} {own C : String} {b : Addr} {As rest : List Value} {g : JFrame}
theorem vx_callBack (cb : CallB R s args own index y bytes maxL ret ws rm mc ms n) (hM : vx_Met l y ws rm Pc Qc XC mc ms free) (hbl : FrameBlind Pc) : vx_Back l R p e below s args y 3 8 (PreOf R mc ms Pc) (PostOf Qc mc ms free) (vx_Post XC mc ms free) := by
  obtain ⟨hrc, hrs, hfr, hlo, hws, hcw, -, hini, -⟩ := cb
  exact vx_back (bytes := bytes) (maxL := maxL) (ret := ret) hM hbl hrc hrs hfr hlo hws hcw (fun a' U hW => word_at hW (Or.inl (by first | rfl | simp [Cond.onTables, Cond.keeps, Cond.steady])) hini)
theorem vx_runV (S : CallFix p m c cc nL s args Ts own) (hM : vx_Met l y ws rm Pc Qc XC mc ms free) (cw : CallW R s args own C index y bytes maxL ret ws rm mc ms n) (hp : PreV s H C b Pc As)
    (hg : g.method = m) (hn : As.length = n) (hsize : g.locals.size = nL) (hstack : g.stack = As.reverse ++ .ref b :: rest) (hW : 2 * g.monitorRoom + (rest.map fun v => v.category).sum ≤ 8) (hdg : decode cc g.pc = .ok (.invokevirtual index, 3)) (hf : cells + mc ≤ R.cells ∧ slots + ms ≤ R.slots) :
    vx_Run p l e R s m args below meth c H locs cells slots mc ms g rest (Qc (Value.ref b :: As).toArray) XC free := by
  have hK : vx_Back l R p e below s args y 3 8 (PreOf R mc ms Pc) (PostOf Qc mc ms free) (vx_Post XC mc ms free) := vx_callBack cw.1 hM hp.1
  obtain ⟨⟨-, -, -, -, -, -, hcode, -, hy, hlen, hl⟩, hin, hse⟩ := cw
  obtain ⟨hx, hb, hml, ho, -⟩ := S
  obtain ⟨-, ⟨cellB, hcB, hoB, hclB⟩, hPc⟩ := hp
  intro T hT X
  rcases vx_callV X hx (C := C) (bytes := bytes) (maxL := maxL) (ret := ret) ho hl hin hse hcode hy hK (by rw [hT]; exact hcB) hoB hclB hg (hsize.trans hml.symm) (argsL := As) (rest := rest) (fun sig h => hn.trans (hlen sig h)) hstack hW (by rw [hb]; exact hdg)
    (fun vm₁ hW₁ => ⟨hf.1, hf.2, hPc (T.setVm vm₁) hT hW₁⟩) with ⟨v, vm₁, ⟨U', l2, c2, s2⟩, hW₁, X', ⟨g', mk, t, L, e1, e2, hq, h1, hL, h2, h3⟩, st⟩ | ⟨q, vm₁, ⟨U', l2, c2, s2⟩, hW₁, X', ⟨g', mk, t, L, E, ce, e1, e2, hq, hce, hcv, hcl, h1, hL, h2, h3⟩, st⟩
  · dsimp only [Pt.U, Pt.locs, Pt.cells, Pt.slots] at X' e1 e2 h1 h2 h3 st
    subst h1; subst h2; subst h3
    exact Or.inl ⟨v, (T.setVm vm₁).calling g' mk (Value.ref b :: As).toArray, t, U', L, hT, X', hL, e1, e2, hq, st⟩
  · dsimp only [Pt.U, Pt.locs, Pt.cells, Pt.slots] at X' e1 e2 h1 h2 h3 st hcl
    subst h1; subst h2; subst h3
    exact Or.inr ⟨q, (T.setVm vm₁).calling g' mk (Value.ref b :: As).toArray, t, U', L, E, ce, hT, X', hL, e1, e2, hq, hce, hcv, vx_cls hW₁ hcl, st⟩
theorem vx_runS (S : CallFix p m c cc nL s args Ts own) (hM : vx_Met l y ws rm Pc Qc XC mc ms free) (cw : CallB R s args own index y bytes maxL ret ws rm mc ms n ∧ (Cond.static y).before args s = true) (hp : PreS s H Pc As)
    (hg : g.method = m) (hn : As.length = n) (hsize : g.locals.size = nL) (hstack : g.stack = As.reverse ++ rest) (hW : 2 * g.monitorRoom + (rest.map fun v => v.category).sum ≤ 8) (hdg : decode cc g.pc = .ok (.invokestatic index, 3)) (hf : cells + mc ≤ R.cells ∧ slots + ms ≤ R.slots) :
    vx_Run p l e R s m args below meth c H locs cells slots mc ms g rest (Qc As.toArray) XC free := by
  have hK : vx_Back l R p e below s args y 3 8 (PreOf R mc ms Pc) (PostOf Qc mc ms free) (vx_Post XC mc ms free) := vx_callBack cw.1 hM hp.1
  obtain ⟨⟨-, -, -, -, -, -, hcode, hini, hy, hlen, hl⟩, hstt⟩ := cw
  obtain ⟨hx, hb, hml, ho, -⟩ := S
  intro T hT X
  rcases vx_callS X hx (bytes := bytes) (maxL := maxL) (ret := ret) ho hl hstt hini hcode hy hK hg (hsize.trans hml.symm) (argsL := As) (rest := rest) (fun sig h => hn.trans (hlen sig h)) hstack hW (by rw [hb]; exact hdg)
    (fun vm₁ hW₁ => ⟨hf.1, hf.2, hp.2 (T.setVm vm₁) hT hW₁⟩) with ⟨v, vm₁, ⟨U', l2, c2, s2⟩, hW₁, X', ⟨g', mk, t, L, e1, e2, hq, h1, hL, h2, h3⟩, st⟩ | ⟨q, vm₁, ⟨U', l2, c2, s2⟩, hW₁, X', ⟨g', mk, t, L, E, ce, e1, e2, hq, hce, hcv, hcl, h1, hL, h2, h3⟩, st⟩
  · dsimp only [Pt.U, Pt.locs, Pt.cells, Pt.slots] at X' e1 e2 h1 h2 h3 st
    subst h1; subst h2; subst h3
    exact Or.inl ⟨v, (T.setVm vm₁).calling g' mk As.toArray, t, U', L, hT, X', hL, e1, e2, hq, st⟩
  · dsimp only [Pt.U, Pt.locs, Pt.cells, Pt.slots] at X' e1 e2 h1 h2 h3 st hcl
    subst h1; subst h2; subst h3
    exact Or.inr ⟨q, (T.setVm vm₁).calling g' mk As.toArray, t, U', L, E, ce, hT, X', hL, e1, e2, hq, hce, hcv, vx_cls hW₁ hcl, st⟩
end Runs
section Rows
variable {p : Program} {l : Launch} {e : Env} {R : Room} {s : State} {m : MethodId} {args : Array Value} {below : List Frame} {meth : Method} {c : Code} {H : Heap} {locs : List Loc} {cells slots : Nat} {Q : State → Prop}
variable {mc ms : Nat} {free : Addr → Prop} {A0 A1 : Nat → Prop} {H0 : Heap} {a : Array Value} {pc : Nat} {ls : Array Slot} {st0 rest : List Value}
theorem vx_keep {st₀ t T' : State} {L : List Loc} (h0 : st₀.heap = H) (e1 : T'.heap = t.heap) (hS : va_S A0 H0 H locs) (hA : ∀ q, q < H.size → A1 q → A0 q) (hf : ∀ q, free q → A0 q) (hL : ∀ q ∈ L, free q.base) (hF : va_F A1 st₀ t) :
    H.size ≤ T'.heap.size ∧ (∀ q : Nat, q < H.size → ¬ A1 q → T'.heap[q]? = H[q]?) ∧ va_S A0 H0 T'.heap (locs ++ L) := by
  obtain ⟨hz, hk⟩ := hF
  rw [h0] at hz hk
  exact ⟨by rw [e1]; exact hz, fun q h1 h2 => by rw [e1]; exact hk q h1 h2,
    ⟨Nat.le_trans hS.1 (by rw [e1]; exact hz), fun q h1 h2 => by rw [e1, hk q (Nat.lt_of_lt_of_le h1 hS.1) (fun z => h2 (hA q (Nat.lt_of_lt_of_le h1 hS.1) z))]; exact hS.2.1 q h1 h2, fun q hq => by
      rcases List.mem_append.mp hq with h | h
      · exact hS.2.2 q h
      · exact hf _ (hL q h)⟩⟩
theorem vx_calli {S SX : Type} {post : Int32 → S → Prop} {px : SX → Prop} {B : S → State → Prop} {BX : String → SX → State → Prop} {AX : Nat → Prop} (hr : vx_Run p l e R s m args below meth c H locs cells slots mc ms (F0 m pc ls st0) rest (va_Qi post B A1 a) (vx_X px BX AX) free) (hS : va_S A0 H0 H locs) (hA : ∀ q, q < H.size → A1 q → A0 q) (hf : ∀ q, free q → A0 q) (hAX : ∀ q, q < H.size → AX q → A0 q)
    (kx : ∀ (E : String) (ce : Cell) (q9 : Addr) (u : SX) (t : State) (H1 : Heap) (locs1 : List Loc), t.heap = H1 → s.vm.Alike t.vm → px u → BX E u t → H.size ≤ H1.size → (∀ q : Nat, q < H.size → ¬ AX q → H1[q]? = H[q]?) → va_S A0 H0 H1 locs1 → H1[q9]? = some ce → ce.vm = .none → s.vm.findClass E = some ce.cls → vx_W p l e R s m args below meth c H1 locs1 (cells + mc) (slots + ms) Q (F0 m pc ls rest) q9)
    (kk : ∀ (r : Int32) (u : S) (t : State) (H1 : Heap) (locs1 : List Loc), t.heap = H1 → s.vm.Alike t.vm → post r u → B u t → H.size ≤ H1.size → (∀ q : Nat, q < H.size → ¬ A1 q → H1[q]? = H[q]?) → va_S A0 H0 H1 locs1 → W p l e R s m args below meth c H1 locs1 (cells + mc) (slots + ms) Q (F0 m (pc + 3) ls (.int r :: rest))) : W p l e R s m args below meth c H locs cells slots Q (F0 m pc ls st0) := by
  intro T hT X
  rcases hr T hT X with ⟨v, st₀, t, T', L, h0, X', hL, e1, e2, ⟨⟨r, u, hv, hp, hb⟩, hF⟩, st⟩ | ⟨q, st₀, t, T', L, E, ce, h0, X', hL, e1, e2, ⟨u, hp, hb, hF⟩, hce, hcv, hcl, st⟩
  · cases hv
    obtain ⟨k1, k2, k3⟩ := vx_keep h0 e1 hS hA hf hL hF
    obtain ⟨t2, a1, b1⟩ := kk r u t T'.heap (locs ++ L) e1.symm (by rw [← e2]; exact X'.warmed.alike) hp hb k1 k2 k3 T' rfl X'
    exact ⟨t2, st t2 a1, b1⟩
  · obtain ⟨k1, k2, k3⟩ := vx_keep h0 e1 hS hAX hf hL hF
    obtain ⟨t2, a1, b1⟩ := kx E ce q u t T'.heap (locs ++ L) e1.symm (by rw [← e2]; exact X'.warmed.alike) hp hb k1 k2 k3 (by rw [e1]; exact hce) hcv hcl T' rfl X'
    exact ⟨t2, st.trans a1, b1⟩
theorem vx_calll {S SX : Type} {post : Int64 → S → Prop} {px : SX → Prop} {B : S → State → Prop} {BX : String → SX → State → Prop} {AX : Nat → Prop} (hr : vx_Run p l e R s m args below meth c H locs cells slots mc ms (F0 m pc ls st0) rest (va_Ql post B A1 a) (vx_X px BX AX) free) (hS : va_S A0 H0 H locs) (hA : ∀ q, q < H.size → A1 q → A0 q) (hf : ∀ q, free q → A0 q) (hAX : ∀ q, q < H.size → AX q → A0 q)
    (kx : ∀ (E : String) (ce : Cell) (q9 : Addr) (u : SX) (t : State) (H1 : Heap) (locs1 : List Loc), t.heap = H1 → s.vm.Alike t.vm → px u → BX E u t → H.size ≤ H1.size → (∀ q : Nat, q < H.size → ¬ AX q → H1[q]? = H[q]?) → va_S A0 H0 H1 locs1 → H1[q9]? = some ce → ce.vm = .none → s.vm.findClass E = some ce.cls → vx_W p l e R s m args below meth c H1 locs1 (cells + mc) (slots + ms) Q (F0 m pc ls rest) q9)
    (kk : ∀ (r : Int64) (u : S) (t : State) (H1 : Heap) (locs1 : List Loc), t.heap = H1 → s.vm.Alike t.vm → post r u → B u t → H.size ≤ H1.size → (∀ q : Nat, q < H.size → ¬ A1 q → H1[q]? = H[q]?) → va_S A0 H0 H1 locs1 → W p l e R s m args below meth c H1 locs1 (cells + mc) (slots + ms) Q (F0 m (pc + 3) ls (.long r :: rest))) : W p l e R s m args below meth c H locs cells slots Q (F0 m pc ls st0) := by
  intro T hT X
  rcases hr T hT X with ⟨v, st₀, t, T', L, h0, X', hL, e1, e2, ⟨⟨r, u, hv, hp, hb⟩, hF⟩, st⟩ | ⟨q, st₀, t, T', L, E, ce, h0, X', hL, e1, e2, ⟨u, hp, hb, hF⟩, hce, hcv, hcl, st⟩
  · cases hv
    obtain ⟨k1, k2, k3⟩ := vx_keep h0 e1 hS hA hf hL hF
    obtain ⟨t2, a1, b1⟩ := kk r u t T'.heap (locs ++ L) e1.symm (by rw [← e2]; exact X'.warmed.alike) hp hb k1 k2 k3 T' rfl X'
    exact ⟨t2, st t2 a1, b1⟩
  · obtain ⟨k1, k2, k3⟩ := vx_keep h0 e1 hS hAX hf hL hF
    obtain ⟨t2, a1, b1⟩ := kx E ce q u t T'.heap (locs ++ L) e1.symm (by rw [← e2]; exact X'.warmed.alike) hp hb k1 k2 k3 (by rw [e1]; exact hce) hcv hcl T' rfl X'
    exact ⟨t2, st.trans a1, b1⟩
theorem vx_callf {S SX : Type} {post : UInt32 → S → Prop} {px : SX → Prop} {B : S → State → Prop} {BX : String → SX → State → Prop} {AX : Nat → Prop} (hr : vx_Run p l e R s m args below meth c H locs cells slots mc ms (F0 m pc ls st0) rest (va_Qf post B A1 a) (vx_X px BX AX) free) (hS : va_S A0 H0 H locs) (hA : ∀ q, q < H.size → A1 q → A0 q) (hf : ∀ q, free q → A0 q) (hAX : ∀ q, q < H.size → AX q → A0 q)
    (kx : ∀ (E : String) (ce : Cell) (q9 : Addr) (u : SX) (t : State) (H1 : Heap) (locs1 : List Loc), t.heap = H1 → s.vm.Alike t.vm → px u → BX E u t → H.size ≤ H1.size → (∀ q : Nat, q < H.size → ¬ AX q → H1[q]? = H[q]?) → va_S A0 H0 H1 locs1 → H1[q9]? = some ce → ce.vm = .none → s.vm.findClass E = some ce.cls → vx_W p l e R s m args below meth c H1 locs1 (cells + mc) (slots + ms) Q (F0 m pc ls rest) q9)
    (kk : ∀ (r : UInt32) (u : S) (t : State) (H1 : Heap) (locs1 : List Loc), t.heap = H1 → s.vm.Alike t.vm → post r u → B u t → H.size ≤ H1.size → (∀ q : Nat, q < H.size → ¬ A1 q → H1[q]? = H[q]?) → va_S A0 H0 H1 locs1 → W p l e R s m args below meth c H1 locs1 (cells + mc) (slots + ms) Q (F0 m (pc + 3) ls (.float r :: rest))) : W p l e R s m args below meth c H locs cells slots Q (F0 m pc ls st0) := by
  intro T hT X
  rcases hr T hT X with ⟨v, st₀, t, T', L, h0, X', hL, e1, e2, ⟨⟨r, u, hv, hp, hb⟩, hF⟩, st⟩ | ⟨q, st₀, t, T', L, E, ce, h0, X', hL, e1, e2, ⟨u, hp, hb, hF⟩, hce, hcv, hcl, st⟩
  · cases hv
    obtain ⟨k1, k2, k3⟩ := vx_keep h0 e1 hS hA hf hL hF
    obtain ⟨t2, a1, b1⟩ := kk r u t T'.heap (locs ++ L) e1.symm (by rw [← e2]; exact X'.warmed.alike) hp hb k1 k2 k3 T' rfl X'
    exact ⟨t2, st t2 a1, b1⟩
  · obtain ⟨k1, k2, k3⟩ := vx_keep h0 e1 hS hAX hf hL hF
    obtain ⟨t2, a1, b1⟩ := kx E ce q u t T'.heap (locs ++ L) e1.symm (by rw [← e2]; exact X'.warmed.alike) hp hb k1 k2 k3 (by rw [e1]; exact hce) hcv hcl T' rfl X'
    exact ⟨t2, st.trans a1, b1⟩
theorem vx_calld {S SX : Type} {post : UInt64 → S → Prop} {px : SX → Prop} {B : S → State → Prop} {BX : String → SX → State → Prop} {AX : Nat → Prop} (hr : vx_Run p l e R s m args below meth c H locs cells slots mc ms (F0 m pc ls st0) rest (va_Qd post B A1 a) (vx_X px BX AX) free) (hS : va_S A0 H0 H locs) (hA : ∀ q, q < H.size → A1 q → A0 q) (hf : ∀ q, free q → A0 q) (hAX : ∀ q, q < H.size → AX q → A0 q)
    (kx : ∀ (E : String) (ce : Cell) (q9 : Addr) (u : SX) (t : State) (H1 : Heap) (locs1 : List Loc), t.heap = H1 → s.vm.Alike t.vm → px u → BX E u t → H.size ≤ H1.size → (∀ q : Nat, q < H.size → ¬ AX q → H1[q]? = H[q]?) → va_S A0 H0 H1 locs1 → H1[q9]? = some ce → ce.vm = .none → s.vm.findClass E = some ce.cls → vx_W p l e R s m args below meth c H1 locs1 (cells + mc) (slots + ms) Q (F0 m pc ls rest) q9)
    (kk : ∀ (r : UInt64) (u : S) (t : State) (H1 : Heap) (locs1 : List Loc), t.heap = H1 → s.vm.Alike t.vm → post r u → B u t → H.size ≤ H1.size → (∀ q : Nat, q < H.size → ¬ A1 q → H1[q]? = H[q]?) → va_S A0 H0 H1 locs1 → W p l e R s m args below meth c H1 locs1 (cells + mc) (slots + ms) Q (F0 m (pc + 3) ls (.double r :: rest))) : W p l e R s m args below meth c H locs cells slots Q (F0 m pc ls st0) := by
  intro T hT X
  rcases hr T hT X with ⟨v, st₀, t, T', L, h0, X', hL, e1, e2, ⟨⟨r, u, hv, hp, hb⟩, hF⟩, st⟩ | ⟨q, st₀, t, T', L, E, ce, h0, X', hL, e1, e2, ⟨u, hp, hb, hF⟩, hce, hcv, hcl, st⟩
  · cases hv
    obtain ⟨k1, k2, k3⟩ := vx_keep h0 e1 hS hA hf hL hF
    obtain ⟨t2, a1, b1⟩ := kk r u t T'.heap (locs ++ L) e1.symm (by rw [← e2]; exact X'.warmed.alike) hp hb k1 k2 k3 T' rfl X'
    exact ⟨t2, st t2 a1, b1⟩
  · obtain ⟨k1, k2, k3⟩ := vx_keep h0 e1 hS hAX hf hL hF
    obtain ⟨t2, a1, b1⟩ := kx E ce q u t T'.heap (locs ++ L) e1.symm (by rw [← e2]; exact X'.warmed.alike) hp hb k1 k2 k3 (by rw [e1]; exact hce) hcv hcl T' rfl X'
    exact ⟨t2, st.trans a1, b1⟩
theorem vx_callv {S SX : Type} {post : S → Prop} {px : SX → Prop} {B : S → State → Prop} {BX : String → SX → State → Prop} {AX : Nat → Prop} (hr : vx_Run p l e R s m args below meth c H locs cells slots mc ms (F0 m pc ls st0) rest (va_Qv post B A1 a) (vx_X px BX AX) free) (hS : va_S A0 H0 H locs) (hA : ∀ q, q < H.size → A1 q → A0 q) (hf : ∀ q, free q → A0 q) (hAX : ∀ q, q < H.size → AX q → A0 q)
    (kx : ∀ (E : String) (ce : Cell) (q9 : Addr) (u : SX) (t : State) (H1 : Heap) (locs1 : List Loc), t.heap = H1 → s.vm.Alike t.vm → px u → BX E u t → H.size ≤ H1.size → (∀ q : Nat, q < H.size → ¬ AX q → H1[q]? = H[q]?) → va_S A0 H0 H1 locs1 → H1[q9]? = some ce → ce.vm = .none → s.vm.findClass E = some ce.cls → vx_W p l e R s m args below meth c H1 locs1 (cells + mc) (slots + ms) Q (F0 m pc ls rest) q9)
    (kk : ∀ (u : S) (t : State) (H1 : Heap) (locs1 : List Loc), t.heap = H1 → s.vm.Alike t.vm → post u → B u t → H.size ≤ H1.size → (∀ q : Nat, q < H.size → ¬ A1 q → H1[q]? = H[q]?) → va_S A0 H0 H1 locs1 → W p l e R s m args below meth c H1 locs1 (cells + mc) (slots + ms) Q (F0 m (pc + 3) ls (rest))) : W p l e R s m args below meth c H locs cells slots Q (F0 m pc ls st0) := by
  intro T hT X
  rcases hr T hT X with ⟨v, st₀, t, T', L, h0, X', hL, e1, e2, ⟨⟨u, hv, hp, hb⟩, hF⟩, st⟩ | ⟨q, st₀, t, T', L, E, ce, h0, X', hL, e1, e2, ⟨u, hp, hb, hF⟩, hce, hcv, hcl, st⟩
  · cases hv
    obtain ⟨k1, k2, k3⟩ := vx_keep h0 e1 hS hA hf hL hF
    obtain ⟨t2, a1, b1⟩ := kk u t T'.heap (locs ++ L) e1.symm (by rw [← e2]; exact X'.warmed.alike) hp hb k1 k2 k3 T' rfl X'
    exact ⟨t2, st t2 a1, b1⟩
  · obtain ⟨k1, k2, k3⟩ := vx_keep h0 e1 hS hAX hf hL hF
    obtain ⟨t2, a1, b1⟩ := kx E ce q u t T'.heap (locs ++ L) e1.symm (by rw [← e2]; exact X'.warmed.alike) hp hb k1 k2 k3 (by rw [e1]; exact hce) hcv hcl T' rfl X'
    exact ⟨t2, st.trans a1, b1⟩
/-- caught by the row x of this method's table; the rows ahead don't take it -/
theorem vx_catch {own name : String} {E : String} {ce : Cell} {q : Addr} (hown : s.vm.findClass own = some m.cls) (pre : List ExceptionTableEntry) (x : ExceptionTableEntry) (suf : List ExceptionTableEntry) (hsplit : c.exceptionTable.toList = pre ++ x :: suf)
    (hpass : ∀ z ∈ pre, covers z pc = false ∨ (z.catchType ≠ 0 ∧ ∃ nm : String, (Cond.classLink own z.catchType nm).before args s = true ∧ va_Nc E nm s)) (hx : covers x pc = true) (h0 : x.catchType ≠ 0)
    (hlink : (Cond.classLink own x.catchType name).before args s = true) (hcast : (Cond.castable E name).before args s = true) (hcell : H[q]? = some ce) (hv : ce.vm = .none) (hcl : s.vm.findClass E = some ce.cls)
    (kk : W p l e R s m args below meth c H locs cells slots Q (F0 m x.handlerPc ls [.ref q])) : vx_W p l e R s m args below meth c H locs cells slots Q (F0 m pc ls rest) q := by
  intro T hT X
  have hpl : e.platform.magicAccessors = ({} : Platform).magicAccessors := by rw [X.admits.platform]
  obtain ⟨c3, c4, hc3, hc4, hasg⟩ := Cond.castable_spec hcast
  cases Option.some.inj (hc3.symm.trans hcl)
  obtain ⟨c5, hc5, hcl5⟩ := Cond.classLink_spec hown hlink e.platform hpl
  cases Option.some.inj (hc4.symm.trans hc5)
  obtain ⟨vm', X', st⟩ := X.thenCaughtThrough q (g := F0 m pc ls rest) rfl (Steps.refl _) (by rw [hT]; exact hcell) (by rw [hv]; rfl) (by obtain ⟨k9, h9, -⟩ := Vm.findClass_spec hcl; exact ⟨k9, h9⟩) pre x suf hsplit
    (fun z hz => by
      rcases hpass z hz with h | ⟨hz0, nm, hl1, hn1⟩
      · exact Or.inl h
      · obtain ⟨c6, hc6, hcl6⟩ := Cond.classLink_spec hown hl1 e.platform hpl
        obtain ⟨a8, b8, h1, h2, h3⟩ := hn1
        cases Option.some.inj (h1.symm.trans hcl)
        cases Option.some.inj (h2.symm.trans hc6)
        exact Or.inr ⟨hz0, _, hcl6, h3⟩) hx (Or.inr ⟨h0, c4, hcl5, hasg⟩)
  obtain ⟨t, a1, b1⟩ := kk (T.setVm vm') hT X'
  exact ⟨t, st.trans a1, b1⟩
end Rows
section Ends
variable {p : Program} {l : Launch} {e : Env} {R : Room} {s : State} {m : MethodId} {args : Array Value} {below : List Frame} {meth : Method} {c : Code} {H : Heap} {locs : List Loc} {cells slots : Nat} {Q : State → Prop}
variable {mc ms : Nat} {free : Addr → Prop} {A0 A1 : Nat → Prop} {H0 : Heap} {a : Array Value} {ls : Array Slot} {st0 rest : List Value}
variable {Qc : Array Value → State → Outcome → State → Prop} {XC : String → State → State → Prop}
/-- what a body that may throw owes at its end -/
def vx_MQ (below : List Frame) (Qc : Array Value → State → Outcome → State → Prop) (XC : String → State → State → Prop) (a : Array Value) (s : State) (mc ms : Nat) (free : Addr → Prop) : State → Prop := fun t =>
  ∃ o, t.status = .running ∧ Ended t below o ∧ vx_Q Qc XC mc ms free a s o t
theorem vx_ret {g : JFrame} {mc ms : Nat} (k : W p l e R s m args below meth c H locs cells slots (MQ below Qc args s mc ms free) g) : W p l e R s m args below meth c H locs cells slots (vx_MQ below Qc XC args s mc ms free) g := by
  intro T hT X
  obtain ⟨t, a1, o, b1, b2, b3, b4⟩ := k T hT X
  exact ⟨t, a1, o, b1, b2, Or.inl ⟨b3, b4⟩⟩
/-- not caught here: it goes on to the caller -/
theorem vx_widen {g : JFrame} {q : Addr} {k n : Nat} (h1 : cells ≤ k) (h2 : slots ≤ n) (kk : vx_W p l e R s m args below meth c H locs k n Q g q) : vx_W p l e R s m args below meth c H locs cells slots Q g q := fun T hT X => kk T hT (stand_widen X h1 h2)
theorem vx_out {pc : Nat} {E : String} {ce : Cell} {q : Addr} {mc ms : Nat} (hout : ∀ x ∈ c.exceptionTable.toList, covers x pc = false) (hlocks : meth.locks = false) (hcell : H[q]? = some ce) (hv : ce.vm = .none) (hcl : s.vm.findClass E = some ce.cls)
    (hx : ∀ t : State, t.heap = H → s.vm.Alike t.vm → XC E s t) (hf : ∀ z ∈ locs, free z.base) (hc : cells ≤ mc) (hs : slots ≤ ms) :
    vx_W p l e R s m args below meth c H locs cells slots (vx_MQ below Qc XC args s mc ms free) (F0 m pc ls rest) q := by
  intro T hT X
  obtain ⟨st1, hrun, hend, hW, hsm⟩ := X.leaveThrown q (g := F0 m pc ls rest) rfl rfl rfl hout hlocks
  have hcell9 : (T.setFrames (.throwing q :: below)).heap[q]? = some ce := by
    show T.heap[q]? = some ce
    rw [hT]; exact hcell
  exact ⟨_, st1, .threw q, hrun, hend, Or.inr ⟨q, rfl, E, ce, locs, hx _ hT hW.alike, hcell9, hv, hcl, hW, hsm.mono hc hs, hf⟩⟩
theorem vx_frame {U : State} {k n : Nat} (h : s.sameButNew ({ U with vm := s.vm } : State) locs k n) : s.heap.size ≤ U.heap.size ∧ ∀ q : Nat, q < s.heap.size → (∀ z ∈ locs, z.base ≠ q) → U.heap[q]? = s.heap[q]? := by
  obtain ⟨-, h2, -, -, -, h6⟩ := h
  refine ⟨h2, fun q hq hz => ?_⟩
  obtain ⟨c9, e1, e2, e3, e4⟩ := h6 q _ (Array.getElem?_eq_getElem hq)
  have hs : c9.slots = (s.heap[q]).slots := Array.ext_getElem? fun i => e4 i fun hm => hz _ hm rfl
  have h9 : c9 = s.heap[q] := by
    rw [hs] at e2
    exact e2
  have e5 : U.heap[q]? = some c9 := e1
  rw [e5, h9, Array.getElem?_eq_getElem hq]
/-- the words of a throw but the four that speak of the heap -/
def vx_no (w : Cond) : Bool := decide (w ≠ .isRef (.static Bundle.tN "UNASSIGNED_STACK" Bundle.steD)) && decide (w ≠ .isRef (.static Bundle.tN "SUPPRESSED_SENTINEL" Bundle.listD)) && decide (w ≠ .laysStatic Bundle.tN "UNASSIGNED_STACK" Bundle.steD) && decide (w ≠ .laysStatic Bundle.tN "SUPPRESSED_SENTINEL" Bundle.listD)
def vx_at0 (own : String) (ic : Nat) (X : String) (names : List String) : List Cond := (Bundle.ownAtoms0 own ic X names).filter vx_no
def vx_atS (own : String) (ic : Nat) (X : String) (names : List String) : List Cond := (Bundle.ownAtoms own ic X names).filter vx_no
/-- a word that the tables alone decide, or a good one -/
def vx_ot (w : Cond) : Bool := w.onTables || goodWord w
theorem vx_ot_at {args a' : Array Value} {s U : State} {w : Cond} (hW : s.WarmedH U.vm) (hvm : s.vm = U.vm) (hg : vx_ot w = true) (h : w.before args s = true) : w.before a' U = true := by
  simp only [vx_ot, Bool.or_eq_true] at hg
  rcases hg with hg | hg
  · exact va_tabs hg hvm h
  · exact word_at hW (good_of_word hg) h
/-- a list's words: the good ones out of the method's own list, the others by premises of their own -/
theorem vx_hat {args : Array Value} {s : State} {L B : List Cond} (h1 : ∀ w ∈ L.filter goodWord, w.before args s = true) (h2 : ∀ w ∈ L.filter (fun w => !goodWord w), w ∈ B) (h3 : ∀ w ∈ B, w.before args s = true) : ∀ w ∈ L, w.before args s = true := by
  intro w hw
  by_cases g : goodWord w = true
  · exact h1 w (List.mem_filter.mpr ⟨hw, g⟩)
  · refine h3 w (h2 w (List.mem_filter.mpr ⟨hw, ?_⟩))
    show (!goodWord w) = true
    cases hgw : goodWord w
    · rfl
    · exact absurd hgw g
theorem vx_c {args : Array Value} {s : State} {w : Cond} {B : List Cond} (h : w.before args s = true) (t : ∀ w ∈ B, w.before args s = true) : ∀ w' ∈ w :: B, w'.before args s = true := fun w' h' => (List.mem_cons.mp h').elim (fun e => by rw [e]; exact h) (t w')
theorem vx_n {args : Array Value} {s : State} : ∀ w ∈ ([] : List Cond), w.before args s = true := fun _ h => nomatch h
theorem vx_own {args : Array Value} {s : State} {L : List Cond} (h1 : ∀ w ∈ L.filter vx_no, w.before args s = true)
    (hU : (Cond.isRef (.static Bundle.tN "UNASSIGNED_STACK" Bundle.steD)).before args s = true) (hN : (Cond.isRef (.static Bundle.tN "SUPPRESSED_SENTINEL" Bundle.listD)).before args s = true)
    (lU : (Cond.laysStatic Bundle.tN "UNASSIGNED_STACK" Bundle.steD).before args s = true) (lN : (Cond.laysStatic Bundle.tN "SUPPRESSED_SENTINEL" Bundle.listD).before args s = true) : ∀ w ∈ L, w.before args s = true := by
  intro w hw
  by_cases e1 : w = .isRef (.static Bundle.tN "UNASSIGNED_STACK" Bundle.steD)
  · rw [e1]; exact hU
  · by_cases e2 : w = .isRef (.static Bundle.tN "SUPPRESSED_SENTINEL" Bundle.listD)
    · rw [e2]; exact hN
    · by_cases e3 : w = .laysStatic Bundle.tN "UNASSIGNED_STACK" Bundle.steD
      · rw [e3]; exact lU
      · by_cases e4 : w = .laysStatic Bundle.tN "SUPPRESSED_SENTINEL" Bundle.listD
        · rw [e4]; exact lN
        · exact h1 w (List.mem_filter.mpr ⟨hw, by unfold vx_no; rw [decide_eq_true e1, decide_eq_true e2, decide_eq_true e3, decide_eq_true e4]; rfl⟩)
/-- where a static field lies, its class's statics cell in H -/
def vx_L (C n d : String) (A : Nat → Prop) (U : State) (H : Heap) : Prop := ∃ (c : ClassId) (k : Class) (i : Nat) (f : Field) (a : Nat) (cell : Cell), U.vm.findClass C = some c ∧ U.fieldFound? C n d = some (c, k, i, f) ∧ f.isStatic = true ∧ k.statics = some a ∧ H[a]? = some cell ∧ cell.vm.isStatics = true ∧ cell.cls = c ∧ f.slot < cell.slots.size ∧ k.staticTypes[f.slot]? = some f.type ∧ ¬ A a
theorem vx_L.moved {C n d : String} {A : Nat → Prop} {u U : State} {H : Heap} (hvm : u.vm.Alike U.vm) (h : vx_L C n d A u H) : vx_L C n d A U H := by
  obtain ⟨c, k, i, f, a, cell, h1, h2, h3, h4, h5, h6, h7, h8, h9, h10⟩ := h
  obtain ⟨k', hi', he⟩ := State.fieldFound?_setVm hvm h2
  exact ⟨c, k', i, f, a, cell, by rw [hvm.findClass]; exact h1, hi', h3, by rw [he]; exact h4, h5, h6, h7, h8, by rw [he]; exact h9, h10⟩
theorem vx_L.kept {C n d : String} {A : Nat → Prop} {U : State} {H H1 : Heap} (h : vx_L C n d A U H) (hq : ∀ a : Nat, a < H.size → ¬ A a → H1[a]? = H[a]?) : vx_L C n d A U H1 := by
  obtain ⟨c, k, i, f, a, cell, h1, h2, h3, h4, h5, h6, h7, h8, h9, h10⟩ := h
  exact ⟨c, k, i, f, a, cell, h1, h2, h3, h4, by rw [hq a (Array.getElem?_eq_some_iff.mp h5).1 h10]; exact h5, h6, h7, h8, h9, h10⟩
theorem vx_L.narrow {C n d : String} {A B : Nat → Prop} {U : State} {H : Heap} (h : vx_L C n d A U H) (hAB : ∀ q, B q → A q) : vx_L C n d B U H := by
  obtain ⟨c, k, i, f, a, cell, h1, h2, h3, h4, h5, h6, h7, h8, h9, h10⟩ := h
  exact ⟨c, k, i, f, a, cell, h1, h2, h3, h4, h5, h6, h7, h8, h9, fun z => h10 (hAB _ z)⟩
theorem vx_L.word {C n d : String} {A : Nat → Prop} {s : State} {args : Array Value} (h : vx_L C n d A s s.heap) : (Cond.laysStatic C n d).before args s = true := by
  obtain ⟨c, k, i, f, a, cell, h1, h2, h3, h4, h5, h6, h7, h8, h9, -⟩ := h
  show (Cond.laysStatic C n d).holds args s none s [] = true
  exact Cond.laysStatic_of h1 h2 h3 h4 h5 h6 h7 h8 h9
/-- .. and what it holds: null or some reference -/
def vx_Zq (C n d : String) (A : Nat → Prop) (U : State) (H : Heap) : Prop := va_Zq C n d A U H ∧ vx_L C n d A U H
theorem vx_Zq.moved {C n d : String} {A : Nat → Prop} {u U : State} {H : Heap} (hvm : u.vm.Alike U.vm) (h : vx_Zq C n d A u H) : vx_Zq C n d A U H := ⟨va_Zq.moved hvm h.1, vx_L.moved hvm h.2⟩
theorem vx_Zq.kept {C n d : String} {A : Nat → Prop} {U : State} {H H1 : Heap} (h : vx_Zq C n d A U H) (hq : ∀ a : Nat, a < H.size → ¬ A a → H1[a]? = H[a]?) : vx_Zq C n d A U H1 := ⟨va_Zq.kept h.1 hq, vx_L.kept h.2 hq⟩
theorem vx_Zq.narrow {C n d : String} {A B : Nat → Prop} {U : State} {H : Heap} (h : vx_Zq C n d A U H) (hAB : ∀ q, B q → A q) : vx_Zq C n d B U H := ⟨va_Zq.narrow h.1 hAB, vx_L.narrow h.2 hAB⟩
theorem vx_Zqof {args : Array Value} {s : State} {C n d : String} {A : Nat → Prop} (hl : (Cond.laysStatic C n d).before args s = true) (hini : (Cond.initialized C).before args s = true) (h : (Cond.isRef (.static C n d)).before args s = true) (hA : ∀ a : Nat, a < s.heap.size → ¬ A a) : vx_Zq C n d A s s.heap := by
  refine ⟨va_Zqof hl hini h hA, ?_⟩
  obtain ⟨c, k, i, f, a, cell, h1, h2, h3, h4, h5, h6, h7, h8, h9⟩ := Cond.laysStatic_spec hl
  exact ⟨c, k, i, f, a, cell, h1, h2, h3, h4, h5, h6, h7, h8, h9, hA a (Array.getElem?_eq_some_iff.mp h5).1⟩
theorem vx_isRef {C n d : String} {v : Value} {A : Nat → Prop} {s : State} {args : Array Value} (h : va_Z C n d v A s s.heap) (hv : v.isRef = true) : (Cond.isRef (.static C n d)).before args s = true := by
  obtain ⟨cf, kf, fi, f, a, cell, h1, h2, h3, h4, h5, h6, h7, -⟩ := h
  have he : (Term.static C n d).eval args s none [] s = some v := by
    simp [Term.eval, State.fieldNamed?, h1, h2, h4, h5, h6, h7]
  simp only [Cond.before, Cond.holds, Cond.value, he]
  cases v <;> simp_all [Value.isRef]
theorem vx_isRefq {C n d : String} {A : Nat → Prop} {s : State} {args : Array Value} (h : va_Zq C n d A s s.heap) : (Cond.isRef (.static C n d)).before args s = true := by
  rcases h with h | ⟨t, h⟩
  · exact vx_isRef h rfl
  · exact vx_isRef h rfl
/-- the same frame, seen from here: as if the method were called anew in this heap -/
theorem vx_rebase {T : State} (X : Stand p l e R s m args below meth c T locs cells slots) {R' : Room} (hf : R'.frames ≤ R.frames) (hl : R'.locals ≤ R.locals) (hc : cells + R'.cells ≤ R.cells) (hs : slots + R'.slots ≤ R.slots) :
    Stand p l e R' ((T.setVm s.vm).setFrames (.invoking m args :: below)) m args below meth c T [] 0 0 := by
  have htop : (T.setVm s.vm).topJava?.isSome := X.here.top
  have hF : ((T.setVm s.vm).setFrames (.invoking m args :: below)).frames = .invoking m args :: below := State.frames_setFrames _ (State.cur_lt_of_top htop)
  obtain ⟨g₀, hg0⟩ := Option.isSome_iff_exists.mp htop
  obtain ⟨r, hr⟩ := State.topJava?_eq_some.mp hg0
  have hl9 : e.platform.stackLimits (T.setVm s.vm).me = e.platform.stackLimits s.me := X.limits
  have hb9 : (T.setVm s.vm).me.stackBytes = s.me.stackBytes := X.bytes
  refine ⟨X.admits, X.cas, X.clock, hF, ?_, X.hears, X.method, X.code, X.here, X.tail, X.warmed, ?_, ?_, ?_⟩
  · have h := X.room
    have hU : ((T.setVm s.vm).setFrames (.invoking m args :: below)).localsInUse = s.localsInUse := by
      rw [State.localsInUse_invoking hF (meth := meth) (c := c) X.method X.code, State.localsInUse_invoking X.frames X.method X.code]
    simp only [State.hasRoom, Bool.and_eq_true, decide_eq_true_eq] at h ⊢
    obtain ⟨⟨⟨⟨h1, h2, h3, h4, h5, h6⟩, h7⟩, h8⟩, h9⟩ := h
    rw [X.frames, List.length_cons] at h2 h3
    have q1 := X.heapSize
    have q2 := X.used
    simp only [hF, hU, List.length_cons, State.stackLimits_setFrames, State.stackBytes_setFrames, hl9, hb9]
    refine ⟨⟨⟨⟨by omega, by omega, by omega, by omega, by omega, h6⟩, ?_⟩, ?_⟩, X.book⟩
    · show T.heap.size + R'.cells ≤ e.platform.maxCells
      omega
    · show T.slotsUsed + R'.slots ≤ e.platform.maxSlots
      omega
  · rw [State.stackLimits_setFrames]; rfl
  · rw [State.stackBytes_setFrames]; rfl
  · refine ⟨?_, Nat.le_refl _, Nat.le_refl _, ?_, ?_, fun a c9 h9 => ⟨c9, h9, rfl, rfl, fun _ _ => rfl⟩⟩
    · obtain ⟨t, ht, -⟩ := State.frames_cons hr
      show T.setVm s.vm = { ((T.setVm s.vm).setFrames (.invoking m args :: below)).setFrames (T.setVm s.vm).frames with heap := T.heap, slotsUsed := T.slotsUsed }
      rw [State.setFrames_setFrames, State.setFrames_self ht]
      rfl
    · show T.slotsUsed = T.slotsUsed + ((T.heap.toList.drop T.heap.size).map (·.slots.size)).sum
      rw [List.drop_eq_nil_of_le (Nat.le_of_eq Array.length_toList)]
      rfl
    · show ((T.heap.toList.drop T.heap.size).map (·.slots.size)).sum ≤ 0
      rw [List.drop_eq_nil_of_le (Nat.le_of_eq Array.length_toList)]
      exact Nat.le_refl _
/-- 'throw new E()': new; dup; invokespecial; athrow -/
theorem vx_throw0 {cc : ByteArray} {pc : Nat} (hexec : p.tables.exec = Jvm.exec) (hb : c.code = cc) (hl : l.stackTraces = false) {own cls : String} {names : List String} {ik ic mc ms : Nat} {A : Nat → Prop}
    (hown : s.vm.findClass own = some m.cls) (hcls : Bundle.fit cls = true) (hnames : ∀ n ∈ names, Bundle.fit n = true)
    (hk : (Cond.classLink own ik cls).before args s = true) (hini : (Cond.initialized cls).before args s = true) (hat : ∀ w ∈ vx_at0 own ic cls names, w.before args s = true)
    (hgood : ∀ w ∈ Cond.classLink own ik cls :: Cond.initialized cls :: vx_at0 own ic cls names, vx_ot w = true)
    (hU : vx_Zq Bundle.tN "UNASSIGNED_STACK" Bundle.steD A s s.heap) (hN : vx_Zq Bundle.tN "SUPPRESSED_SENTINEL" Bundle.listD A s s.heap) (hS : va_S A s.heap H locs) (hsize : ls.size = c.maxLocals)
    (d0 : decode cc pc = .ok (.new ik, 3)) (d3 : decode cc (pc + 3) = .ok (.dup, 1)) (d4 : decode cc (pc + 4) = .ok (.invokespecial ic, 3)) (d7 : decode cc (pc + 7) = .ok (.athrow, 1))
    (hout : ∀ x ∈ c.exceptionTable.toList, covers x (pc + 7) = false)
    (hRframes : names.length + 3 < R.frames) (hRlocals : (rest.map fun v => v.category).sum + (13 * (names.length + 1) + 42) ≤ R.locals) (hRcells : cells + 1 ≤ R.cells) (hRslots : slots + 6 ≤ R.slots) (hlocks : meth.locks = false)
    (hx : ∀ t : State, s.vm.Alike t.vm → H.size ≤ t.heap.size → (∀ q : Nat, q < H.size → t.heap[q]? = H[q]?) → XC cls s t)
    (hf : ∀ z ∈ locs, free z.base) (hc : cells + 1 ≤ mc) (hs : slots + 6 ≤ ms) :
    W p l e R s m args below meth c H locs cells slots (vx_MQ below Qc XC args s mc ms free) (F0 m pc ls rest) := by
  intro T hT X
  have htr : e.platform.stackTraces = false := (show e.platform.stackTraces = l.stackTraces by rw [X.admits.platform]).trans hl
  have Y := vx_rebase X (R' := { frames := R.frames, locals := R.locals, cells := 1, slots := 6 }) (Nat.le_refl _) (Nat.le_refl _) hRcells hRslots
  obtain ⟨s', hA⟩ : ∃ z, z = (T.setVm s.vm).setFrames (.invoking m args :: below) := ⟨_, rfl⟩
  rw [← hA] at Y
  have hvm : s'.vm = s.vm := by rw [hA]; rfl
  have hhp : s'.heap = H := by rw [hA]; exact hT
  have hW0 : s.WarmedH s'.vm := by rw [hvm]; exact State.WarmedH.refl s
  have hat' : ∀ w ∈ vx_at0 own ic cls names, w.before args s' = true := fun w hw => vx_ot_at hW0 hvm.symm (hgood w (List.mem_cons_of_mem _ (List.mem_cons_of_mem _ hw))) (hat w hw)
  have hk' : (Cond.classLink own ik cls).before args s' = true := vx_ot_at hW0 hvm.symm (hgood _ List.mem_cons_self) hk
  have hini' : (Cond.initialized cls).before args s' = true := vx_ot_at hW0 hvm.symm (hgood _ (List.mem_cons_of_mem _ List.mem_cons_self)) hini
  have hU' : vx_Zq Bundle.tN "UNASSIGNED_STACK" Bundle.steD A s' s'.heap := by rw [hhp]; exact vx_Zq.moved hW0.alike (hU.kept hS.2.1)
  have hN' : vx_Zq Bundle.tN "SUPPRESSED_SENTINEL" Bundle.listD A s' s'.heap := by rw [hhp]; exact vx_Zq.moved hW0.alike (hN.kept hS.2.1)
  have h : ∀ w ∈ Bundle.ownAtoms0 own ic cls names, w.before args s' = true := vx_own hat' (vx_isRefq hU'.1) (vx_isRefq hN'.1) hU'.2.word hN'.2.word
  have hown' : s'.vm.findClass own = some m.cls := by rw [hvm]; exact hown
  have hins : (Cond.instantiable cls 6).before args s' = true := h _ (by simp [Bundle.ownAtoms0])
  obtain ⟨vm₁, cX, kX, hfX, hkX, -, -, X₁, st1⟩ := Y.newCold hexec (own := own) (C := cls) (index := ik) (n := 6) hown' hk' hins hini'
    (g := F0 m pc ls rest) rfl (by rw [hb]; exact d0) (Nat.le_refl _) (Nat.le_refl _)
  generalize hT1 : (T.setVm vm₁).pushCell { cls := cX, slots := kX.instanceTypes.map defaultValue, vm := .none } = T1 at X₁ st1
  have hcat : (Value.ref T.heap.size).category = 1 := rfl
  have hcellA : T1.heap[T.heap.size]? = some (freshCell cX kX) := by rw [← hT1]; exact State.heap_pushCell_size _ _
  have d3' : decode c.code (pc + 3) = .ok (.dup, 1) := by rw [hb]; exact d3
  obtain ⟨U, hsteps, hrun, hend, hW, hsame, ce, hce, hO⟩ := X₁.ctorThrow0 hexec htr (own := own) (cls := cls) (names := names) (ic := ic) hown' hcls hnames h (fun x hx => nomatch hx) hfX hkX hcellA (by rw [hhp, hT]; exact Nat.le_refl _)
    (g := { method := m, pc := pc + 4, locals := ls, stack := .ref T.heap.size :: .ref T.heap.size :: rest, locked := none }) rfl hsize rfl rfl (rest := rest) rfl
    (by rw [hb]; exact d4) (by rw [hb]; exact d7) hout hRframes (by simp only [List.map_cons, List.sum_cons, hcat]; omega) hlocks
  obtain ⟨f1, f2⟩ := vx_frame hsame
  rw [hhp] at f1 f2
  have hWs : s.WarmedH U.vm := State.WarmedH.trans hW0 hW
  have hcl : s.vm.findClass cls = some ce.cls := by
    have h9 := hO.cls
    rw [hvm] at h9
    exact h9
  have hall : s.sameButNew ({ U with vm := s.vm } : State) locs mc ms := by
    subst hA
    obtain ⟨e1, e2⟩ := hsame
    rw [State.setFrames_setFrames] at e1
    have h2 : (T.setVm s.vm).sameButNew ({ U with vm := s.vm } : State) [] (0 + 1) (0 + 6) := ⟨e1, e2⟩
    have h3 := X.same.trans h2
    rw [List.append_nil] at h3
    exact h3.mono hc hs
  refine ⟨U, ?_, .threw T.heap.size, hrun, hend, Or.inr ⟨T.heap.size, rfl, cls, ce, locs, hx U hWs.alike f1 (fun q hq => f2 q hq (fun z hz => nomatch hz)), hce, hO.vm, hcl, hWs, hall, hf⟩⟩
  refine st1 _ ?_
  show Steps p.tables e below (T1.setTop { method := m, pc := pc + 3, locals := ls, stack := .ref T.heap.size :: rest, locked := none }) _
  jvm_step X₁.here [X₁.here.top, hexec, d3', Value.category]
  exact hsteps
/-- 'throw new E("text")': new; dup; ldc; invokespecial; athrow -/
theorem vx_throwS {cc : ByteArray} {pc : Nat} (hexec : p.tables.exec = Jvm.exec) (hb : c.code = cc) (hl : l.stackTraces = false) {own cls text : String} {names : List String} {ik is ic mc ms sa : Nat} {A : Nat → Prop}
    (hown : s.vm.findClass own = some m.cls) (hcls : Bundle.fit cls = true) (hnames : ∀ n ∈ names, Bundle.fit n = true)
    (hk : (Cond.classLink own ik cls).before args s = true) (hini : (Cond.initialized cls).before args s = true) (hstr : vk_R own is text sa s) (hat : ∀ w ∈ vx_atS own ic cls names, w.before args s = true)
    (hgood : ∀ w ∈ Cond.classLink own ik cls :: Cond.initialized cls :: vx_atS own ic cls names, vx_ot w = true)
    (hU : vx_Zq Bundle.tN "UNASSIGNED_STACK" Bundle.steD A s s.heap) (hN : vx_Zq Bundle.tN "SUPPRESSED_SENTINEL" Bundle.listD A s s.heap) (hS : va_S A s.heap H locs) (hsize : ls.size = c.maxLocals)
    (d0 : decode cc pc = .ok (.new ik, 3)) (d3 : decode cc (pc + 3) = .ok (.dup, 1)) (d4 : decode cc (pc + 4) = .ok (.ldc is, 2)) (d6 : decode cc (pc + 6) = .ok (.invokespecial ic, 3)) (d9 : decode cc (pc + 9) = .ok (.athrow, 1))
    (hout : ∀ x ∈ c.exceptionTable.toList, covers x (pc + 9) = false)
    (hRframes : names.length + 3 < R.frames) (hRlocals : (rest.map fun v => v.category).sum + (13 * (names.length + 1) + 43) ≤ R.locals) (hRcells : cells + 1 ≤ R.cells) (hRslots : slots + 6 ≤ R.slots) (hlocks : meth.locks = false)
    (hx : ∀ t : State, s.vm.Alike t.vm → H.size ≤ t.heap.size → (∀ q : Nat, q < H.size → t.heap[q]? = H[q]?) → XC cls s t)
    (hf : ∀ z ∈ locs, free z.base) (hc : cells + 1 ≤ mc) (hs : slots + 6 ≤ ms) :
    W p l e R s m args below meth c H locs cells slots (vx_MQ below Qc XC args s mc ms free) (F0 m pc ls rest) := by
  intro T hT X
  have htr : e.platform.stackTraces = false := (show e.platform.stackTraces = l.stackTraces by rw [X.admits.platform]).trans hl
  have Y := vx_rebase X (R' := { frames := R.frames, locals := R.locals, cells := 1, slots := 6 }) (Nat.le_refl _) (Nat.le_refl _) hRcells hRslots
  obtain ⟨s', hA⟩ : ∃ z, z = (T.setVm s.vm).setFrames (.invoking m args :: below) := ⟨_, rfl⟩
  rw [← hA] at Y
  have hvm : s'.vm = s.vm := by rw [hA]; rfl
  have hhp : s'.heap = H := by rw [hA]; exact hT
  have hW0 : s.WarmedH s'.vm := by rw [hvm]; exact State.WarmedH.refl s
  have hat' : ∀ w ∈ vx_atS own ic cls names, w.before args s' = true := fun w hw => vx_ot_at hW0 hvm.symm (hgood w (List.mem_cons_of_mem _ (List.mem_cons_of_mem _ hw))) (hat w hw)
  have hk' : (Cond.classLink own ik cls).before args s' = true := vx_ot_at hW0 hvm.symm (hgood _ List.mem_cons_self) hk
  have hini' : (Cond.initialized cls).before args s' = true := vx_ot_at hW0 hvm.symm (hgood _ (List.mem_cons_of_mem _ List.mem_cons_self)) hini
  have hU' : vx_Zq Bundle.tN "UNASSIGNED_STACK" Bundle.steD A s' s'.heap := by rw [hhp]; exact vx_Zq.moved hW0.alike (hU.kept hS.2.1)
  have hN' : vx_Zq Bundle.tN "SUPPRESSED_SENTINEL" Bundle.listD A s' s'.heap := by rw [hhp]; exact vx_Zq.moved hW0.alike (hN.kept hS.2.1)
  have h : ∀ w ∈ Bundle.ownAtoms own ic cls names, w.before args s' = true := vx_own hat' (vx_isRefq hU'.1) (vx_isRefq hN'.1) hU'.2.word hN'.2.word
  have hown' : s'.vm.findClass own = some m.cls := by rw [hvm]; exact hown
  have hins : (Cond.instantiable cls 6).before args s' = true := h _ (by simp [Bundle.ownAtoms])
  obtain ⟨vm₁, cX, kX, hfX, hkX, -, -, X₁, st1⟩ := Y.newCold hexec (own := own) (C := cls) (index := ik) (n := 6) hown' hk' hins hini'
    (g := F0 m pc ls rest) rfl (by rw [hb]; exact d0) (Nat.le_refl _) (Nat.le_refl _)
  generalize hT1 : (T.setVm vm₁).pushCell { cls := cX, slots := kX.instanceTypes.map defaultValue, vm := .none } = T1 at X₁ st1
  have hcat : (Value.ref T.heap.size).category = 1 := rfl
  have hcellA : T1.heap[T.heap.size]? = some (freshCell cX kX) := by rw [← hT1]; exact State.heap_pushCell_size _ _
  have d3' : decode c.code (pc + 3) = .ok (.dup, 1) := by rw [hb]; exact d3
  have d4' : decode c.code (pc + 4) = .ok (.ldc is, 2) := by rw [hb]; exact d4
  have hstr' : vk_R own is text sa s' := vk_R.warm hW0 hstr
  obtain ⟨U, hsteps, hrun, hend, hW, hsame, ce, hce, hO⟩ := X₁.ctorThrowS hexec htr (own := own) (cls := cls) (names := names) (ic := ic) hown' hcls hnames h (fun x hx => nomatch hx) hfX hkX hcellA (by rw [hhp, hT]; exact Nat.le_refl _) (msg := .ref sa) rfl
    (g := { method := m, pc := pc + 6, locals := ls, stack := .ref sa :: .ref T.heap.size :: .ref T.heap.size :: rest, locked := none }) rfl hsize rfl rfl (rest := rest) rfl
    (by rw [hb]; exact d6) (by rw [hb]; exact d9) hout hRframes (by simp only [List.map_cons, List.sum_cons, hcat]; omega) hlocks
  obtain ⟨f1, f2⟩ := vx_frame hsame
  rw [hhp] at f1 f2
  have hWs : s.WarmedH U.vm := State.WarmedH.trans hW0 hW
  have hcl : s.vm.findClass cls = some ce.cls := by
    have h9 := hO.cls
    rw [hvm] at h9
    exact h9
  have hall : s.sameButNew ({ U with vm := s.vm } : State) locs mc ms := by
    subst hA
    obtain ⟨e1, e2⟩ := hsame
    rw [State.setFrames_setFrames] at e1
    have h2 : (T.setVm s.vm).sameButNew ({ U with vm := s.vm } : State) [] (0 + 1) (0 + 6) := ⟨e1, e2⟩
    have h3 := X.same.trans h2
    rw [List.append_nil] at h3
    exact h3.mono hc hs
  refine ⟨U, ?_, .threw T.heap.size, hrun, hend, Or.inr ⟨T.heap.size, rfl, cls, ce, locs, hx U hWs.alike f1 (fun q hq => f2 q hq (fun z hz => nomatch hz)), hce, hO.vm, hcl, hWs, hall, hf⟩⟩
  refine st1 _ ?_
  show Steps p.tables e below (T1.setTop { method := m, pc := pc + 3, locals := ls, stack := .ref T.heap.size :: rest, locked := none }) _
  jvm_step X₁.here [X₁.here.top, hexec, d3', Value.category]
  exact X₁.ldcString hexec (own := own) (text := text) (index := is) (a := sa) hown' hstr'.1 hstr'.2
    (g := { method := m, pc := pc + 4, locals := ls, stack := .ref T.heap.size :: .ref T.heap.size :: rest, locked := none }) rfl d4' _ hsteps
/-- 'throw new E("text")', the text by a wide index -/
theorem vx_throwSW {cc : ByteArray} {pc : Nat} (hexec : p.tables.exec = Jvm.exec) (hb : c.code = cc) (hl : l.stackTraces = false) {own cls text : String} {names : List String} {ik is ic mc ms sa : Nat} {A : Nat → Prop}
    (hown : s.vm.findClass own = some m.cls) (hcls : Bundle.fit cls = true) (hnames : ∀ n ∈ names, Bundle.fit n = true)
    (hk : (Cond.classLink own ik cls).before args s = true) (hini : (Cond.initialized cls).before args s = true) (hstr : vk_R own is text sa s) (hat : ∀ w ∈ vx_atS own ic cls names, w.before args s = true)
    (hgood : ∀ w ∈ Cond.classLink own ik cls :: Cond.initialized cls :: vx_atS own ic cls names, vx_ot w = true)
    (hU : vx_Zq Bundle.tN "UNASSIGNED_STACK" Bundle.steD A s s.heap) (hN : vx_Zq Bundle.tN "SUPPRESSED_SENTINEL" Bundle.listD A s s.heap) (hS : va_S A s.heap H locs) (hsize : ls.size = c.maxLocals)
    (d0 : decode cc pc = .ok (.new ik, 3)) (d3 : decode cc (pc + 3) = .ok (.dup, 1)) (d4 : decode cc (pc + 4) = .ok (.ldc_w is, 3)) (d7 : decode cc (pc + 7) = .ok (.invokespecial ic, 3)) (d10 : decode cc (pc + 10) = .ok (.athrow, 1))
    (hout : ∀ x ∈ c.exceptionTable.toList, covers x (pc + 10) = false)
    (hRframes : names.length + 3 < R.frames) (hRlocals : (rest.map fun v => v.category).sum + (13 * (names.length + 1) + 43) ≤ R.locals) (hRcells : cells + 1 ≤ R.cells) (hRslots : slots + 6 ≤ R.slots) (hlocks : meth.locks = false)
    (hx : ∀ t : State, s.vm.Alike t.vm → H.size ≤ t.heap.size → (∀ q : Nat, q < H.size → t.heap[q]? = H[q]?) → XC cls s t)
    (hf : ∀ z ∈ locs, free z.base) (hc : cells + 1 ≤ mc) (hs : slots + 6 ≤ ms) :
    W p l e R s m args below meth c H locs cells slots (vx_MQ below Qc XC args s mc ms free) (F0 m pc ls rest) := by
  intro T hT X
  have htr : e.platform.stackTraces = false := (show e.platform.stackTraces = l.stackTraces by rw [X.admits.platform]).trans hl
  have Y := vx_rebase X (R' := { frames := R.frames, locals := R.locals, cells := 1, slots := 6 }) (Nat.le_refl _) (Nat.le_refl _) hRcells hRslots
  obtain ⟨s', hA⟩ : ∃ z, z = (T.setVm s.vm).setFrames (.invoking m args :: below) := ⟨_, rfl⟩
  rw [← hA] at Y
  have hvm : s'.vm = s.vm := by rw [hA]; rfl
  have hhp : s'.heap = H := by rw [hA]; exact hT
  have hW0 : s.WarmedH s'.vm := by rw [hvm]; exact State.WarmedH.refl s
  have hat' : ∀ w ∈ vx_atS own ic cls names, w.before args s' = true := fun w hw => vx_ot_at hW0 hvm.symm (hgood w (List.mem_cons_of_mem _ (List.mem_cons_of_mem _ hw))) (hat w hw)
  have hk' : (Cond.classLink own ik cls).before args s' = true := vx_ot_at hW0 hvm.symm (hgood _ List.mem_cons_self) hk
  have hini' : (Cond.initialized cls).before args s' = true := vx_ot_at hW0 hvm.symm (hgood _ (List.mem_cons_of_mem _ List.mem_cons_self)) hini
  have hU' : vx_Zq Bundle.tN "UNASSIGNED_STACK" Bundle.steD A s' s'.heap := by rw [hhp]; exact vx_Zq.moved hW0.alike (hU.kept hS.2.1)
  have hN' : vx_Zq Bundle.tN "SUPPRESSED_SENTINEL" Bundle.listD A s' s'.heap := by rw [hhp]; exact vx_Zq.moved hW0.alike (hN.kept hS.2.1)
  have h : ∀ w ∈ Bundle.ownAtoms own ic cls names, w.before args s' = true := vx_own hat' (vx_isRefq hU'.1) (vx_isRefq hN'.1) hU'.2.word hN'.2.word
  have hown' : s'.vm.findClass own = some m.cls := by rw [hvm]; exact hown
  have hins : (Cond.instantiable cls 6).before args s' = true := h _ (by simp [Bundle.ownAtoms])
  obtain ⟨vm₁, cX, kX, hfX, hkX, -, -, X₁, st1⟩ := Y.newCold hexec (own := own) (C := cls) (index := ik) (n := 6) hown' hk' hins hini'
    (g := F0 m pc ls rest) rfl (by rw [hb]; exact d0) (Nat.le_refl _) (Nat.le_refl _)
  generalize hT1 : (T.setVm vm₁).pushCell { cls := cX, slots := kX.instanceTypes.map defaultValue, vm := .none } = T1 at X₁ st1
  have hcat : (Value.ref T.heap.size).category = 1 := rfl
  have hcellA : T1.heap[T.heap.size]? = some (freshCell cX kX) := by rw [← hT1]; exact State.heap_pushCell_size _ _
  have d3' : decode c.code (pc + 3) = .ok (.dup, 1) := by rw [hb]; exact d3
  have d4' : decode c.code (pc + 4) = .ok (.ldc_w is, 3) := by rw [hb]; exact d4
  have hstr' : vk_R own is text sa s' := vk_R.warm hW0 hstr
  obtain ⟨U, hsteps, hrun, hend, hW, hsame, ce, hce, hO⟩ := X₁.ctorThrowS hexec htr (own := own) (cls := cls) (names := names) (ic := ic) hown' hcls hnames h (fun x hx => nomatch hx) hfX hkX hcellA (by rw [hhp, hT]; exact Nat.le_refl _) (msg := .ref sa) rfl
    (g := { method := m, pc := pc + 7, locals := ls, stack := .ref sa :: .ref T.heap.size :: .ref T.heap.size :: rest, locked := none }) rfl hsize rfl rfl (rest := rest) rfl
    (by rw [hb]; exact d7) (by rw [hb]; exact d10) hout hRframes (by simp only [List.map_cons, List.sum_cons, hcat]; omega) hlocks
  obtain ⟨f1, f2⟩ := vx_frame hsame
  rw [hhp] at f1 f2
  have hWs : s.WarmedH U.vm := State.WarmedH.trans hW0 hW
  have hcl : s.vm.findClass cls = some ce.cls := by
    have h9 := hO.cls
    rw [hvm] at h9
    exact h9
  have hall : s.sameButNew ({ U with vm := s.vm } : State) locs mc ms := by
    subst hA
    obtain ⟨e1, e2⟩ := hsame
    rw [State.setFrames_setFrames] at e1
    have h2 : (T.setVm s.vm).sameButNew ({ U with vm := s.vm } : State) [] (0 + 1) (0 + 6) := ⟨e1, e2⟩
    have h3 := X.same.trans h2
    rw [List.append_nil] at h3
    exact h3.mono hc hs
  refine ⟨U, ?_, .threw T.heap.size, hrun, hend, Or.inr ⟨T.heap.size, rfl, cls, ce, locs, hx U hWs.alike f1 (fun q hq => f2 q hq (fun z hz => nomatch hz)), hce, hO.vm, hcl, hWs, hall, hf⟩⟩
  refine st1 _ ?_
  show Steps p.tables e below (T1.setTop { method := m, pc := pc + 3, locals := ls, stack := .ref T.heap.size :: rest, locked := none }) _
  jvm_step X₁.here [X₁.here.top, hexec, d3', Value.category]
  exact X₁.ldcStringW hexec (own := own) (text := text) (index := is) (a := sa) hown' hstr'.1 hstr'.2
    (g := { method := m, pc := pc + 4, locals := ls, stack := .ref T.heap.size :: .ref T.heap.size :: rest, locked := none }) rfl d4' _ hsteps
end Ends
section Bodies
variable {l : Launch}
theorem vx_ofW {y : MethodName} {ws ws' : List Cond} {rm : Room} {Pc : Array Value → State → Prop} {Qc : Array Value → State → Outcome → State → Prop} {XC : String → State → State → Prop} {mc ms : Nat} {free : Addr → Prop} {cc : ByteArray} {maxL : Nat} {ret : Option FieldType}
    (hy : plainName y.cls = true) (hw : ws = Cond.code y cc maxL ret :: ws')
    (body : ∀ p e s m args below meth c s₁, BodyLoose p l y (headSpec ws rm) cc maxL ret e s m args below meth c s₁ → c.maxLocals = maxL → (∀ x ∈ c.exceptionTable.toList, False) → Pc args s →
      W p l e (headSpec ws rm).room s m args below meth c s.heap [] 0 0 (vx_MQ below Qc XC args s mc ms free) (entryFrame m args maxL)) : vx_Met l y ws rm Pc Qc XC mc ms free := by
  refine MetFree.of_bodyS (code := cc) (maxLocals := maxL) (ret := ret) hy ?_ ?_
  · intro args s m h hn
    obtain ⟨meth, c, h1, h2, h3, h4, h5, h6, -, -⟩ := Cond.code_spec hn (atoms_spec (ws := ws) h _ (by rw [hw]; exact List.mem_cons_self))
    exact ⟨meth, c, h1, h2, h3, h4, h5, h6⟩
  · intro p e s m args below meth c s₁ B hml hP _
    have hh0 : s₁.heap = s.heap := by rw [B.state]; rfl
    have ht : ∀ x ∈ c.exceptionTable.toList, False := by
      obtain ⟨meth9, c9, h1, h2, -, -, -, -, h7, -⟩ := Cond.code_spec B.named (atoms_spec (ws := ws) B.pre _ (by rw [hw]; exact List.mem_cons_self))
      cases Option.some.inj (h1.symm.trans B.method)
      cases Option.some.inj (h2.symm.trans (Stand.of_body B).code)
      intro x hx
      rw [Array.isEmpty_iff.mp h7] at hx
      cases hx
    obtain ⟨t, a1, o, b1, b2, b3⟩ := body p e s m args below meth c s₁ B hml ht hP s₁ hh0 (Stand.of_body B)
    exact ⟨t, o, a1, b1, b2, b3⟩
/-- the table of a body with handlers -/
theorem vx_table {p : Program} {x y : MethodName} {S : Spec} {cc bytes : ByteArray} {maxL maxL' : Nat} {ret ret' : Option FieldType} {e : Env} {s s₁ : State} {m : MethodId} {args : Array Value} {below : List Frame} {meth : Method} {c : Code} {hh : List (Nat × Nat × Nat × Nat)}
    (B : BodyLoose p l y S cc maxL ret e s m args below meth c s₁) (h : (Cond.codeWith y bytes maxL' ret' hh).before args s = true) : c.exceptionTable.toList = tableOf hh := by
  obtain ⟨m9, meth9, c9, hn9, h1, h2, -, -, h6, -⟩ := Cond.codeWith_spec h
  cases Option.some.inj (hn9.symm.trans B.named)
  cases Option.some.inj (h1.symm.trans B.method)
  cases Option.some.inj (h2.symm.trans (Stand.of_body B).code)
  rw [← h6, table_eq]
end Bodies
end VXA
/-! ===== END ===== -/
/-! ===== BEGIN a static call of a method with an exception table ===== -/
section VXS
variable {p : Program} {l : Launch} {e : Env} {R : Room} {s : State} {m : MethodId} {args : Array Value} {below : List Frame} {meth : Method} {c : Code} {T : State} {H : Heap} {locs : List Loc} {cells slots : Nat}
abbrev vx_CSW (R : Room) (s : State) (args : Array Value) (own : String) (index : Nat) (y : MethodName) (bytes : ByteArray) (maxL : Nat) (ret : Option FieldType) (hh : List (Nat × Nat × Nat × Nat)) (ws : List Cond) (rm : Room) (mc ms n : Nat) : Prop :=
  (rm.cells = mc ∧ rm.slots = ms ∧ rm.frames + 1 ≤ R.frames ∧ 8 + (maxL + 11) + rm.locals ≤ R.locals ∧ (∀ w ∈ ws, ∀ (a' : Array Value) (U : State), s.WarmedH U.vm → w.before a' U = true) ∧ Cond.codeWith y bytes maxL ret hh ∈ ws) ∧
  (Cond.codeWith y bytes maxL ret hh).before args s = true ∧ (Cond.initialized y.cls).before args s = true ∧ (y.cls ≠ "java/lang/invoke/MethodHandle" ∧ y.cls ≠ "java/lang/invoke/VarHandle") ∧
  (∀ sig, parseMethodDescriptor y.desc = some sig → n = sig.parameters.length) ∧ (Cond.methodLink own index y).before args s = true ∧ (Cond.static y).before args s = true
theorem vx_cwSW {own : String} {index maxL mc ms : Nat} {y : MethodName} {bytes : ByteArray} {ret : Option FieldType} {hh : List (Nat × Nat × Nat × Nat)} {Ts ws ws' : List Cond} {rm : Room} (n : Nat) (ht : ∀ w ∈ Ts, w.before args s = true) (hT : GoodIn Ts (va_wsS own index y ws)) (hw : ws = Cond.codeWith y bytes maxL ret hh :: ws') (hrc : rm.cells = mc) (hrs : rm.slots = ms)
    (hd : y.cls ≠ "java/lang/invoke/MethodHandle" ∧ y.cls ≠ "java/lang/invoke/VarHandle" ∧ (parseMethodDescriptor y.desc).map (fun d => d.parameters.length) = some n) (hR : rm.frames + 1 ≤ R.frames ∧ 8 + (maxL + 11) + rm.locals ≤ R.locals) :
    vx_CSW R s args own index y bytes maxL ret hh ws rm mc ms n := by
  have ok : ∀ w ∈ va_wsS own index y ws, w.before args s = true := fun w h => ht w (hT w h).1
  have hG : GoodIn Ts ws := fun w h => hT w (by unfold va_wsS; exact List.mem_append_right _ h)
  have hc : Cond.codeWith y bytes maxL ret hh ∈ ws := by rw [hw]; exact List.mem_cons_self
  refine ⟨⟨hrc, hrs, hR.1, hR.2, pay_in ht hG, hc⟩, ht _ (hG _ hc).1, ok _ (by simp [va_wsS]), ⟨hd.1, hd.2.1⟩, fun sig h => ?_, ok _ (by simp [va_wsS]), ok _ (by simp [va_wsS])⟩
  have h2 := hd.2.2
  rw [h] at h2
  exact (Option.some.inj h2).symm
theorem vx_callSW (X : Stand p l e R s m args below meth c T locs cells slots) (hexec : p.tables.exec = Jvm.exec) {own : String} {index : Nat} {y : MethodName} {bytes : ByteArray} {maxL : Nat} {ret : Option FieldType} {hh : List (Nat × Nat × Nat × Nat)}
    (hown : s.vm.findClass own = some m.cls) (hlink : (Cond.methodLink own index y).before args s = true) (hstat : (Cond.static y).before args s = true) (hinit : (Cond.initialized y.cls).before args s = true)
    (hcode : (Cond.codeWith y bytes maxL ret hh).before args s = true) (hy : y.cls ≠ "java/lang/invoke/MethodHandle" ∧ y.cls ≠ "java/lang/invoke/VarHandle")
    {W9 : Nat} {Pre : Pt → Array Value → Prop} {Post : Pt → Array Value → Option Value → Pt → Prop} (hK : Back l R p e below s args y 3 W9 Pre Post)
    {g : JFrame} (hg : g.method = m) (hsize : g.locals.size = c.maxLocals) {argsL rest : List Value} (hlen : ∀ sig, parseMethodDescriptor y.desc = some sig → argsL.length = sig.parameters.length)
    (hstack : g.stack = argsL.reverse ++ rest) (hW : 2 * g.monitorRoom + (rest.map fun v => v.category).sum ≤ W9) (hdg : decode c.code g.pc = .ok (.invokestatic index, 3))
    (hpre : ∀ vm₁, s.WarmedH vm₁ → Pre ⟨T.setVm vm₁, locs, cells, slots⟩ argsL.toArray) :
    ∃ (v : Option Value) (vm₁ : Vm) (B : Pt), s.WarmedH vm₁ ∧ Stand p l e R s m args below meth c B.U B.locs B.cells B.slots ∧ Post ⟨T.setVm vm₁, locs, cells, slots⟩ argsL.toArray v B ∧
      ∀ target, Steps p.tables e below (B.U.setTop { g with pc := g.pc + 3, stack := v.toList ++ rest }) target → Steps p.tables e below (T.setTop g) target := by
  obtain ⟨mk, methM, cM, hnamed, hmethM, -, -, -, -, -, -, hsigM⟩ := Cond.codeWith_spec hcode
  have hstatic : methM.isStatic = true := Cond.static_spec hnamed hmethM hstat
  obtain ⟨kP, hkP, -⟩ := className_of_methodNamed hnamed
  have hinitP : kP.init = .initialized := Cond.initialized_spec (findClass_of_methodNamed hnamed) hkP hinit
  obtain ⟨vm₁, X₁, hstep₁⟩ := X.invokestatic hexec hown hlink hnamed hmethM hstatic hkP hinitP hy (g := g) hg (argsL := argsL) (rest := rest) (hlen _ hsigM) hstack hdg
  obtain ⟨v, B, X', hpost, hsteps⟩ := hK m meth c ⟨T.setVm vm₁, locs, cells, slots⟩ { g with stack := rest } (.invokestatic index) mk argsL.toArray X₁ hg hsize hdg hW (X₁.named hnamed) (hpre vm₁ X₁.warmed)
  exact ⟨v, vm₁, B, X₁.warmed, X', hpost, fun target h => hstep₁ _ fun acts => by rw [doInvoke_state]; exact hsteps.trans h⟩
theorem vx_runSW {y : MethodName} {bytes cc : ByteArray} {maxL nL mc ms n index : Nat} {ret : Option FieldType} {hh : List (Nat × Nat × Nat × Nat)} {ws : List Cond} {rm : Room} {Pc : Array Value → State → Prop} {Qc : Array Value → State → Outcome → State → Prop} {free : Addr → Prop} {Ts : List Cond} {own : String} {As rest : List Value} {g : JFrame}
    (S : CallFix p m c cc nL s args Ts own) (hM : Met l y ws rm Pc Qc mc ms free) (cw : vx_CSW R s args own index y bytes maxL ret hh ws rm mc ms n) (hp : PreS s H Pc As)
    (hg : g.method = m) (hn : As.length = n) (hsize : g.locals.size = nL) (hstack : g.stack = As.reverse ++ rest) (hW : 2 * g.monitorRoom + (rest.map fun v => v.category).sum ≤ 8) (hdg : decode cc g.pc = .ok (.invokestatic index, 3)) (hf : cells + mc ≤ R.cells ∧ slots + ms ≤ R.slots) :
    va_Run p l e R s m args below meth c H locs cells slots mc ms g rest (Qc As.toArray) (free) := by
  obtain ⟨⟨hrc, hrs, hfr, hlo, hws, hcw⟩, hcode, hini, hy, hlen, hl, hstt⟩ := cw
  have hK : Back l R p e below s args y 3 8 (PreOf R mc ms Pc) (PostOf Qc mc ms free) := va_backW (hh := hh) (bytes := bytes) (maxL := maxL) (ret := ret) hM hp.1 hrc hrs hfr hlo hws hcw (fun a' U hW => word_at hW (Or.inl (by first | rfl | simp [Cond.onTables, Cond.keeps, Cond.steady])) hini)
  obtain ⟨hx, hb, hml, ho, -⟩ := S
  intro T hT X
  obtain ⟨v, vm₁, ⟨U', l2, c2, s2⟩, hW₁, X', ⟨g', mk, t, L, e1, e2, hq, h1, hL, h2, h3⟩, st⟩ := vx_callSW X hx (hh := hh) (bytes := bytes) (maxL := maxL) (ret := ret) ho hl hstt hini hcode hy hK hg (hsize.trans hml.symm) (argsL := As) (rest := rest) (fun sig h => hn.trans (hlen sig h)) hstack hW (by rw [hb]; exact hdg)
    (fun vm₁ hW₁ => ⟨hf.1, hf.2, hp.2 (T.setVm vm₁) hT hW₁⟩)
  dsimp only [Pt.U, Pt.locs, Pt.cells, Pt.slots] at X' e1 e2 h1 h2 h3 st
  subst h1; subst h2; subst h3
  exact ⟨v, (T.setVm vm₁).calling g' mk As.toArray, t, U', L, hT, X', hL, e1, e2, hq, st⟩
/-- not caught here, past rows that name other classes: it goes on to the caller -/
theorem vx_outP {p : Program} {l : Launch} {e : Env} {R : Room} {s : State} {m : MethodId} {args : Array Value} {below : List Frame} {meth : Method} {c : Code} {H : Heap} {locs : List Loc} {cells slots : Nat} {free : Addr → Prop} {ls : Array Slot} {rest : List Value} {Qc : Array Value → State → Outcome → State → Prop} {XC : String → State → State → Prop}
    {pc : Nat} {own E : String} {ce : Cell} {q : Addr} {mc ms : Nat} (hown : s.vm.findClass own = some m.cls) (hlocks : meth.locks = false)
    (hpass : ∀ z ∈ c.exceptionTable.toList, covers z pc = false ∨ (z.catchType ≠ 0 ∧ ∃ nm : String, (Cond.classLink own z.catchType nm).before args s = true ∧ va_Nc E nm s)) (hcell : H[q]? = some ce) (hv : ce.vm = .none) (hcl : s.vm.findClass E = some ce.cls)
    (hx : ∀ t : State, t.heap = H → s.vm.Alike t.vm → XC E s t) (hf : ∀ z ∈ locs, free z.base) (hc : cells ≤ mc) (hs : slots ≤ ms) :
    vx_W p l e R s m args below meth c H locs cells slots (vx_MQ below Qc XC args s mc ms free) (F0 m pc ls rest) q := by
  intro T hT X
  have hpl : e.platform.magicAccessors = ({} : Platform).magicAccessors := by rw [X.admits.platform]
  obtain ⟨vm', hW', X', st⟩ := X.outThrough hlocks q (g := F0 m pc ls rest) rfl rfl rfl (cell := ce) (by rw [hT]; exact hcell) (by rw [hv]; rfl)
    (by obtain ⟨k9, h9, -⟩ := Vm.findClass_spec hcl; exact ⟨k9, h9⟩) (fun z hz => by
      rcases hpass z hz with h | ⟨hz0, nm, hl1, hn1⟩
      · exact Or.inl h
      · obtain ⟨c6, hc6, hcl6⟩ := Cond.classLink_spec hown hl1 e.platform hpl
        obtain ⟨a8, b8, h1, h2, h3⟩ := hn1
        cases Option.some.inj (h1.symm.trans hcl)
        cases Option.some.inj (h2.symm.trans hc6)
        exact Or.inr ⟨hz0, _, hcl6, h3⟩)
  obtain ⟨g₀, hfr⟩ := X'.frames_eq
  have hcell9 : ((T.setVm vm').setFrames (.throwing q :: below)).heap[q]? = some ce := by
    show T.heap[q]? = some ce
    rw [hT]; exact hcell
  have hend : Ended ((T.setVm vm').setFrames (.throwing q :: below)) below (.threw q) := State.frames_setFrames _ (State.cur_lt_of_frames hfr)
  refine ⟨(T.setVm vm').setFrames (.throwing q :: below), ?_, .threw q, X'.here.running, hend, Or.inr ⟨q, rfl, E, ce, locs, hx _ hT (X'.ends _).1.alike, hcell9, hv, hcl, (X'.ends _).1, (X'.ends _).2.mono hc hs, hf⟩⟩
  rw [X.pushThrowing_eq]
  exact st
/-- a thing of a world lies in the heap -/
theorem vx_lt {D : va_G} {cl : List vw_C} {ws : va_W} {H1 : Heap} (h : va_P D cl ws H1) {k : Nat} {q : Nat × va_E} (hk : ws[k]? = some q) : q.1 < H1.size := (h k q hk).lt
end VXS
/-! ===== END ===== -/
/-! ===== BEGIN methods with a table of their own: called by a name, returning or throwing ===== -/
section VXH
/-! vx_backW, vx_callVX, vx_callSX, vx_callVW, vx_runVW, vx_runVX, vx_runSX, vx_ofWH follow the same proofs as their sisters above (Free/Laws.lean, Shelf42/LK1.lean); vx_outP calls Shelf42/NT130.lean (outThrough). -/
section
variable {l : Launch} {R : Room} {p : Program} {e : Env} {below : List Frame} {s : State} {sargs : Array Value} {y : MethodName} {len W9 : Nat}
theorem vx_backW {ws : List Cond} {rm : Room} {Pc : Array Value → State → Prop} {Qc : Array Value → State → Outcome → State → Prop} {XC : String → State → State → Prop} {mc ms : Nat} {free : Addr → Prop} {bytes : ByteArray} {maxL : Nat} {ret : Option FieldType} {hh : List (Nat × Nat × Nat × Nat)}
    (hM : vx_Met l y ws rm Pc Qc XC mc ms free) (hblind : FrameBlind Pc) (hrc : rm.cells = mc) (hrs : rm.slots = ms)
    (hframes : rm.frames + 1 ≤ R.frames) (hlocals : W9 + (maxL + 11) + rm.locals ≤ R.locals)
    (hws : ∀ w ∈ ws, ∀ a' U, s.WarmedH U.vm → w.before a' U = true) (hcode : Cond.codeWith y bytes maxL ret hh ∈ ws) (hinit : ∀ a' U, s.WarmedH U.vm → (Cond.initialized y.cls).before a' U = true) :
    vx_Back l R p e below s sargs y len W9 (PreOf R mc ms Pc) (PostOf Qc mc ms free) (vx_Post XC mc ms free) := by
  intro m meth c A g ig mk a X hg hsize hdg hW hn hp
  have h1 : (headSpec ws rm).pre.before a A.U = true := atoms_intro fun w hw => hws w hw _ _ X.warmed
  have h2 : (Cond.codeWith y bytes maxL ret hh).before a A.U = true := hws _ hcode _ _ X.warmed
  have h3 : (Cond.initialized y.cls).before a A.U = true := hinit _ _ X.warmed
  have h4 : A.cells + (headSpec ws rm).room.cells ≤ R.cells := by rw [show (headSpec ws rm).room.cells = mc from hrc]; exact hp.1
  have h5 : A.slots + (headSpec ws rm).room.slots ≤ R.slots := by rw [show (headSpec ws rm).room.slots = ms from hrs]; exact hp.2.1
  have hPc : Pc a (A.U.calling g mk a) := hblind _ _ _ _ hp.2.2
  obtain ⟨U, Ls, c0, s0⟩ := A
  dsimp only [Pt.U, Pt.locs, Pt.cells, Pt.slots] at h1 h2 h3 h4 h5 X hn hPc ⊢
  obtain ⟨m9, methY, cY, hn9, hmY, hcY, -, hlY, -⟩ := Cond.codeWith_spec h2
  cases Option.some.inj (hn9.symm.trans hn)
  obtain ⟨kY, hkY, -⟩ := className_of_methodNamed hn
  have hinitY : kY.init = .initialized := Cond.initialized_spec (findClass_of_methodNamed hn) hkY h3
  have h : At U g.method c below := by rw [hg]; exact X.here
  have hlocals9 : W9 + (maxL + 11) + (headSpec ws rm).room.locals ≤ R.locals := hlocals
  have happ : (headSpec ws rm).appliesLoose y e.platform (U.calling g mk a) = true :=
    Spec.appliesLoose_calling (g := g) h hdg hn hkY hinitY
      (X.room_calling (g := g) (R' := (headSpec ws rm).room) hsize hmY hcY hframes (by rw [hlY]; omega) h4 h5) h1
  obtain ⟨mid, hmid⟩ := h.above
  have hfr : (U.setTop g).frames = (.java g :: mid) ++ below := by rw [State.frames_setTop' g h.top, hmid]; rfl
  obtain ⟨o, s₂, hsteps, -, hend, hq⟩ := Steps.callFree hM p X.admits X.cas X.clock (acts := []) hfr happ hPc trivial
  have hq' : vx_Q Qc XC mc ms free a (U.calling g mk a) o s₂ := hq
  rw [State.frames_setTop' g h.top] at hend
  obtain ⟨g₀, hg0⟩ := Option.isSome_iff_exists.mp h.top
  obtain ⟨r, hr⟩ := State.topJava?_eq_some.mp hg0
  have hr' : (({ U with heap := s₂.heap, slotsUsed := s₂.slotsUsed } : State).setVm s₂.vm).frames = .java g₀ :: r := hr
  rcases hq' with ⟨hqc, L, hfe, hL⟩ | ⟨q, rfl, E, ce, L, hx, hce, hcv, hcl, hW₂, hsm, hL⟩
  · obtain ⟨⟨v, rfl⟩, hW₂, e2, q2, q3, q4, q5, q6⟩ := id hfe
    have e3 : s₂ = ({ (U.calling g mk a).setFrames s₂.frames with heap := s₂.heap, slotsUsed := s₂.slotsUsed } : State).setVm s₂.vm := by
      have : s₂ = ({ s₂ with vm := (U.calling g mk a).vm } : State).setVm s₂.vm := rfl
      rw [e2] at this
      exact this
    obtain ⟨c₂, i₂, len₂, hc₂, hd₂, hf₂⟩ := hend
    have hW' : U.WarmedH s₂.vm := hW₂
    have hcc : c₂ = c := by
      have h1 : s₂.code? g.method = U.code? g.method := by
        rw [State.code?_eq, State.code?_eq, hW'.alike.method?]
      exact Option.some.inj (hc₂.symm.trans (h1.trans h.code))
    subst hcc
    have hlen : len₂ = len := by rw [hdg] at hd₂; cases hd₂; rfl
    subst hlen
    have hs₂ : s₂ = (({ U with heap := s₂.heap, slotsUsed := s₂.slotsUsed } : State).setVm s₂.vm).setTop { g with pc := g.pc + len₂, stack := v.toList ++ g.stack } := by
      refine e3.trans ?_
      rw [hf₂, State.calling_eq h.top, State.setFrames_setFrames, State.setTop_of_frames _ hr', hr]
      rfl
    have hsame : U.sameButNew ({ U with heap := s₂.heap, slotsUsed := s₂.slotsUsed } : State) L mc ms := by
      refine ⟨?_, q2, q3, q4, q5, q6⟩
      obtain ⟨t, ht, -⟩ := State.frames_cons hr
      show ({ U with heap := s₂.heap, slotsUsed := s₂.slotsUsed } : State) = { U.setFrames U.frames with heap := s₂.heap, slotsUsed := s₂.slotsUsed }
      rw [State.setFrames_self ht]
    subst hg
    refine Or.inl ⟨v, ⟨(({ U with heap := s₂.heap, slotsUsed := s₂.slotsUsed } : State).setVm s₂.vm), Ls ++ L, c0 + mc, s0 + ms⟩,
      ⟨X.admits, X.cas, X.clock, X.frames, X.room, X.hears, X.method, X.code, (X.here.setHeapUsed s₂.heap s₂.slotsUsed).setVm hW'.alike, X.tail, State.WarmedH.trans X.warmed hW', X.limits, X.bytes, X.same.trans (hsame.setVm s.vm)⟩,
      ⟨g, mk, s₂, L, rfl, rfl, hqc, rfl, hL, rfl, rfl⟩, ?_⟩
    show Steps p.tables e below _ ((({ U with heap := s₂.heap, slotsUsed := s₂.slotsUsed } : State).setVm s₂.vm).setTop { g with pc := g.pc + len₂, stack := v.toList ++ g.stack })
    rw [← hs₂]
    exact hsteps
  · obtain ⟨e2, q2, q3, q4, q5, q6⟩ := id hsm
    have e3 : s₂ = ({ (U.calling g mk a).setFrames s₂.frames with heap := s₂.heap, slotsUsed := s₂.slotsUsed } : State).setVm s₂.vm := by
      have : s₂ = ({ s₂ with vm := (U.calling g mk a).vm } : State).setVm s₂.vm := rfl
      rw [e2] at this
      exact this
    have hf₂ : s₂.frames = .throwing q :: .java g :: U.frames.tail := hend
    have hW' : U.WarmedH s₂.vm := hW₂
    have hs₂ : s₂ = ((({ U with heap := s₂.heap, slotsUsed := s₂.slotsUsed } : State).setVm s₂.vm).setTop g).pushFrame (.throwing q) := by
      refine e3.trans ?_
      rw [hf₂, State.calling_eq h.top, State.setFrames_setFrames, State.pushFrame, State.frames_setTop _ hr', State.setTop_of_frames _ hr', State.setFrames_setFrames, hr]
      rfl
    have hsame : U.sameButNew ({ U with heap := s₂.heap, slotsUsed := s₂.slotsUsed } : State) L mc ms := by
      refine ⟨?_, q2, q3, q4, q5, q6⟩
      obtain ⟨t, ht, -⟩ := State.frames_cons hr
      show ({ U with heap := s₂.heap, slotsUsed := s₂.slotsUsed } : State) = { U.setFrames U.frames with heap := s₂.heap, slotsUsed := s₂.slotsUsed }
      rw [State.setFrames_self ht]
    subst hg
    refine Or.inr ⟨q, ⟨(({ U with heap := s₂.heap, slotsUsed := s₂.slotsUsed } : State).setVm s₂.vm), Ls ++ L, c0 + mc, s0 + ms⟩,
      ⟨X.admits, X.cas, X.clock, X.frames, X.room, X.hears, X.method, X.code, (X.here.setHeapUsed s₂.heap s₂.slotsUsed).setVm hW'.alike, X.tail, State.WarmedH.trans X.warmed hW', X.limits, X.bytes, X.same.trans (hsame.setVm s.vm)⟩,
      ⟨g, mk, s₂, L, E, ce, rfl, rfl, hx, hce, hcv, hcl, rfl, hL, rfl, rfl⟩, ?_⟩
    show Steps p.tables e below _ (((({ U with heap := s₂.heap, slotsUsed := s₂.slotsUsed } : State).setVm s₂.vm).setTop g).pushFrame (.throwing q))
    rw [← hs₂]
    exact hsteps
end
variable {p : Program} {l : Launch} {e : Env} {R : Room} {s : State} {m : MethodId} {args : Array Value} {below : List Frame} {meth : Method} {c : Code} {T : State} {H : Heap} {locs : List Loc} {cells slots : Nat}
theorem vx_callVX (X : Stand p l e R s m args below meth c T locs cells slots) (hexec : p.tables.exec = Jvm.exec) {own C : String} {index : Nat} {y : MethodName} {bytes : ByteArray} {maxL : Nat} {ret : Option FieldType} {hh : List (Nat × Nat × Nat × Nat)}
    (hown : s.vm.findClass own = some m.cls) (hlink : (Cond.methodLink own index y).before args s = true) (hinst : (Cond.instanceMethod y).before args s = true) (hsel : (Cond.selects C y y).before args s = true)
    (hcode : (Cond.codeWith y bytes maxL ret hh).before args s = true) (hy : y.cls ≠ "java/lang/invoke/MethodHandle" ∧ y.cls ≠ "java/lang/invoke/VarHandle")
    {W9 : Nat} {Pre : Pt → Array Value → Prop} {Post : Pt → Array Value → Option Value → Pt → Prop} {PostX : Pt → Array Value → Addr → Pt → Prop} (hK : vx_Back l R p e below s args y 3 W9 Pre Post PostX)
    {b : Addr} {cellB : Cell} (hcell : T.heap[b]? = some cellB) (hobj : cellB.vm.isStatics = false) (hcls : s.vm.findClass C = some cellB.cls)
    {g : JFrame} (hg : g.method = m) (hsize : g.locals.size = c.maxLocals) {argsL rest : List Value} (hlen : ∀ sig, parseMethodDescriptor y.desc = some sig → argsL.length = sig.parameters.length)
    (hstack : g.stack = argsL.reverse ++ .ref b :: rest) (hW : 2 * g.monitorRoom + (rest.map fun v => v.category).sum ≤ W9) (hdg : decode c.code g.pc = .ok (.invokevirtual index, 3))
    (hpre : ∀ vm₁, s.WarmedH vm₁ → Pre ⟨T.setVm vm₁, locs, cells, slots⟩ (Value.ref b :: argsL).toArray) :
    (∃ (v : Option Value) (vm₁ : Vm) (B : Pt), s.WarmedH vm₁ ∧ Stand p l e R s m args below meth c B.U B.locs B.cells B.slots ∧ Post ⟨T.setVm vm₁, locs, cells, slots⟩ (Value.ref b :: argsL).toArray v B ∧
      ∀ target, Steps p.tables e below (B.U.setTop { g with pc := g.pc + 3, stack := v.toList ++ rest }) target → Steps p.tables e below (T.setTop g) target) ∨
    (∃ (q : Addr) (vm₁ : Vm) (B : Pt), s.WarmedH vm₁ ∧ Stand p l e R s m args below meth c B.U B.locs B.cells B.slots ∧ PostX ⟨T.setVm vm₁, locs, cells, slots⟩ (Value.ref b :: argsL).toArray q B ∧
      Steps p.tables e below (T.setTop g) ((B.U.setTop { g with stack := rest }).pushFrame (.throwing q))) := by
  obtain ⟨mk, methM, hnamed, hmethM, hstM, habM⟩ := Cond.instanceMethod_spec hinst
  obtain ⟨m8, methM', cM, hn8, hmethM', -, -, -, -, -, -, hsigM⟩ := Cond.codeWith_spec hcode
  cases Option.some.inj (hn8.symm.trans hnamed)
  cases hmethM.symm.trans hmethM'
  obtain ⟨c2, r2, m2, q1, q2, q3, q4, kP, hkP, hkPi⟩ := Cond.selects_spec hsel
  cases hcls.symm.trans q1
  cases (State.methodFound?_of_named hnamed hy).symm.trans q2
  cases hnamed.symm.trans q3
  have hselP : selectMethod e.platform s.vm cellB.cls mk = .method mk := by rw [Launch.admits_selectMethod X.admits]; exact q4
  obtain ⟨vm₁, X₁, hstep₁⟩ := X.invokevirtual hexec hown hlink hnamed hmethM hstM hkP hkPi hy (a := b) (cell := cellB) hcell
    (fun z h => by rw [h] at hobj; cases hobj) hselP hmethM habM hkP hkPi (g := g) hg (argsL := argsL) (rest := rest) (hlen _ hsigM) hstack hdg
  rcases hK m meth c ⟨T.setVm vm₁, locs, cells, slots⟩ { g with stack := rest } (.invokevirtual index) mk (Value.ref b :: argsL).toArray X₁ hg hsize hdg hW (X₁.named hnamed) (hpre vm₁ X₁.warmed) with ⟨v, B, X', hpost, hsteps⟩ | ⟨q, B, X', hpost, hsteps⟩
  · exact Or.inl ⟨v, vm₁, B, X₁.warmed, X', hpost, fun target h => hstep₁ _ fun acts => by rw [doInvoke_state]; exact hsteps.trans h⟩
  · exact Or.inr ⟨q, vm₁, B, X₁.warmed, X', hpost, hstep₁ _ fun acts => by rw [doInvoke_state]; exact hsteps⟩
theorem vx_callSX (X : Stand p l e R s m args below meth c T locs cells slots) (hexec : p.tables.exec = Jvm.exec) {own : String} {index : Nat} {y : MethodName} {bytes : ByteArray} {maxL : Nat} {ret : Option FieldType} {hh : List (Nat × Nat × Nat × Nat)}
    (hown : s.vm.findClass own = some m.cls) (hlink : (Cond.methodLink own index y).before args s = true) (hstat : (Cond.static y).before args s = true) (hinit : (Cond.initialized y.cls).before args s = true)
    (hcode : (Cond.codeWith y bytes maxL ret hh).before args s = true) (hy : y.cls ≠ "java/lang/invoke/MethodHandle" ∧ y.cls ≠ "java/lang/invoke/VarHandle")
    {W9 : Nat} {Pre : Pt → Array Value → Prop} {Post : Pt → Array Value → Option Value → Pt → Prop} {PostX : Pt → Array Value → Addr → Pt → Prop} (hK : vx_Back l R p e below s args y 3 W9 Pre Post PostX)
    {g : JFrame} (hg : g.method = m) (hsize : g.locals.size = c.maxLocals) {argsL rest : List Value} (hlen : ∀ sig, parseMethodDescriptor y.desc = some sig → argsL.length = sig.parameters.length)
    (hstack : g.stack = argsL.reverse ++ rest) (hW : 2 * g.monitorRoom + (rest.map fun v => v.category).sum ≤ W9) (hdg : decode c.code g.pc = .ok (.invokestatic index, 3))
    (hpre : ∀ vm₁, s.WarmedH vm₁ → Pre ⟨T.setVm vm₁, locs, cells, slots⟩ argsL.toArray) :
    (∃ (v : Option Value) (vm₁ : Vm) (B : Pt), s.WarmedH vm₁ ∧ Stand p l e R s m args below meth c B.U B.locs B.cells B.slots ∧ Post ⟨T.setVm vm₁, locs, cells, slots⟩ argsL.toArray v B ∧
      ∀ target, Steps p.tables e below (B.U.setTop { g with pc := g.pc + 3, stack := v.toList ++ rest }) target → Steps p.tables e below (T.setTop g) target) ∨
    (∃ (q : Addr) (vm₁ : Vm) (B : Pt), s.WarmedH vm₁ ∧ Stand p l e R s m args below meth c B.U B.locs B.cells B.slots ∧ PostX ⟨T.setVm vm₁, locs, cells, slots⟩ argsL.toArray q B ∧
      Steps p.tables e below (T.setTop g) ((B.U.setTop { g with stack := rest }).pushFrame (.throwing q))) := by
  obtain ⟨mk, methM, cM, hnamed, hmethM, -, -, -, -, -, -, hsigM⟩ := Cond.codeWith_spec hcode
  have hstatic : methM.isStatic = true := Cond.static_spec hnamed hmethM hstat
  obtain ⟨kP, hkP, -⟩ := className_of_methodNamed hnamed
  have hinitP : kP.init = .initialized := Cond.initialized_spec (findClass_of_methodNamed hnamed) hkP hinit
  obtain ⟨vm₁, X₁, hstep₁⟩ := X.invokestatic hexec hown hlink hnamed hmethM hstatic hkP hinitP hy (g := g) hg (argsL := argsL) (rest := rest) (hlen _ hsigM) hstack hdg
  rcases hK m meth c ⟨T.setVm vm₁, locs, cells, slots⟩ { g with stack := rest } (.invokestatic index) mk argsL.toArray X₁ hg hsize hdg hW (X₁.named hnamed) (hpre vm₁ X₁.warmed) with ⟨v, B, X', hpost, hsteps⟩ | ⟨q, B, X', hpost, hsteps⟩
  · exact Or.inl ⟨v, vm₁, B, X₁.warmed, X', hpost, fun target h => hstep₁ _ fun acts => by rw [doInvoke_state]; exact hsteps.trans h⟩
  · exact Or.inr ⟨q, vm₁, B, X₁.warmed, X', hpost, hstep₁ _ fun acts => by rw [doInvoke_state]; exact hsteps⟩
theorem vx_callVW (X : Stand p l e R s m args below meth c T locs cells slots) (hexec : p.tables.exec = Jvm.exec) {own C : String} {index : Nat} {y : MethodName} {bytes : ByteArray} {maxL : Nat} {ret : Option FieldType} {hh : List (Nat × Nat × Nat × Nat)}
    (hown : s.vm.findClass own = some m.cls) (hlink : (Cond.methodLink own index y).before args s = true) (hinst : (Cond.instanceMethod y).before args s = true) (hsel : (Cond.selects C y y).before args s = true)
    (hcode : (Cond.codeWith y bytes maxL ret hh).before args s = true) (hy : y.cls ≠ "java/lang/invoke/MethodHandle" ∧ y.cls ≠ "java/lang/invoke/VarHandle")
    {W9 : Nat} {Pre : Pt → Array Value → Prop} {Post : Pt → Array Value → Option Value → Pt → Prop} (hK : Back l R p e below s args y 3 W9 Pre Post)
    {b : Addr} {cellB : Cell} (hcell : T.heap[b]? = some cellB) (hobj : cellB.vm.isStatics = false) (hcls : s.vm.findClass C = some cellB.cls)
    {g : JFrame} (hg : g.method = m) (hsize : g.locals.size = c.maxLocals) {argsL rest : List Value} (hlen : ∀ sig, parseMethodDescriptor y.desc = some sig → argsL.length = sig.parameters.length)
    (hstack : g.stack = argsL.reverse ++ .ref b :: rest) (hW : 2 * g.monitorRoom + (rest.map fun v => v.category).sum ≤ W9) (hdg : decode c.code g.pc = .ok (.invokevirtual index, 3))
    (hpre : ∀ vm₁, s.WarmedH vm₁ → Pre ⟨T.setVm vm₁, locs, cells, slots⟩ (Value.ref b :: argsL).toArray) :
    ∃ (v : Option Value) (vm₁ : Vm) (B : Pt), s.WarmedH vm₁ ∧ Stand p l e R s m args below meth c B.U B.locs B.cells B.slots ∧ Post ⟨T.setVm vm₁, locs, cells, slots⟩ (Value.ref b :: argsL).toArray v B ∧
      ∀ target, Steps p.tables e below (B.U.setTop { g with pc := g.pc + 3, stack := v.toList ++ rest }) target → Steps p.tables e below (T.setTop g) target := by
  obtain ⟨mk, methM, hnamed, hmethM, hstM, habM⟩ := Cond.instanceMethod_spec hinst
  obtain ⟨m8, methM', cM, hn8, hmethM', -, -, -, -, -, -, hsigM⟩ := Cond.codeWith_spec hcode
  cases Option.some.inj (hn8.symm.trans hnamed)
  cases hmethM.symm.trans hmethM'
  obtain ⟨c2, r2, m2, q1, q2, q3, q4, kP, hkP, hkPi⟩ := Cond.selects_spec hsel
  cases hcls.symm.trans q1
  cases (State.methodFound?_of_named hnamed hy).symm.trans q2
  cases hnamed.symm.trans q3
  have hselP : selectMethod e.platform s.vm cellB.cls mk = .method mk := by rw [Launch.admits_selectMethod X.admits]; exact q4
  obtain ⟨vm₁, X₁, hstep₁⟩ := X.invokevirtual hexec hown hlink hnamed hmethM hstM hkP hkPi hy (a := b) (cell := cellB) hcell
    (fun z h => by rw [h] at hobj; cases hobj) hselP hmethM habM hkP hkPi (g := g) hg (argsL := argsL) (rest := rest) (hlen _ hsigM) hstack hdg
  obtain ⟨v, B, X', hpost, hsteps⟩ := hK m meth c ⟨T.setVm vm₁, locs, cells, slots⟩ { g with stack := rest } (.invokevirtual index) mk (Value.ref b :: argsL).toArray X₁ hg hsize hdg hW (X₁.named hnamed) (hpre vm₁ X₁.warmed)
  exact ⟨v, vm₁, B, X₁.warmed, X', hpost, fun target h => hstep₁ _ fun acts => by rw [doInvoke_state]; exact hsteps.trans h⟩
abbrev vx_CVW (R : Room) (s : State) (args : Array Value) (own C : String) (index : Nat) (y : MethodName) (bytes : ByteArray) (maxL : Nat) (ret : Option FieldType) (hh : List (Nat × Nat × Nat × Nat)) (ws : List Cond) (rm : Room) (mc ms n : Nat) : Prop :=
  (rm.cells = mc ∧ rm.slots = ms ∧ rm.frames + 1 ≤ R.frames ∧ 8 + (maxL + 11) + rm.locals ≤ R.locals ∧ (∀ w ∈ ws, ∀ (a' : Array Value) (U : State), s.WarmedH U.vm → w.before a' U = true) ∧ Cond.codeWith y bytes maxL ret hh ∈ ws) ∧
  (Cond.codeWith y bytes maxL ret hh).before args s = true ∧ (Cond.initialized y.cls).before args s = true ∧ (y.cls ≠ "java/lang/invoke/MethodHandle" ∧ y.cls ≠ "java/lang/invoke/VarHandle") ∧
  (∀ sig, parseMethodDescriptor y.desc = some sig → n = sig.parameters.length) ∧ (Cond.methodLink own index y).before args s = true ∧ (Cond.instanceMethod y).before args s = true ∧ (Cond.selects C y y).before args s = true
theorem vx_cwVW {own C : String} {index maxL mc ms : Nat} {y : MethodName} {bytes : ByteArray} {ret : Option FieldType} {hh : List (Nat × Nat × Nat × Nat)} {Ts ws ws' : List Cond} {rm : Room} (n : Nat) (ht : ∀ w ∈ Ts, w.before args s = true) (hT : GoodIn Ts (wsV own index C y ws)) (hw : ws = Cond.codeWith y bytes maxL ret hh :: ws') (hrc : rm.cells = mc) (hrs : rm.slots = ms)
    (hd : y.cls = C ∧ y.cls ≠ "java/lang/invoke/MethodHandle" ∧ y.cls ≠ "java/lang/invoke/VarHandle" ∧ (parseMethodDescriptor y.desc).map (fun d => d.parameters.length) = some n) (hR : rm.frames + 1 ≤ R.frames ∧ 8 + (maxL + 11) + rm.locals ≤ R.locals) :
    vx_CVW R s args own C index y bytes maxL ret hh ws rm mc ms n := by
  obtain ⟨hC, hd⟩ := hd
  subst hC
  have ok : ∀ w ∈ wsV own index y.cls y ws, w.before args s = true := fun w h => ht w (hT w h).1
  have hG : GoodIn Ts ws := fun w h => hT w (by unfold wsV; exact List.mem_append_right _ h)
  have hc : Cond.codeWith y bytes maxL ret hh ∈ ws := by rw [hw]; exact List.mem_cons_self
  refine ⟨⟨hrc, hrs, hR.1, hR.2, pay_in ht hG, hc⟩, ht _ (hG _ hc).1, ok _ (by simp [wsV]), ⟨hd.1, hd.2.1⟩, fun sig h => ?_, ok _ (by simp [wsV]), ok _ (by simp [wsV]), ok _ (by simp [wsV])⟩
  have h2 := hd.2.2
  rw [h] at h2
  exact (Option.some.inj h2).symm
theorem vx_runVW {y : MethodName} {bytes cc : ByteArray} {maxL nL mc ms n index : Nat} {ret : Option FieldType} {hh : List (Nat × Nat × Nat × Nat)} {ws : List Cond} {rm : Room} {Pc : Array Value → State → Prop} {Qc : Array Value → State → Outcome → State → Prop} {free : Addr → Prop} {Ts : List Cond} {own C : String} {b : Addr} {As rest : List Value} {g : JFrame}
    (S : CallFix p m c cc nL s args Ts own) (hM : Met l y ws rm Pc Qc mc ms free) (cw : vx_CVW R s args own C index y bytes maxL ret hh ws rm mc ms n) (hp : PreV s H C b Pc As)
    (hg : g.method = m) (hn : As.length = n) (hsize : g.locals.size = nL) (hstack : g.stack = As.reverse ++ .ref b :: rest) (hW : 2 * g.monitorRoom + (rest.map fun v => v.category).sum ≤ 8) (hdg : decode cc g.pc = .ok (.invokevirtual index, 3)) (hf : cells + mc ≤ R.cells ∧ slots + ms ≤ R.slots) :
    va_Run p l e R s m args below meth c H locs cells slots mc ms g rest (Qc (Value.ref b :: As).toArray) free := by
  obtain ⟨⟨hrc, hrs, hfr, hlo, hws, hcw⟩, hcode, hini, hy, hlen, hl, hin, hse⟩ := cw
  have hK : Back l R p e below s args y 3 8 (PreOf R mc ms Pc) (PostOf Qc mc ms free) := va_backW (hh := hh) (bytes := bytes) (maxL := maxL) (ret := ret) hM hp.1 hrc hrs hfr hlo hws hcw (fun a' U hW => word_at hW (Or.inl (by first | rfl | simp [Cond.onTables, Cond.keeps, Cond.steady])) hini)
  obtain ⟨hx, hb, hml, ho, -⟩ := S
  obtain ⟨-, ⟨cellB, hcB, hoB, hclB⟩, hPc⟩ := hp
  intro T hT X
  obtain ⟨v, vm₁, ⟨U', l2, c2, s2⟩, hW₁, X', ⟨g', mk, t, L, e1, e2, hq, h1, hL, h2, h3⟩, st⟩ := vx_callVW X hx (C := C) (hh := hh) (bytes := bytes) (maxL := maxL) (ret := ret) ho hl hin hse hcode hy hK (by rw [hT]; exact hcB) hoB hclB hg (hsize.trans hml.symm) (argsL := As) (rest := rest) (fun sig h => hn.trans (hlen sig h)) hstack hW (by rw [hb]; exact hdg)
    (fun vm₁ hW₁ => ⟨hf.1, hf.2, hPc (T.setVm vm₁) hT hW₁⟩)
  dsimp only [Pt.U, Pt.locs, Pt.cells, Pt.slots] at X' e1 e2 h1 h2 h3 st
  subst h1; subst h2; subst h3
  exact ⟨v, (T.setVm vm₁).calling g' mk (Value.ref b :: As).toArray, t, U', L, hT, X', hL, e1, e2, hq, st⟩
section
variable {y : MethodName} {bytes cc : ByteArray} {maxL nL mc ms n index : Nat} {ret : Option FieldType} {ws : List Cond} {rm : Room} {Pc : Array Value → State → Prop} {Qc : Array Value → State → Outcome → State → Prop} {XC : String → State → State → Prop} {free : Addr → Prop} {Ts : List Cond} {own C : String} {b : Addr} {As rest : List Value} {g : JFrame}
theorem vx_runVX {hh : List (Nat × Nat × Nat × Nat)} (S : CallFix p m c cc nL s args Ts own) (hM : vx_Met l y ws rm Pc Qc XC mc ms free) (cw : vx_CVW R s args own C index y bytes maxL ret hh ws rm mc ms n) (hp : PreV s H C b Pc As)
    (hg : g.method = m) (hn : As.length = n) (hsize : g.locals.size = nL) (hstack : g.stack = As.reverse ++ .ref b :: rest) (hW : 2 * g.monitorRoom + (rest.map fun v => v.category).sum ≤ 8) (hdg : decode cc g.pc = .ok (.invokevirtual index, 3)) (hf : cells + mc ≤ R.cells ∧ slots + ms ≤ R.slots) :
    vx_Run p l e R s m args below meth c H locs cells slots mc ms g rest (Qc (Value.ref b :: As).toArray) XC free := by
  obtain ⟨⟨hrc, hrs, hfr, hlo, hws, hcw⟩, hcode, hini, hy, hlen, hl, hin, hse⟩ := cw
  have hK : vx_Back l R p e below s args y 3 8 (PreOf R mc ms Pc) (PostOf Qc mc ms free) (vx_Post XC mc ms free) := vx_backW (hh := hh) (bytes := bytes) (maxL := maxL) (ret := ret) hM hp.1 hrc hrs hfr hlo hws hcw (fun a' U hW => word_at hW (Or.inl (by first | rfl | simp [Cond.onTables, Cond.keeps, Cond.steady])) hini)
  obtain ⟨hx, hb, hml, ho, -⟩ := S
  obtain ⟨-, ⟨cellB, hcB, hoB, hclB⟩, hPc⟩ := hp
  intro T hT X
  rcases vx_callVX X hx (C := C) (hh := hh) (bytes := bytes) (maxL := maxL) (ret := ret) ho hl hin hse hcode hy hK (by rw [hT]; exact hcB) hoB hclB hg (hsize.trans hml.symm) (argsL := As) (rest := rest) (fun sig h => hn.trans (hlen sig h)) hstack hW (by rw [hb]; exact hdg)
    (fun vm₁ hW₁ => ⟨hf.1, hf.2, hPc (T.setVm vm₁) hT hW₁⟩) with ⟨v, vm₁, ⟨U', l2, c2, s2⟩, hW₁, X', ⟨g', mk, t, L, e1, e2, hq, h1, hL, h2, h3⟩, st⟩ | ⟨q, vm₁, ⟨U', l2, c2, s2⟩, hW₁, X', ⟨g', mk, t, L, E, ce, e1, e2, hq, hce, hcv, hcl, h1, hL, h2, h3⟩, st⟩
  · dsimp only [Pt.U, Pt.locs, Pt.cells, Pt.slots] at X' e1 e2 h1 h2 h3 st
    subst h1; subst h2; subst h3
    exact Or.inl ⟨v, (T.setVm vm₁).calling g' mk (Value.ref b :: As).toArray, t, U', L, hT, X', hL, e1, e2, hq, st⟩
  · dsimp only [Pt.U, Pt.locs, Pt.cells, Pt.slots] at X' e1 e2 h1 h2 h3 st hcl
    subst h1; subst h2; subst h3
    exact Or.inr ⟨q, (T.setVm vm₁).calling g' mk (Value.ref b :: As).toArray, t, U', L, E, ce, hT, X', hL, e1, e2, hq, hce, hcv, vx_cls hW₁ hcl, st⟩
theorem vx_runSX {hh : List (Nat × Nat × Nat × Nat)} (S : CallFix p m c cc nL s args Ts own) (hM : vx_Met l y ws rm Pc Qc XC mc ms free) (cw : vx_CSW R s args own index y bytes maxL ret hh ws rm mc ms n) (hp : PreS s H Pc As)
    (hg : g.method = m) (hn : As.length = n) (hsize : g.locals.size = nL) (hstack : g.stack = As.reverse ++ rest) (hW : 2 * g.monitorRoom + (rest.map fun v => v.category).sum ≤ 8) (hdg : decode cc g.pc = .ok (.invokestatic index, 3)) (hf : cells + mc ≤ R.cells ∧ slots + ms ≤ R.slots) :
    vx_Run p l e R s m args below meth c H locs cells slots mc ms g rest (Qc As.toArray) XC free := by
  obtain ⟨⟨hrc, hrs, hfr, hlo, hws, hcw⟩, hcode, hini, hy, hlen, hl, hstt⟩ := cw
  have hK : vx_Back l R p e below s args y 3 8 (PreOf R mc ms Pc) (PostOf Qc mc ms free) (vx_Post XC mc ms free) := vx_backW (hh := hh) (bytes := bytes) (maxL := maxL) (ret := ret) hM hp.1 hrc hrs hfr hlo hws hcw (fun a' U hW => word_at hW (Or.inl (by first | rfl | simp [Cond.onTables, Cond.keeps, Cond.steady])) hini)
  obtain ⟨hx, hb, hml, ho, -⟩ := S
  intro T hT X
  rcases vx_callSX X hx (hh := hh) (bytes := bytes) (maxL := maxL) (ret := ret) ho hl hstt hini hcode hy hK hg (hsize.trans hml.symm) (argsL := As) (rest := rest) (fun sig h => hn.trans (hlen sig h)) hstack hW (by rw [hb]; exact hdg)
    (fun vm₁ hW₁ => ⟨hf.1, hf.2, hp.2 (T.setVm vm₁) hT hW₁⟩) with ⟨v, vm₁, ⟨U', l2, c2, s2⟩, hW₁, X', ⟨g', mk, t, L, e1, e2, hq, h1, hL, h2, h3⟩, st⟩ | ⟨q, vm₁, ⟨U', l2, c2, s2⟩, hW₁, X', ⟨g', mk, t, L, E, ce, e1, e2, hq, hce, hcv, hcl, h1, hL, h2, h3⟩, st⟩
  · dsimp only [Pt.U, Pt.locs, Pt.cells, Pt.slots] at X' e1 e2 h1 h2 h3 st
    subst h1; subst h2; subst h3
    exact Or.inl ⟨v, (T.setVm vm₁).calling g' mk As.toArray, t, U', L, hT, X', hL, e1, e2, hq, st⟩
  · dsimp only [Pt.U, Pt.locs, Pt.cells, Pt.slots] at X' e1 e2 h1 h2 h3 st hcl
    subst h1; subst h2; subst h3
    exact Or.inr ⟨q, (T.setVm vm₁).calling g' mk As.toArray, t, U', L, E, ce, hT, X', hL, e1, e2, hq, hce, hcv, vx_cls hW₁ hcl, st⟩
end
end VXH
theorem vx_ofWH {l : Launch} {y : MethodName} {ws ws' : List Cond} {rm : Room} {Pc : Array Value → State → Prop} {Qc : Array Value → State → Outcome → State → Prop} {XC : String → State → State → Prop} {mc ms : Nat} {free : Addr → Prop} {cc : ByteArray} {maxL : Nat} {ret : Option FieldType} {hh : List (Nat × Nat × Nat × Nat)}
    (hy : plainName y.cls = true) (hw : ws = Cond.codeWith y cc maxL ret hh :: ws')
    (body : ∀ p e s m args below meth c s₁, BodyLoose p l y (headSpec ws rm) cc maxL ret e s m args below meth c s₁ → c.maxLocals = maxL → Pc args s →
      W p l e (headSpec ws rm).room s m args below meth c s.heap [] 0 0 (vx_MQ below Qc XC args s mc ms free) (entryFrame m args maxL)) : vx_Met l y ws rm Pc Qc XC mc ms free := by
  refine MetFree.of_bodyS (code := cc) (maxLocals := maxL) (ret := ret) hy ?_ ?_
  · intro args s m h hn
    obtain ⟨m9, meth, c, hn9, h1, h2, h3, h4, -, h5, h6, -⟩ := Cond.codeWith_spec (atoms_spec (ws := ws) h _ (by rw [hw]; exact List.mem_cons_self))
    cases hn.symm.trans hn9
    exact ⟨meth, c, h1, h2, h3, h4, h5, h6⟩
  · intro p e s m args below meth c s₁ B hml hP _
    have hh0 : s₁.heap = s.heap := by rw [B.state]; rfl
    obtain ⟨t, a1, o, b1, b2, b3⟩ := body p e s m args below meth c s₁ B hml hP s₁ hh0 (Stand.of_body B)
    exact ⟨t, o, a1, b1, b2, b3⟩
/-! ===== END ===== -/
end
section
def RX0 : String := "PledgeHouse$Ledger"
def TX0 : u_T := fun k => match k with
  | 0 => ("PledgeHouse$Ledger", "prices", "[I", true)
  | 1 => ("PledgeHouse$Ledger", "cuts", "[I", true)
  | 2 => ("PledgeHouse$Ledger", "soldPieces", "[I", true)
  | 3 => ("PledgeHouse$Ledger", "pieces", "[I", true)
  | 4 => ("PledgeHouse$Ledger", "coins", "[I", true)
  | 5 => ("PledgeHouse$Ledger", "debts", "[I", true)
  | 6 => ("PledgeHouse$Ledger", "callHours", "[I", true)
  | 7 => ("PledgeHouse$Ledger", "barred", "[Z", true)
  | 8 => ("PledgeHouse$Ledger", "interestRate", "I", false)
  | 9 => ("PledgeHouse$Ledger", "graceHours", "I", false)
  | 10 => ("PledgeHouse$Ledger", "slipPercent", "I", false)
  | 11 => ("PledgeHouse$Ledger", "salesOrder", "I", false)
  | 12 => ("PledgeHouse$Ledger", "passedHours", "I", false)
  | 13 => ("PledgeHouse$Ledger", "lentCoins", "I", false)
  | 14 => ("PledgeHouse$Ledger", "interestCoins", "I", false)
  | 15 => ("PledgeHouse$Ledger", "repaidCoins", "I", false)
  | 16 => ("PledgeHouse$Ledger", "lostCoins", "I", false)
  | 17 => ("PledgeHouse$Ledger", "callCount", "I", false)
  | _ => ("PledgeHouse$Ledger", "soldOutCount", "I", false)
def tyX0 : Nat → FieldType := fun k => match k with
  | 0 => .array .int
  | 1 => .array .int
  | 2 => .array .int
  | 3 => .array .int
  | 4 => .array .int
  | 5 => .array .int
  | 6 => .array .int
  | 7 => .array .boolean
  | 8 => .int
  | 9 => .int
  | 10 => .int
  | 11 => .int
  | 12 => .int
  | 13 => .int
  | 14 => .int
  | 15 => .int
  | 16 => .int
  | 17 => .int
  | _ => .int
abbrev wsX00 : List Cond := u_ws RX0 TX0 19
theorem nmX0 : ∀ a, a < 19 → ∀ b, b < 19 → a ≠ b → (TX0 a).2.1 ≠ (TX0 b).2.1 := by decide +kernel
theorem tyX0_ok : ∀ k, k < 19 → parseFieldDescriptor (TX0 k).2.2.1 = some (tyX0 k) := by decide +kernel
abbrev cX0_init : ByteArray := prog_2_method_1_code
def yX0_init : MethodName := ⟨RX0, "<init>", "()V"⟩
abbrev cX0_copyFrom : ByteArray := prog_2_method_2_code
def yX0_copyFrom : MethodName := ⟨RX0, "copyFrom", "(LPledgeHouse$Ledger;)V"⟩
abbrev cX0_worth : ByteArray := prog_2_method_3_code
def yX0_worth : MethodName := ⟨RX0, "worth", "(I)I"⟩
abbrev cX0_cover : ByteArray := prog_2_method_4_code
def yX0_cover : MethodName := ⟨RX0, "cover", "(I)I"⟩
abbrev cX0_coverAfterFall : ByteArray := prog_2_method_5_code
def yX0_coverAfterFall : MethodName := ⟨RX0, "coverAfterFall", "(III)I"⟩
abbrev cX0_staysCovered : ByteArray := prog_2_method_6_code
def yX0_staysCovered : MethodName := ⟨RX0, "staysCovered", "(III)Z"⟩
abbrev cX0_openRoom : ByteArray := prog_2_method_7_code
def yX0_openRoom : MethodName := ⟨RX0, "openRoom", "(I)I"⟩
abbrev cX0_interestOn : ByteArray := prog_2_method_8_code
def yX0_interestOn : MethodName := ⟨RX0, "interestOn", "(I)I"⟩
abbrev cX0_piecesOfAll : ByteArray := prog_2_method_9_code
def yX0_piecesOfAll : MethodName := ⟨RX0, "piecesOfAll", "(I)I"⟩
abbrev cX0_debtsOfAll : ByteArray := prog_2_method_10_code
def yX0_debtsOfAll : MethodName := ⟨RX0, "debtsOfAll", "()I"⟩
abbrev cX0_coverOfAll : ByteArray := prog_2_method_11_code
def yX0_coverOfAll : MethodName := ⟨RX0, "coverOfAll", "()I"⟩
abbrev cX0_countCalled : ByteArray := prog_2_method_12_code
def yX0_countCalled : MethodName := ⟨RX0, "countCalled", "()I"⟩
abbrev cX0_countUncoveredAfterFall : ByteArray := prog_2_method_13_code
def yX0_countUncoveredAfterFall : MethodName := ⟨RX0, "countUncoveredAfterFall", "(I)I"⟩
abbrev cX0_callingFallByTrying : ByteArray := prog_2_method_14_code
def yX0_callingFallByTrying : MethodName := ⟨RX0, "callingFallByTrying", "(I)I"⟩
abbrev cX0_callingFallByHalving : ByteArray := prog_2_method_15_code
def yX0_callingFallByHalving : MethodName := ⟨RX0, "callingFallByHalving", "(I)I"⟩
abbrev cX0_hoursUntilCall : ByteArray := prog_2_method_16_code
def yX0_hoursUntilCall : MethodName := ⟨RX0, "hoursUntilCall", "(I)I"⟩
abbrev cX0_isRiskier : ByteArray := prog_2_method_17_code
def yX0_isRiskier : MethodName := ⟨RX0, "isRiskier", "(II)Z"⟩
abbrev cX0_riskPlace : ByteArray := prog_2_method_18_code
def yX0_riskPlace : MethodName := ⟨RX0, "riskPlace", "(I)I"⟩
abbrev cX0_sortByRisk : ByteArray := prog_2_method_19_code
def yX0_sortByRisk : MethodName := ⟨RX0, "sortByRisk", "([I)V"⟩
abbrev cX0_takeRiskiest : ByteArray := prog_2_method_20_code
def yX0_takeRiskiest : MethodName := ⟨RX0, "takeRiskiest", "(I)I"⟩
abbrev cX0_riskiestBut : ByteArray := prog_2_method_21_code
def yX0_riskiestBut : MethodName := ⟨RX0, "riskiestBut", "(I)I"⟩
abbrev cX0_lookAtClients : ByteArray := prog_2_method_22_code
def yX0_lookAtClients : MethodName := ⟨RX0, "lookAtClients", "()I"⟩
abbrev cX0_putPrice : ByteArray := prog_2_method_23_code
def yX0_putPrice : MethodName := ⟨RX0, "putPrice", "(II)I"⟩
abbrev cX0_putCut : ByteArray := prog_2_method_24_code
def yX0_putCut : MethodName := ⟨RX0, "putCut", "(II)I"⟩
abbrev cX0_dropPrices : ByteArray := prog_2_method_25_code
def yX0_dropPrices : MethodName := ⟨RX0, "dropPrices", "(I)I"⟩
abbrev cX0_addPieces : ByteArray := prog_2_method_26_code
def yX0_addPieces : MethodName := ⟨RX0, "addPieces", "(III)Z"⟩
abbrev cX0_takePieces : ByteArray := prog_2_method_27_code
def yX0_takePieces : MethodName := ⟨RX0, "takePieces", "(III)Z"⟩
abbrev cX0_addCoins : ByteArray := prog_2_method_28_code
def yX0_addCoins : MethodName := ⟨RX0, "addCoins", "(II)Z"⟩
abbrev cX0_takeCoins : ByteArray := prog_2_method_29_code
def yX0_takeCoins : MethodName := ⟨RX0, "takeCoins", "(II)Z"⟩
abbrev cX0_addDebt : ByteArray := prog_2_method_30_code
def yX0_addDebt : MethodName := ⟨RX0, "addDebt", "(II)Z"⟩
abbrev cX0_takeDebt : ByteArray := prog_2_method_31_code
def yX0_takeDebt : MethodName := ⟨RX0, "takeDebt", "(II)I"⟩
abbrev cX0_liftBar : ByteArray := prog_2_method_32_code
def yX0_liftBar : MethodName := ⟨RX0, "liftBar", "(I)Z"⟩
abbrev cX0_passHours : ByteArray := prog_2_method_33_code
def yX0_passHours : MethodName := ⟨RX0, "passHours", "(ILPledgeHouse$Sale;)I"⟩
abbrev cX0_calledAsBits : ByteArray := prog_2_method_34_code
def yX0_calledAsBits : MethodName := ⟨RX0, "calledAsBits", "()I"⟩
abbrev cX0_addInterest : ByteArray := prog_2_method_35_code
def yX0_addInterest : MethodName := ⟨RX0, "addInterest", "()V"⟩
abbrev cX0_countDown : ByteArray := prog_2_method_36_code
def yX0_countDown : MethodName := ⟨RX0, "countDown", "(ILPledgeHouse$Sale;)V"⟩
abbrev cX0_enterSale : ByteArray := prog_2_method_37_code
def yX0_enterSale : MethodName := ⟨RX0, "enterSale", "(LPledgeHouse$Sale;I)V"⟩
def RX1 : String := "PledgeHouse$OrderText"
def TX1 : u_T := fun k => match k with
  | 0 => ("PledgeHouse$OrderText", "codes", "[I", true)
  | 1 => ("PledgeHouse$OrderText", "length", "I", false)
  | 2 => ("PledgeHouse$OrderText", "letter", "I", false)
  | 3 => ("PledgeHouse$OrderText", "step", "I", false)
  | 4 => ("PledgeHouse$OrderText", "client", "I", false)
  | 5 => ("PledgeHouse$OrderText", "kind", "I", false)
  | 6 => ("PledgeHouse$OrderText", "number", "I", false)
  | _ => ("PledgeHouse$OrderText", "digits", "I", false)
def tyX1 : Nat → FieldType := fun k => match k with
  | 0 => .array .int
  | 1 => .int
  | 2 => .int
  | 3 => .int
  | 4 => .int
  | 5 => .int
  | 6 => .int
  | _ => .int
abbrev wsX10 : List Cond := u_ws RX1 TX1 8
theorem nmX1 : ∀ a, a < 8 → ∀ b, b < 8 → a ≠ b → (TX1 a).2.1 ≠ (TX1 b).2.1 := by decide +kernel
theorem tyX1_ok : ∀ k, k < 8 → parseFieldDescriptor (TX1 k).2.2.1 = some (tyX1 k) := by decide +kernel
abbrev cX1_init : ByteArray := prog_3_method_1_code
def yX1_init : MethodName := ⟨RX1, "<init>", "()V"⟩
abbrev cX1_startPart : ByteArray := prog_3_method_2_code
def yX1_startPart : MethodName := ⟨RX1, "startPart", "()V"⟩
abbrev cX1_findError : ByteArray := prog_3_method_3_code
def yX1_findError : MethodName := ⟨RX1, "findError", "()I"⟩
abbrev cX1_tellsOrders : ByteArray := prog_3_method_4_code
def yX1_tellsOrders : MethodName := ⟨RX1, "tellsOrders", "()Z"⟩
abbrev cX1_isWholePart : ByteArray := prog_3_method_5_code
def yX1_isWholePart : MethodName := ⟨RX1, "isWholePart", "()Z"⟩
abbrev cX1_endsPart : ByteArray := prog_3_method_6_code
def yX1_endsPart : MethodName := ⟨RX1, "endsPart", "(I)Z"⟩
abbrev cX1_take : ByteArray := prog_3_method_7_code
def yX1_take : MethodName := ⟨RX1, "take", "(I)Z"⟩
abbrev cX1_takeInside : ByteArray := prog_3_method_8_code
def yX1_takeInside : MethodName := ⟨RX1, "takeInside", "(I)Z"⟩
abbrev cX1_takeDigit : ByteArray := prog_3_method_9_code
def yX1_takeDigit : MethodName := ⟨RX1, "takeDigit", "(I)Z"⟩
abbrev cX1_shapeOf : ByteArray := prog_3_method_10_code
def yX1_shapeOf : MethodName := ⟨RX1, "shapeOf", "(I)Ljava/lang/String;"⟩
abbrev cX1_leastNumber : ByteArray := prog_3_method_11_code
def yX1_leastNumber : MethodName := ⟨RX1, "leastNumber", "()I"⟩
abbrev cX1_mostNumber : ByteArray := prog_3_method_12_code
def yX1_mostNumber : MethodName := ⟨RX1, "mostNumber", "()I"⟩
def RX2 : String := "PledgeHouse$Sale"
def TX2 : u_T := fun k => match k with
  | 0 => ("PledgeHouse$Sale", "piecesLeft", "[I", true)
  | 1 => ("PledgeHouse$Sale", "keys", "[I", true)
  | 2 => ("PledgeHouse$Sale", "coinsLeft", "I", false)
  | 3 => ("PledgeHouse$Sale", "debtLeft", "I", false)
  | 4 => ("PledgeHouse$Sale", "coverLeft", "I", false)
  | 5 => ("PledgeHouse$Sale", "piecesSold", "I", false)
  | 6 => ("PledgeHouse$Sale", "coinsPaid", "I", false)
  | _ => ("PledgeHouse$Sale", "coinsLost", "I", false)
def tyX2 : Nat → FieldType := fun k => match k with
  | 0 => .array .int
  | 1 => .array .int
  | 2 => .int
  | 3 => .int
  | 4 => .int
  | 5 => .int
  | 6 => .int
  | _ => .int
abbrev wsX20 : List Cond := u_ws RX2 TX2 8
theorem nmX2 : ∀ a, a < 8 → ∀ b, b < 8 → a ≠ b → (TX2 a).2.1 ≠ (TX2 b).2.1 := by decide +kernel
theorem tyX2_ok : ∀ k, k < 8 → parseFieldDescriptor (TX2 k).2.2.1 = some (tyX2 k) := by decide +kernel
abbrev cX2_init : ByteArray := prog_4_method_1_code
def yX2_init : MethodName := ⟨RX2, "<init>", "()V"⟩
abbrev cX2_reckon : ByteArray := prog_4_method_2_code
def yX2_reckon : MethodName := ⟨RX2, "reckon", "(LPledgeHouse$Ledger;I)V"⟩
abbrev cX2_layOutPieces : ByteArray := prog_4_method_3_code
def yX2_layOutPieces : MethodName := ⟨RX2, "layOutPieces", "(LPledgeHouse$Ledger;I)I"⟩
abbrev cX2_keyOf : ByteArray := prog_4_method_4_code
def yX2_keyOf : MethodName := ⟨RX2, "keyOf", "(LPledgeHouse$Ledger;I)I"⟩
abbrev cX2_coverOfOne : ByteArray := prog_4_method_5_code
def yX2_coverOfOne : MethodName := ⟨RX2, "coverOfOne", "(LPledgeHouse$Ledger;I)I"⟩
abbrev cX2_isCovered : ByteArray := prog_4_method_6_code
def yX2_isCovered : MethodName := ⟨RX2, "isCovered", "()Z"⟩
abbrev cX2_payFromCoins : ByteArray := prog_4_method_7_code
def yX2_payFromCoins : MethodName := ⟨RX2, "payFromCoins", "()V"⟩
abbrev cX2_sellOne : ByteArray := prog_4_method_8_code
def yX2_sellOne : MethodName := ⟨RX2, "sellOne", "(LPledgeHouse$Ledger;)V"⟩
abbrev cX2_firstKind : ByteArray := prog_4_method_9_code
def yX2_firstKind : MethodName := ⟨RX2, "firstKind", "()I"⟩
abbrev cX2_payWith : ByteArray := prog_4_method_10_code
def yX2_payWith : MethodName := ⟨RX2, "payWith", "(I)V"⟩
def RX3 : String := "PledgeHouse"
def TX3 : u_T := fun k => match k with
  | 0 => ("PledgeHouse", "text", "LPledgeHouse$OrderText;", true)
  | 1 => ("PledgeHouse", "sale", "LPledgeHouse$Sale;", true)
  | 2 => ("PledgeHouse", "riskRow", "[I", true)
  | 3 => ("PledgeHouse", "slots", "[LPledgeHouse$Ledger;", true)
  | 4 => ("PledgeHouse", "slotFilled", "[Z", true)
  | 5 => ("PledgeHouse", "saved", "[LPledgeHouse$Ledger;", true)
  | 6 => ("PledgeHouse", "savedCount", "I", false)
  | 7 => ("PledgeHouse", "now", "LPledgeHouse$Ledger;", false)
  | _ => ("PledgeHouse", "before", "LPledgeHouse$Ledger;", false)
def tyX3 : Nat → FieldType := fun k => match k with
  | 0 => .object "PledgeHouse$OrderText"
  | 1 => .object "PledgeHouse$Sale"
  | 2 => .array .int
  | 3 => .array (.object "PledgeHouse$Ledger")
  | 4 => .array .boolean
  | 5 => .array (.object "PledgeHouse$Ledger")
  | 6 => .int
  | 7 => .object "PledgeHouse$Ledger"
  | _ => .object "PledgeHouse$Ledger"
abbrev wsX30 : List Cond := u_ws RX3 TX3 9
theorem nmX3 : ∀ a, a < 9 → ∀ b, b < 9 → a ≠ b → (TX3 a).2.1 ≠ (TX3 b).2.1 := by decide +kernel
theorem tyX3_ok : ∀ k, k < 9 → parseFieldDescriptor (TX3 k).2.2.1 = some (tyX3 k) := by decide +kernel
abbrev cX3_init : ByteArray := prog_1_method_1_code
def yX3_init : MethodName := ⟨RX3, "<init>", "()V"⟩
abbrev cX3_setPrice : ByteArray := prog_1_method_2_code
def yX3_setPrice : MethodName := ⟨RX3, "setPrice", "(II)I"⟩
abbrev cX3_setCut : ByteArray := prog_1_method_3_code
def yX3_setCut : MethodName := ⟨RX3, "setCut", "(II)I"⟩
abbrev cX3_fall : ByteArray := prog_1_method_4_code
def yX3_fall : MethodName := ⟨RX3, "fall", "(I)I"⟩
abbrev cX3_pledge : ByteArray := prog_1_method_5_code
def yX3_pledge : MethodName := ⟨RX3, "pledge", "(III)I"⟩
abbrev cX3_release : ByteArray := prog_1_method_6_code
def yX3_release : MethodName := ⟨RX3, "release", "(III)I"⟩
abbrev cX3_deposit : ByteArray := prog_1_method_7_code
def yX3_deposit : MethodName := ⟨RX3, "deposit", "(II)I"⟩
abbrev cX3_withdraw : ByteArray := prog_1_method_8_code
def yX3_withdraw : MethodName := ⟨RX3, "withdraw", "(II)I"⟩
abbrev cX3_lend : ByteArray := prog_1_method_9_code
def yX3_lend : MethodName := ⟨RX3, "lend", "(II)I"⟩
abbrev cX3_payBack : ByteArray := prog_1_method_10_code
def yX3_payBack : MethodName := ⟨RX3, "payBack", "(II)I"⟩
abbrev cX3_readmit : ByteArray := prog_1_method_11_code
def yX3_readmit : MethodName := ⟨RX3, "readmit", "(I)V"⟩
abbrev cX3_pass : ByteArray := prog_1_method_12_code
def yX3_pass : MethodName := ⟨RX3, "pass", "(I)I"⟩
abbrev cX3_changeRate : ByteArray := prog_1_method_13_code
def yX3_changeRate : MethodName := ⟨RX3, "changeRate", "(I)I"⟩
abbrev cX3_changeGrace : ByteArray := prog_1_method_14_code
def yX3_changeGrace : MethodName := ⟨RX3, "changeGrace", "(I)I"⟩
abbrev cX3_changeSlip : ByteArray := prog_1_method_15_code
def yX3_changeSlip : MethodName := ⟨RX3, "changeSlip", "(I)I"⟩
abbrev cX3_turnOrder : ByteArray := prog_1_method_16_code
def yX3_turnOrder : MethodName := ⟨RX3, "turnOrder", "()I"⟩
abbrev cX3_append : ByteArray := prog_1_method_17_code
def yX3_append : MethodName := ⟨RX3, "append", "(I)I"⟩
abbrev cX3_clearBuffer : ByteArray := prog_1_method_18_code
def yX3_clearBuffer : MethodName := ⟨RX3, "clearBuffer", "()I"⟩
abbrev cX3_firstError : ByteArray := prog_1_method_19_code
def yX3_firstError : MethodName := ⟨RX3, "firstError", "()I"⟩
abbrev cX3_follow : ByteArray := prog_1_method_20_code
def yX3_follow : MethodName := ⟨RX3, "follow", "()I"⟩
abbrev cX3_keep : ByteArray := prog_1_method_21_code
def yX3_keep : MethodName := ⟨RX3, "keep", "(I)V"⟩
abbrev cX3_goBack : ByteArray := prog_1_method_22_code
def yX3_goBack : MethodName := ⟨RX3, "goBack", "(I)V"⟩
abbrev cX3_undo : ByteArray := prog_1_method_23_code
def yX3_undo : MethodName := ⟨RX3, "undo", "()V"⟩
abbrev cX3_savedStates : ByteArray := prog_1_method_24_code
def yX3_savedStates : MethodName := ⟨RX3, "savedStates", "()I"⟩
abbrev cX3_priceOf : ByteArray := prog_1_method_25_code
def yX3_priceOf : MethodName := ⟨RX3, "priceOf", "(I)I"⟩
abbrev cX3_cutOf : ByteArray := prog_1_method_26_code
def yX3_cutOf : MethodName := ⟨RX3, "cutOf", "(I)I"⟩
abbrev cX3_pledgedOf : ByteArray := prog_1_method_27_code
def yX3_pledgedOf : MethodName := ⟨RX3, "pledgedOf", "(I)I"⟩
abbrev cX3_soldOf : ByteArray := prog_1_method_28_code
def yX3_soldOf : MethodName := ⟨RX3, "soldOf", "(I)I"⟩
abbrev cX3_piecesOf : ByteArray := prog_1_method_29_code
def yX3_piecesOf : MethodName := ⟨RX3, "piecesOf", "(II)I"⟩
abbrev cX3_coinsOf : ByteArray := prog_1_method_30_code
def yX3_coinsOf : MethodName := ⟨RX3, "coinsOf", "(I)I"⟩
abbrev cX3_debtOf : ByteArray := prog_1_method_31_code
def yX3_debtOf : MethodName := ⟨RX3, "debtOf", "(I)I"⟩
abbrev cX3_worthOf : ByteArray := prog_1_method_32_code
def yX3_worthOf : MethodName := ⟨RX3, "worthOf", "(I)I"⟩
abbrev cX3_coverOf : ByteArray := prog_1_method_33_code
def yX3_coverOf : MethodName := ⟨RX3, "coverOf", "(I)I"⟩
abbrev cX3_roomOf : ByteArray := prog_1_method_34_code
def yX3_roomOf : MethodName := ⟨RX3, "roomOf", "(I)I"⟩
abbrev cX3_isCalled : ByteArray := prog_1_method_35_code
def yX3_isCalled : MethodName := ⟨RX3, "isCalled", "(I)Z"⟩
abbrev cX3_hoursLeft : ByteArray := prog_1_method_36_code
def yX3_hoursLeft : MethodName := ⟨RX3, "hoursLeft", "(I)I"⟩
abbrev cX3_isBarred : ByteArray := prog_1_method_37_code
def yX3_isBarred : MethodName := ⟨RX3, "isBarred", "(I)Z"⟩
abbrev cX3_rankOf : ByteArray := prog_1_method_38_code
def yX3_rankOf : MethodName := ⟨RX3, "rankOf", "(I)I"⟩
abbrev cX3_riskyBySorting : ByteArray := prog_1_method_39_code
def yX3_riskyBySorting : MethodName := ⟨RX3, "riskyBySorting", "(I)I"⟩
abbrev cX3_riskyByTaking : ByteArray := prog_1_method_40_code
def yX3_riskyByTaking : MethodName := ⟨RX3, "riskyByTaking", "(I)I"⟩
abbrev cX3_calledNow : ByteArray := prog_1_method_41_code
def yX3_calledNow : MethodName := ⟨RX3, "calledNow", "()I"⟩
abbrev cX3_rate : ByteArray := prog_1_method_42_code
def yX3_rate : MethodName := ⟨RX3, "rate", "()I"⟩
abbrev cX3_grace : ByteArray := prog_1_method_43_code
def yX3_grace : MethodName := ⟨RX3, "grace", "()I"⟩
abbrev cX3_slip : ByteArray := prog_1_method_44_code
def yX3_slip : MethodName := ⟨RX3, "slip", "()I"⟩
abbrev cX3_order : ByteArray := prog_1_method_45_code
def yX3_order : MethodName := ⟨RX3, "order", "()I"⟩
abbrev cX3_fallToCallByTrying : ByteArray := prog_1_method_46_code
def yX3_fallToCallByTrying : MethodName := ⟨RX3, "fallToCallByTrying", "(I)I"⟩
abbrev cX3_fallToCallByHalving : ByteArray := prog_1_method_47_code
def yX3_fallToCallByHalving : MethodName := ⟨RX3, "fallToCallByHalving", "(I)I"⟩
abbrev cX3_hoursToCall : ByteArray := prog_1_method_48_code
def yX3_hoursToCall : MethodName := ⟨RX3, "hoursToCall", "(I)I"⟩
abbrev cX3_wouldSell : ByteArray := prog_1_method_49_code
def yX3_wouldSell : MethodName := ⟨RX3, "wouldSell", "(I)I"⟩
abbrev cX3_wouldLose : ByteArray := prog_1_method_50_code
def yX3_wouldLose : MethodName := ⟨RX3, "wouldLose", "(I)I"⟩
abbrev cX3_calledIfFallen : ByteArray := prog_1_method_51_code
def yX3_calledIfFallen : MethodName := ⟨RX3, "calledIfFallen", "(I)I"⟩
abbrev cX3_hours : ByteArray := prog_1_method_52_code
def yX3_hours : MethodName := ⟨RX3, "hours", "()I"⟩
abbrev cX3_debtsByClients : ByteArray := prog_1_method_53_code
def yX3_debtsByClients : MethodName := ⟨RX3, "debtsByClients", "()I"⟩
abbrev cX3_debtsByAccount : ByteArray := prog_1_method_54_code
def yX3_debtsByAccount : MethodName := ⟨RX3, "debtsByAccount", "()I"⟩
abbrev cX3_lent : ByteArray := prog_1_method_55_code
def yX3_lent : MethodName := ⟨RX3, "lent", "()I"⟩
abbrev cX3_interest : ByteArray := prog_1_method_56_code
def yX3_interest : MethodName := ⟨RX3, "interest", "()I"⟩
abbrev cX3_repaid : ByteArray := prog_1_method_57_code
def yX3_repaid : MethodName := ⟨RX3, "repaid", "()I"⟩
abbrev cX3_lost : ByteArray := prog_1_method_58_code
def yX3_lost : MethodName := ⟨RX3, "lost", "()I"⟩
abbrev cX3_calls : ByteArray := prog_1_method_59_code
def yX3_calls : MethodName := ⟨RX3, "calls", "()I"⟩
abbrev cX3_soldOut : ByteArray := prog_1_method_60_code
def yX3_soldOut : MethodName := ⟨RX3, "soldOut", "()I"⟩
abbrev cX3_usedShare : ByteArray := prog_1_method_61_code
def yX3_usedShare : MethodName := ⟨RX3, "usedShare", "()D"⟩
abbrev cX3_digest : ByteArray := prog_1_method_62_code
def yX3_digest : MethodName := ⟨RX3, "digest", "()J"⟩
abbrev cX3_hashKind : ByteArray := prog_1_method_63_code
def yX3_hashKind : MethodName := ⟨RX3, "hashKind", "(JI)J"⟩
abbrev cX3_hashPledges : ByteArray := prog_1_method_64_code
def yX3_hashPledges : MethodName := ⟨RX3, "hashPledges", "(JI)J"⟩
abbrev cX3_hashOutlook : ByteArray := prog_1_method_65_code
def yX3_hashOutlook : MethodName := ⟨RX3, "hashOutlook", "(JI)J"⟩
abbrev cX3_hashRules : ByteArray := prog_1_method_66_code
def yX3_hashRules : MethodName := ⟨RX3, "hashRules", "(J)J"⟩
abbrev cX3_hashAccounts : ByteArray := prog_1_method_67_code
def yX3_hashAccounts : MethodName := ⟨RX3, "hashAccounts", "(J)J"⟩
abbrev cX3_hashSlotsAndText : ByteArray := prog_1_method_68_code
def yX3_hashSlotsAndText : MethodName := ⟨RX3, "hashSlotsAndText", "(J)J"⟩
abbrev cX3_mixed : ByteArray := prog_1_method_69_code
def yX3_mixed : MethodName := ⟨RX3, "mixed", "(JJ)J"⟩
abbrev cX3_bitsOf : ByteArray := prog_1_method_70_code
def yX3_bitsOf : MethodName := ⟨RX3, "bitsOf", "(D)J"⟩
abbrev cX3_carryOutPart : ByteArray := prog_1_method_71_code
def yX3_carryOutPart : MethodName := ⟨RX3, "carryOutPart", "()Z"⟩
abbrev cX3_save : ByteArray := prog_1_method_72_code
def yX3_save : MethodName := ⟨RX3, "save", "()V"⟩
abbrev cX3_saveBefore : ByteArray := prog_1_method_73_code
def yX3_saveBefore : MethodName := ⟨RX3, "saveBefore", "()V"⟩
abbrev cX3_at : ByteArray := prog_1_method_74_code
def yX3_at : MethodName := ⟨RX3, "at", "(II)I"⟩
abbrev cX3_fallen : ByteArray := prog_1_method_75_code
def yX3_fallen : MethodName := ⟨RX3, "fallen", "(III)I"⟩
abbrev cX3_needKind : ByteArray := prog_1_method_76_code
def yX3_needKind : MethodName := ⟨RX3, "needKind", "(I)V"⟩
abbrev cX3_needClient : ByteArray := prog_1_method_77_code
def yX3_needClient : MethodName := ⟨RX3, "needClient", "(I)V"⟩
abbrev cX3_needPlace : ByteArray := prog_1_method_78_code
def yX3_needPlace : MethodName := ⟨RX3, "needPlace", "(I)V"⟩
abbrev cX3_needRange : ByteArray := prog_1_method_79_code
def yX3_needRange : MethodName := ⟨RX3, "needRange", "(III)V"⟩
abbrev cX3_need : ByteArray := prog_1_method_80_code
def yX3_need : MethodName := ⟨RX3, "need", "(Z)V"⟩
def RX4 : String := "PledgeHouseModel"
def TX4 : u_T := fun k => match k with
  | 0 => ("PledgeHouseModel", "s", "[I", true)
  | 1 => ("PledgeHouseModel", "before", "[I", true)
  | 2 => ("PledgeHouseModel", "known", "I", false)
  | 3 => ("PledgeHouseModel", "slots", "[I", true)
  | 4 => ("PledgeHouseModel", "isKept", "[Z", true)
  | 5 => ("PledgeHouseModel", "aside", "[I", true)
  | 6 => ("PledgeHouseModel", "buffer", "[I", true)
  | 7 => ("PledgeHouseModel", "length", "I", false)
  | 8 => ("PledgeHouseModel", "thrown", "I", false)
  | 9 => ("PledgeHouseModel", "at", "I", false)
  | 10 => ("PledgeHouseModel", "isWrong", "Z", false)
  | _ => ("PledgeHouseModel", "hash", "J", false)
def tyX4 : Nat → FieldType := fun k => match k with
  | 0 => .array .int
  | 1 => .array .int
  | 2 => .int
  | 3 => .array .int
  | 4 => .array .boolean
  | 5 => .array .int
  | 6 => .array .int
  | 7 => .int
  | 8 => .int
  | 9 => .int
  | 10 => .boolean
  | _ => .long
abbrev wsX40 : List Cond := u_ws RX4 TX4 12
theorem nmX4 : ∀ a, a < 12 → ∀ b, b < 12 → a ≠ b → (TX4 a).2.1 ≠ (TX4 b).2.1 := by decide +kernel
theorem tyX4_ok : ∀ k, k < 12 → parseFieldDescriptor (TX4 k).2.2.1 = some (tyX4 k) := by decide +kernel
abbrev cX4_init : ByteArray := prog_6_method_1_code
def yX4_init : MethodName := ⟨RX4, "<init>", "()V"⟩
abbrev cX4_thrown : ByteArray := prog_6_method_2_code
def yX4_thrown : MethodName := ⟨RX4, "thrown", "()I"⟩
abbrev cX4_throwing : ByteArray := prog_6_method_3_code
def yX4_throwing : MethodName := ⟨RX4, "throwing", "(I)I"⟩
abbrev cX4_in : ByteArray := prog_6_method_4_code
def yX4_in : MethodName := ⟨RX4, "in", "(III)Z"⟩
abbrev cX4_isKind : ByteArray := prog_6_method_5_code
def yX4_isKind : MethodName := ⟨RX4, "isKind", "(I)Z"⟩
abbrev cX4_isClient : ByteArray := prog_6_method_6_code
def yX4_isClient : MethodName := ⟨RX4, "isClient", "(I)Z"⟩
abbrev cX4_save : ByteArray := prog_6_method_7_code
def yX4_save : MethodName := ⟨RX4, "save", "()V"⟩
abbrev cX4_keepsAside : ByteArray := prog_6_method_8_code
def yX4_keepsAside : MethodName := ⟨RX4, "keepsAside", "()V"⟩
abbrev cX4_putsBack : ByteArray := prog_6_method_9_code
def yX4_putsBack : MethodName := ⟨RX4, "putsBack", "()V"⟩
abbrev cX4_of : ByteArray := prog_6_method_10_code
def yX4_of : MethodName := ⟨RX4, "of", "(II)I"⟩
abbrev cX4_lay : ByteArray := prog_6_method_11_code
def yX4_lay : MethodName := ⟨RX4, "lay", "(III)V"⟩
abbrev cX4_grow : ByteArray := prog_6_method_12_code
def yX4_grow : MethodName := ⟨RX4, "grow", "(III)V"⟩
abbrev cX4_fallen : ByteArray := prog_6_method_13_code
def yX4_fallen : MethodName := ⟨RX4, "fallen", "(II)I"⟩
abbrev cX4_coverIf : ByteArray := prog_6_method_14_code
def yX4_coverIf : MethodName := ⟨RX4, "coverIf", "(III)I"⟩
abbrev cX4_cover : ByteArray := prog_6_method_15_code
def yX4_cover : MethodName := ⟨RX4, "cover", "(I)I"⟩
abbrev cX4_isCovered : ByteArray := prog_6_method_16_code
def yX4_isCovered : MethodName := ⟨RX4, "isCovered", "(I)Z"⟩
abbrev cX4_called : ByteArray := prog_6_method_17_code
def yX4_called : MethodName := ⟨RX4, "called", "(I)Z"⟩
abbrev cX4_looks : ByteArray := prog_6_method_18_code
def yX4_looks : MethodName := ⟨RX4, "looks", "()V"⟩
abbrev cX4_isAhead : ByteArray := prog_6_method_19_code
def yX4_isAhead : MethodName := ⟨RX4, "isAhead", "(II)Z"⟩
abbrev cX4_selling : ByteArray := prog_6_method_20_code
def yX4_selling : MethodName := ⟨RX4, "selling", "(I)I"⟩
abbrev cX4_pays : ByteArray := prog_6_method_21_code
def yX4_pays : MethodName := ⟨RX4, "pays", "(II)V"⟩
abbrev cX4_sellsOut : ByteArray := prog_6_method_22_code
def yX4_sellsOut : MethodName := ⟨RX4, "sellsOut", "(I)I"⟩
abbrev cX4_interestOf : ByteArray := prog_6_method_23_code
def yX4_interestOf : MethodName := ⟨RX4, "interestOf", "(II)I"⟩
abbrev cX4_hour : ByteArray := prog_6_method_24_code
def yX4_hour : MethodName := ⟨RX4, "hour", "()I"⟩
abbrev cX4_canPledge : ByteArray := prog_6_method_25_code
def yX4_canPledge : MethodName := ⟨RX4, "canPledge", "(III)Z"⟩
abbrev cX4_canLack : ByteArray := prog_6_method_26_code
def yX4_canLack : MethodName := ⟨RX4, "canLack", "(III)Z"⟩
abbrev cX4_canLend : ByteArray := prog_6_method_27_code
def yX4_canLend : MethodName := ⟨RX4, "canLend", "(II)Z"⟩
abbrev cX4_lends : ByteArray := prog_6_method_28_code
def yX4_lends : MethodName := ⟨RX4, "lends", "(II)V"⟩
abbrev cX4_paysBack : ByteArray := prog_6_method_29_code
def yX4_paysBack : MethodName := ⟨RX4, "paysBack", "(II)I"⟩
abbrev cX4_passes : ByteArray := prog_6_method_30_code
def yX4_passes : MethodName := ⟨RX4, "passes", "(I)I"⟩
abbrev cX4_sets : ByteArray := prog_6_method_31_code
def yX4_sets : MethodName := ⟨RX4, "sets", "(IIII)I"⟩
abbrev cX4_setPrice : ByteArray := prog_6_method_32_code
def yX4_setPrice : MethodName := ⟨RX4, "setPrice", "(II)I"⟩
abbrev cX4_setCut : ByteArray := prog_6_method_33_code
def yX4_setCut : MethodName := ⟨RX4, "setCut", "(II)I"⟩
abbrev cX4_fall : ByteArray := prog_6_method_34_code
def yX4_fall : MethodName := ⟨RX4, "fall", "(I)I"⟩
abbrev cX4_areThere : ByteArray := prog_6_method_35_code
def yX4_areThere : MethodName := ⟨RX4, "areThere", "(II)Z"⟩
abbrev cX4_isThere : ByteArray := prog_6_method_36_code
def yX4_isThere : MethodName := ⟨RX4, "isThere", "(I)Z"⟩
abbrev cX4_pledge : ByteArray := prog_6_method_37_code
def yX4_pledge : MethodName := ⟨RX4, "pledge", "(III)I"⟩
abbrev cX4_release : ByteArray := prog_6_method_38_code
def yX4_release : MethodName := ⟨RX4, "release", "(III)I"⟩
abbrev cX4_deposit : ByteArray := prog_6_method_39_code
def yX4_deposit : MethodName := ⟨RX4, "deposit", "(II)I"⟩
abbrev cX4_withdraw : ByteArray := prog_6_method_40_code
def yX4_withdraw : MethodName := ⟨RX4, "withdraw", "(II)I"⟩
abbrev cX4_lend : ByteArray := prog_6_method_41_code
def yX4_lend : MethodName := ⟨RX4, "lend", "(II)I"⟩
abbrev cX4_payBack : ByteArray := prog_6_method_42_code
def yX4_payBack : MethodName := ⟨RX4, "payBack", "(II)I"⟩
abbrev cX4_readmit : ByteArray := prog_6_method_43_code
def yX4_readmit : MethodName := ⟨RX4, "readmit", "(I)V"⟩
abbrev cX4_pass : ByteArray := prog_6_method_44_code
def yX4_pass : MethodName := ⟨RX4, "pass", "(I)I"⟩
abbrev cX4_rules : ByteArray := prog_6_method_45_code
def yX4_rules : MethodName := ⟨RX4, "rules", "(IIII)I"⟩
abbrev cX4_changeRate : ByteArray := prog_6_method_46_code
def yX4_changeRate : MethodName := ⟨RX4, "changeRate", "(I)I"⟩
abbrev cX4_changeGrace : ByteArray := prog_6_method_47_code
def yX4_changeGrace : MethodName := ⟨RX4, "changeGrace", "(I)I"⟩
abbrev cX4_changeSlip : ByteArray := prog_6_method_48_code
def yX4_changeSlip : MethodName := ⟨RX4, "changeSlip", "(I)I"⟩
abbrev cX4_turnOrder : ByteArray := prog_6_method_49_code
def yX4_turnOrder : MethodName := ⟨RX4, "turnOrder", "()I"⟩
abbrev cX4_append : ByteArray := prog_6_method_50_code
def yX4_append : MethodName := ⟨RX4, "append", "(I)I"⟩
abbrev cX4_clearBuffer : ByteArray := prog_6_method_51_code
def yX4_clearBuffer : MethodName := ⟨RX4, "clearBuffer", "()I"⟩
abbrev cX4_sign : ByteArray := prog_6_method_52_code
def yX4_sign : MethodName := ⟨RX4, "sign", "(II)I"⟩
abbrev cX4_number : ByteArray := prog_6_method_53_code
def yX4_number : MethodName := ⟨RX4, "number", "(II)I"⟩
abbrev cX4_isOrdered : ByteArray := prog_6_method_54_code
def yX4_isOrdered : MethodName := ⟨RX4, "isOrdered", "(Z)Z"⟩
abbrev cX4_isFollowed : ByteArray := prog_6_method_55_code
def yX4_isFollowed : MethodName := ⟨RX4, "isFollowed", "(IIII)Z"⟩
abbrev cX4_go : ByteArray := prog_6_method_56_code
def yX4_go : MethodName := ⟨RX4, "go", "(Z)Z"⟩
abbrev cX4_firstError : ByteArray := prog_6_method_57_code
def yX4_firstError : MethodName := ⟨RX4, "firstError", "()I"⟩
abbrev cX4_follow : ByteArray := prog_6_method_58_code
def yX4_follow : MethodName := ⟨RX4, "follow", "()I"⟩
abbrev cX4_keep : ByteArray := prog_6_method_59_code
def yX4_keep : MethodName := ⟨RX4, "keep", "(I)V"⟩
abbrev cX4_goBack : ByteArray := prog_6_method_60_code
def yX4_goBack : MethodName := ⟨RX4, "goBack", "(I)V"⟩
abbrev cX4_undo : ByteArray := prog_6_method_61_code
def yX4_undo : MethodName := ⟨RX4, "undo", "()V"⟩
abbrev cX4_savedStates : ByteArray := prog_6_method_62_code
def yX4_savedStates : MethodName := ⟨RX4, "savedStates", "()I"⟩
abbrev cX4_told : ByteArray := prog_6_method_63_code
def yX4_told : MethodName := ⟨RX4, "told", "(II)I"⟩
abbrev cX4_priceOf : ByteArray := prog_6_method_64_code
def yX4_priceOf : MethodName := ⟨RX4, "priceOf", "(I)I"⟩
abbrev cX4_cutOf : ByteArray := prog_6_method_65_code
def yX4_cutOf : MethodName := ⟨RX4, "cutOf", "(I)I"⟩
abbrev cX4_pledged : ByteArray := prog_6_method_66_code
def yX4_pledged : MethodName := ⟨RX4, "pledged", "(I)I"⟩
abbrev cX4_pledgedOf : ByteArray := prog_6_method_67_code
def yX4_pledgedOf : MethodName := ⟨RX4, "pledgedOf", "(I)I"⟩
abbrev cX4_soldOf : ByteArray := prog_6_method_68_code
def yX4_soldOf : MethodName := ⟨RX4, "soldOf", "(I)I"⟩
abbrev cX4_piecesOf : ByteArray := prog_6_method_69_code
def yX4_piecesOf : MethodName := ⟨RX4, "piecesOf", "(II)I"⟩
abbrev cX4_coinsOf : ByteArray := prog_6_method_70_code
def yX4_coinsOf : MethodName := ⟨RX4, "coinsOf", "(I)I"⟩
abbrev cX4_debtOf : ByteArray := prog_6_method_71_code
def yX4_debtOf : MethodName := ⟨RX4, "debtOf", "(I)I"⟩
abbrev cX4_worth : ByteArray := prog_6_method_72_code
def yX4_worth : MethodName := ⟨RX4, "worth", "(I)I"⟩
abbrev cX4_worthOf : ByteArray := prog_6_method_73_code
def yX4_worthOf : MethodName := ⟨RX4, "worthOf", "(I)I"⟩
abbrev cX4_coverOf : ByteArray := prog_6_method_74_code
def yX4_coverOf : MethodName := ⟨RX4, "coverOf", "(I)I"⟩
abbrev cX4_room : ByteArray := prog_6_method_75_code
def yX4_room : MethodName := ⟨RX4, "room", "(I)I"⟩
abbrev cX4_roomOf : ByteArray := prog_6_method_76_code
def yX4_roomOf : MethodName := ⟨RX4, "roomOf", "(I)I"⟩
abbrev cX4_isCalled : ByteArray := prog_6_method_77_code
def yX4_isCalled : MethodName := ⟨RX4, "isCalled", "(I)Z"⟩
abbrev cX4_hoursLeft : ByteArray := prog_6_method_78_code
def yX4_hoursLeft : MethodName := ⟨RX4, "hoursLeft", "(I)I"⟩
abbrev cX4_isBarred : ByteArray := prog_6_method_79_code
def yX4_isBarred : MethodName := ⟨RX4, "isBarred", "(I)Z"⟩
abbrev cX4_isRiskier : ByteArray := prog_6_method_80_code
def yX4_isRiskier : MethodName := ⟨RX4, "isRiskier", "(II)Z"⟩
abbrev cX4_rank : ByteArray := prog_6_method_81_code
def yX4_rank : MethodName := ⟨RX4, "rank", "(I)I"⟩
abbrev cX4_risky : ByteArray := prog_6_method_82_code
def yX4_risky : MethodName := ⟨RX4, "risky", "(I)I"⟩
abbrev cX4_rankOf : ByteArray := prog_6_method_83_code
def yX4_rankOf : MethodName := ⟨RX4, "rankOf", "(I)I"⟩
abbrev cX4_riskyBySorting : ByteArray := prog_6_method_84_code
def yX4_riskyBySorting : MethodName := ⟨RX4, "riskyBySorting", "(I)I"⟩
abbrev cX4_riskyByTaking : ByteArray := prog_6_method_85_code
def yX4_riskyByTaking : MethodName := ⟨RX4, "riskyByTaking", "(I)I"⟩
abbrev cX4_allCalled : ByteArray := prog_6_method_86_code
def yX4_allCalled : MethodName := ⟨RX4, "allCalled", "()I"⟩
abbrev cX4_calledNow : ByteArray := prog_6_method_87_code
def yX4_calledNow : MethodName := ⟨RX4, "calledNow", "()I"⟩
abbrev cX4_rule : ByteArray := prog_6_method_88_code
def yX4_rule : MethodName := ⟨RX4, "rule", "(I)I"⟩
abbrev cX4_rate : ByteArray := prog_6_method_89_code
def yX4_rate : MethodName := ⟨RX4, "rate", "()I"⟩
abbrev cX4_grace : ByteArray := prog_6_method_90_code
def yX4_grace : MethodName := ⟨RX4, "grace", "()I"⟩
abbrev cX4_slip : ByteArray := prog_6_method_91_code
def yX4_slip : MethodName := ⟨RX4, "slip", "()I"⟩
abbrev cX4_order : ByteArray := prog_6_method_92_code
def yX4_order : MethodName := ⟨RX4, "order", "()I"⟩
abbrev cX4_falling : ByteArray := prog_6_method_93_code
def yX4_falling : MethodName := ⟨RX4, "falling", "(I)I"⟩
abbrev cX4_toldFall : ByteArray := prog_6_method_94_code
def yX4_toldFall : MethodName := ⟨RX4, "toldFall", "(I)I"⟩
abbrev cX4_fallToCallByTrying : ByteArray := prog_6_method_95_code
def yX4_fallToCallByTrying : MethodName := ⟨RX4, "fallToCallByTrying", "(I)I"⟩
abbrev cX4_fallToCallByHalving : ByteArray := prog_6_method_96_code
def yX4_fallToCallByHalving : MethodName := ⟨RX4, "fallToCallByHalving", "(I)I"⟩
abbrev cX4_hoursToCall : ByteArray := prog_6_method_97_code
def yX4_hoursToCall : MethodName := ⟨RX4, "hoursToCall", "(I)I"⟩
abbrev cX4_would : ByteArray := prog_6_method_98_code
def yX4_would : MethodName := ⟨RX4, "would", "(IZ)I"⟩
abbrev cX4_wouldSell : ByteArray := prog_6_method_99_code
def yX4_wouldSell : MethodName := ⟨RX4, "wouldSell", "(I)I"⟩
abbrev cX4_wouldLose : ByteArray := prog_6_method_100_code
def yX4_wouldLose : MethodName := ⟨RX4, "wouldLose", "(I)I"⟩
abbrev cX4_ifFallen : ByteArray := prog_6_method_101_code
def yX4_ifFallen : MethodName := ⟨RX4, "ifFallen", "(I)I"⟩
abbrev cX4_calledIfFallen : ByteArray := prog_6_method_102_code
def yX4_calledIfFallen : MethodName := ⟨RX4, "calledIfFallen", "(I)I"⟩
abbrev cX4_hours : ByteArray := prog_6_method_103_code
def yX4_hours : MethodName := ⟨RX4, "hours", "()I"⟩
abbrev cX4_debts : ByteArray := prog_6_method_104_code
def yX4_debts : MethodName := ⟨RX4, "debts", "()I"⟩
abbrev cX4_debtsByClients : ByteArray := prog_6_method_105_code
def yX4_debtsByClients : MethodName := ⟨RX4, "debtsByClients", "()I"⟩
abbrev cX4_debtsByAccount : ByteArray := prog_6_method_106_code
def yX4_debtsByAccount : MethodName := ⟨RX4, "debtsByAccount", "()I"⟩
abbrev cX4_lent : ByteArray := prog_6_method_107_code
def yX4_lent : MethodName := ⟨RX4, "lent", "()I"⟩
abbrev cX4_interest : ByteArray := prog_6_method_108_code
def yX4_interest : MethodName := ⟨RX4, "interest", "()I"⟩
abbrev cX4_repaid : ByteArray := prog_6_method_109_code
def yX4_repaid : MethodName := ⟨RX4, "repaid", "()I"⟩
abbrev cX4_lost : ByteArray := prog_6_method_110_code
def yX4_lost : MethodName := ⟨RX4, "lost", "()I"⟩
abbrev cX4_calls : ByteArray := prog_6_method_111_code
def yX4_calls : MethodName := ⟨RX4, "calls", "()I"⟩
abbrev cX4_soldOut : ByteArray := prog_6_method_112_code
def yX4_soldOut : MethodName := ⟨RX4, "soldOut", "()I"⟩
abbrev cX4_used : ByteArray := prog_6_method_113_code
def yX4_used : MethodName := ⟨RX4, "used", "()D"⟩
abbrev cX4_usedShare : ByteArray := prog_6_method_114_code
def yX4_usedShare : MethodName := ⟨RX4, "usedShare", "()D"⟩
abbrev cX4_bitsOf : ByteArray := prog_6_method_115_code
def yX4_bitsOf : MethodName := ⟨RX4, "bitsOf", "(DII)J"⟩
abbrev cX4_mix : ByteArray := prog_6_method_116_code
def yX4_mix : MethodName := ⟨RX4, "mix", "(J)V"⟩
abbrev cX4_digest : ByteArray := prog_6_method_117_code
def yX4_digest : MethodName := ⟨RX4, "digest", "()J"⟩
def RJx145de : String := "java/io/Serializable"
def TJx145de : u_T := fun k => match k with
  | _ => ("", "", "", false)
def tyJx145de : Nat → FieldType := fun k => match k with
  | _ => .int
abbrev wsJx145de0 : List Cond := u_ws RJx145de TJx145de 0
theorem nmJx145de : ∀ a, a < 0 → ∀ b, b < 0 → a ≠ b → (TJx145de a).2.1 ≠ (TJx145de b).2.1 := by decide +kernel
theorem tyJx145de_ok : ∀ k, k < 0 → parseFieldDescriptor (TJx145de k).2.2.1 = some (tyJx145de k) := by decide +kernel
def RJx9f9b0 : String := "java/lang/CharSequence"
def TJx9f9b0 : u_T := fun k => match k with
  | _ => ("", "", "", false)
def tyJx9f9b0 : Nat → FieldType := fun k => match k with
  | _ => .int
abbrev wsJx9f9b00 : List Cond := u_ws RJx9f9b0 TJx9f9b0 0
theorem nmJx9f9b0 : ∀ a, a < 0 → ∀ b, b < 0 → a ≠ b → (TJx9f9b0 a).2.1 ≠ (TJx9f9b0 b).2.1 := by decide +kernel
theorem tyJx9f9b0_ok : ∀ k, k < 0 → parseFieldDescriptor (TJx9f9b0 k).2.2.1 = some (tyJx9f9b0 k) := by decide +kernel
def RJxb160c : String := "java/lang/Comparable"
def TJxb160c : u_T := fun k => match k with
  | _ => ("", "", "", false)
def tyJxb160c : Nat → FieldType := fun k => match k with
  | _ => .int
abbrev wsJxb160c0 : List Cond := u_ws RJxb160c TJxb160c 0
theorem nmJxb160c : ∀ a, a < 0 → ∀ b, b < 0 → a ≠ b → (TJxb160c a).2.1 ≠ (TJxb160c b).2.1 := by decide +kernel
theorem tyJxb160c_ok : ∀ k, k < 0 → parseFieldDescriptor (TJxb160c k).2.2.1 = some (tyJxb160c k) := by decide +kernel
def RJ0 : String := "java/lang/String"
def TJ0 : u_T := fun k => match k with
  | _ => ("", "", "", false)
def tyJ0 : Nat → FieldType := fun k => match k with
  | _ => .int
abbrev wsJ00 : List Cond := u_ws RJ0 TJ0 0
theorem nmJ0 : ∀ a, a < 0 → ∀ b, b < 0 → a ≠ b → (TJ0 a).2.1 ≠ (TJ0 b).2.1 := by decide +kernel
theorem tyJ0_ok : ∀ k, k < 0 → parseFieldDescriptor (TJ0 k).2.2.1 = some (tyJ0 k) := by decide +kernel
abbrev cJ0_length_8abf5 : ByteArray := prog_12_method_54_code
def yJ0_length_8abf5 : MethodName := ⟨RJ0, "length", "()I"⟩
abbrev cJ0_isEmpty_aae02 : ByteArray := prog_12_method_55_code
def yJ0_isEmpty_aae02 : MethodName := ⟨RJ0, "isEmpty", "()Z"⟩
abbrev cJ0_charAt_5068e : ByteArray := prog_12_method_56_code
def yJ0_charAt_5068e : MethodName := ⟨RJ0, "charAt", "(I)C"⟩
abbrev cJ0_coder_7d493 : ByteArray := prog_12_method_152_code
def yJ0_coder_7d493 : MethodName := ⟨RJ0, "coder", "()B"⟩
abbrev cJ0_isLatin1_aae02 : ByteArray := prog_12_method_154_code
def yJ0_isLatin1_aae02 : MethodName := ⟨RJ0, "isLatin1", "()Z"⟩
abbrev cJ0_checkIndex_df160 : ByteArray := prog_12_method_155_code
def yJ0_checkIndex_df160 : MethodName := ⟨RJ0, "checkIndex", "(II)V"⟩
def RJ1 : String := "java/lang/StringLatin1"
def TJ1 : u_T := fun k => match k with
  | _ => ("", "", "", false)
def tyJ1 : Nat → FieldType := fun k => match k with
  | _ => .int
abbrev wsJ10 : List Cond := u_ws RJ1 TJ1 0
theorem nmJ1 : ∀ a, a < 0 → ∀ b, b < 0 → a ≠ b → (TJ1 a).2.1 ≠ (TJ1 b).2.1 := by decide +kernel
theorem tyJ1_ok : ∀ k, k < 0 → parseFieldDescriptor (TJ1 k).2.2.1 = some (tyJ1 k) := by decide +kernel
abbrev cJ1_charAt_3b067 : ByteArray := prog_13_method_2_code
def yJ1_charAt_3b067 : MethodName := ⟨RJ1, "charAt", "([BI)C"⟩
def RJ2 : String := "java/lang/StringUTF16"
def TJ2 : u_T := fun k => match k with
  | _ => ("", "", "", false)
def tyJ2 : Nat → FieldType := fun k => match k with
  | _ => .int
abbrev wsJ20 : List Cond := u_ws RJ2 TJ2 0
theorem nmJ2 : ∀ a, a < 0 → ∀ b, b < 0 → a ≠ b → (TJ2 a).2.1 ≠ (TJ2 b).2.1 := by decide +kernel
theorem tyJ2_ok : ∀ k, k < 0 → parseFieldDescriptor (TJ2 k).2.2.1 = some (tyJ2 k) := by decide +kernel
abbrev cJ2_getChar_3b067 : ByteArray := prog_14_method_5_code
def yJ2_getChar_3b067 : MethodName := ⟨RJ2, "getChar", "([BI)C"⟩
abbrev cJ2_length_9d52b : ByteArray := prog_14_method_6_code
def yJ2_length_9d52b : MethodName := ⟨RJ2, "length", "([B)I"⟩
abbrev cJ2_charAt_3b067 : ByteArray := prog_14_method_83_code
def yJ2_charAt_3b067 : MethodName := ⟨RJ2, "charAt", "([BI)C"⟩
abbrev cJ2_checkIndex_2214a : ByteArray := prog_14_method_91_code
def yJ2_checkIndex_2214a : MethodName := ⟨RJ2, "checkIndex", "(I[B)V"⟩
def RJ10 : String := "java/lang/System"
def TJ10 : u_T := fun k => match k with
  | _ => ("", "", "", false)
def tyJ10 : Nat → FieldType := fun k => match k with
  | _ => .int
abbrev wsJ100 : List Cond := u_ws RJ10 TJ10 0
theorem nmJ10 : ∀ a, a < 0 → ∀ b, b < 0 → a ≠ b → (TJ10 a).2.1 ≠ (TJ10 b).2.1 := by decide +kernel
theorem tyJ10_ok : ∀ k, k < 0 → parseFieldDescriptor (TJ10 k).2.2.1 = some (tyJ10 k) := by decide +kernel
def RJxfd54e : String := "java/lang/constant/Constable"
def TJxfd54e : u_T := fun k => match k with
  | _ => ("", "", "", false)
def tyJxfd54e : Nat → FieldType := fun k => match k with
  | _ => .int
abbrev wsJxfd54e0 : List Cond := u_ws RJxfd54e TJxfd54e 0
theorem nmJxfd54e : ∀ a, a < 0 → ∀ b, b < 0 → a ≠ b → (TJxfd54e a).2.1 ≠ (TJxfd54e b).2.1 := by decide +kernel
theorem tyJxfd54e_ok : ∀ k, k < 0 → parseFieldDescriptor (TJxfd54e k).2.2.1 = some (tyJxfd54e k) := by decide +kernel
def RJx3cf43 : String := "java/lang/constant/ConstantDesc"
def TJx3cf43 : u_T := fun k => match k with
  | _ => ("", "", "", false)
def tyJx3cf43 : Nat → FieldType := fun k => match k with
  | _ => .int
abbrev wsJx3cf430 : List Cond := u_ws RJx3cf43 TJx3cf43 0
theorem nmJx3cf43 : ∀ a, a < 0 → ∀ b, b < 0 → a ≠ b → (TJx3cf43 a).2.1 ≠ (TJx3cf43 b).2.1 := by decide +kernel
theorem tyJx3cf43_ok : ∀ k, k < 0 → parseFieldDescriptor (TJx3cf43 k).2.2.1 = some (tyJx3cf43 k) := by decide +kernel
def RJ7 : String := "java/util/Arrays"
def TJ7 : u_T := fun k => match k with
  | _ => ("", "", "", false)
def tyJ7 : Nat → FieldType := fun k => match k with
  | _ => .int
abbrev wsJ70 : List Cond := u_ws RJ7 TJ7 0
theorem nmJ7 : ∀ a, a < 0 → ∀ b, b < 0 → a ≠ b → (TJ7 a).2.1 ≠ (TJ7 b).2.1 := by decide +kernel
theorem tyJ7_ok : ∀ k, k < 0 → parseFieldDescriptor (TJ7 k).2.2.1 = some (tyJ7 k) := by decide +kernel
abbrev cJ7_fill_53178 : ByteArray := prog_17_method_103_code
def yJ7_fill_53178 : MethodName := ⟨RJ7, "fill", "([II)V"⟩
def RJ3 : String := "jdk/internal/util/Preconditions"
def TJ3 : u_T := fun k => match k with
  | _ => ("", "", "", false)
def tyJ3 : Nat → FieldType := fun k => match k with
  | _ => .int
abbrev wsJ30 : List Cond := u_ws RJ3 TJ3 0
theorem nmJ3 : ∀ a, a < 0 → ∀ b, b < 0 → a ≠ b → (TJ3 a).2.1 ≠ (TJ3 b).2.1 := by decide +kernel
theorem tyJ3_ok : ∀ k, k < 0 → parseFieldDescriptor (TJ3 k).2.2.1 = some (tyJ3 k) := by decide +kernel
abbrev cJ3_checkIndex_8e157 : ByteArray := prog_18_method_11_code
def yJ3_checkIndex_8e157 : MethodName := ⟨RJ3, "checkIndex", "(IILjava/util/function/BiFunction;)I"⟩
def RL : String := "PledgeHouseLaw"
abbrev cL_setPrice : ByteArray := method_3_code
def yL_setPrice : MethodName := ⟨RL, "setPrice", "(LPledgeHouse;II[J)I"⟩
abbrev cL_setCut : ByteArray := method_4_code
def yL_setCut : MethodName := ⟨RL, "setCut", "(LPledgeHouse;II[J)I"⟩
abbrev cL_fall : ByteArray := method_5_code
def yL_fall : MethodName := ⟨RL, "fall", "(LPledgeHouse;I[J)I"⟩
abbrev cL_pledge : ByteArray := method_6_code
def yL_pledge : MethodName := ⟨RL, "pledge", "(LPledgeHouse;III[J)I"⟩
abbrev cL_release : ByteArray := method_7_code
def yL_release : MethodName := ⟨RL, "release", "(LPledgeHouse;III[J)I"⟩
abbrev cL_deposit : ByteArray := method_8_code
def yL_deposit : MethodName := ⟨RL, "deposit", "(LPledgeHouse;II[J)I"⟩
abbrev cL_withdraw : ByteArray := method_9_code
def yL_withdraw : MethodName := ⟨RL, "withdraw", "(LPledgeHouse;II[J)I"⟩
abbrev cL_lend : ByteArray := method_10_code
def yL_lend : MethodName := ⟨RL, "lend", "(LPledgeHouse;II[J)I"⟩
abbrev cL_payBack : ByteArray := method_11_code
def yL_payBack : MethodName := ⟨RL, "payBack", "(LPledgeHouse;II[J)I"⟩
abbrev cL_readmit : ByteArray := method_12_code
def yL_readmit : MethodName := ⟨RL, "readmit", "(LPledgeHouse;I)I"⟩
abbrev cL_pass : ByteArray := method_13_code
def yL_pass : MethodName := ⟨RL, "pass", "(LPledgeHouse;I[J)I"⟩
abbrev cL_changeRate : ByteArray := method_14_code
def yL_changeRate : MethodName := ⟨RL, "changeRate", "(LPledgeHouse;I[J)I"⟩
abbrev cL_changeGrace : ByteArray := method_15_code
def yL_changeGrace : MethodName := ⟨RL, "changeGrace", "(LPledgeHouse;I[J)I"⟩
abbrev cL_changeSlip : ByteArray := method_16_code
def yL_changeSlip : MethodName := ⟨RL, "changeSlip", "(LPledgeHouse;I[J)I"⟩
abbrev cL_append : ByteArray := method_17_code
def yL_append : MethodName := ⟨RL, "append", "(LPledgeHouse;I[J)I"⟩
abbrev cL_follow : ByteArray := method_18_code
def yL_follow : MethodName := ⟨RL, "follow", "(LPledgeHouse;[J)I"⟩
abbrev cL_keep : ByteArray := method_19_code
def yL_keep : MethodName := ⟨RL, "keep", "(LPledgeHouse;I)I"⟩
abbrev cL_goBack : ByteArray := method_20_code
def yL_goBack : MethodName := ⟨RL, "goBack", "(LPledgeHouse;I)I"⟩
abbrev cL_undo : ByteArray := method_21_code
def yL_undo : MethodName := ⟨RL, "undo", "(LPledgeHouse;)I"⟩
abbrev cL_priceOf : ByteArray := method_22_code
def yL_priceOf : MethodName := ⟨RL, "priceOf", "(LPledgeHouse;I[J)I"⟩
abbrev cL_cutOf : ByteArray := method_23_code
def yL_cutOf : MethodName := ⟨RL, "cutOf", "(LPledgeHouse;I[J)I"⟩
abbrev cL_pledgedOf : ByteArray := method_24_code
def yL_pledgedOf : MethodName := ⟨RL, "pledgedOf", "(LPledgeHouse;I[J)I"⟩
abbrev cL_soldOf : ByteArray := method_25_code
def yL_soldOf : MethodName := ⟨RL, "soldOf", "(LPledgeHouse;I[J)I"⟩
abbrev cL_piecesOf : ByteArray := method_26_code
def yL_piecesOf : MethodName := ⟨RL, "piecesOf", "(LPledgeHouse;II[J)I"⟩
abbrev cL_coinsOf : ByteArray := method_27_code
def yL_coinsOf : MethodName := ⟨RL, "coinsOf", "(LPledgeHouse;I[J)I"⟩
abbrev cL_debtOf : ByteArray := method_28_code
def yL_debtOf : MethodName := ⟨RL, "debtOf", "(LPledgeHouse;I[J)I"⟩
abbrev cL_worthOf : ByteArray := method_29_code
def yL_worthOf : MethodName := ⟨RL, "worthOf", "(LPledgeHouse;I[J)I"⟩
abbrev cL_coverOf : ByteArray := method_30_code
def yL_coverOf : MethodName := ⟨RL, "coverOf", "(LPledgeHouse;I[J)I"⟩
abbrev cL_roomOf : ByteArray := method_31_code
def yL_roomOf : MethodName := ⟨RL, "roomOf", "(LPledgeHouse;I[J)I"⟩
abbrev cL_isCalled : ByteArray := method_32_code
def yL_isCalled : MethodName := ⟨RL, "isCalled", "(LPledgeHouse;I[J)I"⟩
abbrev cL_hoursLeft : ByteArray := method_33_code
def yL_hoursLeft : MethodName := ⟨RL, "hoursLeft", "(LPledgeHouse;I[J)I"⟩
abbrev cL_isBarred : ByteArray := method_34_code
def yL_isBarred : MethodName := ⟨RL, "isBarred", "(LPledgeHouse;I[J)I"⟩
abbrev cL_rankOf : ByteArray := method_35_code
def yL_rankOf : MethodName := ⟨RL, "rankOf", "(LPledgeHouse;I[J)I"⟩
abbrev cL_riskyBySorting : ByteArray := method_36_code
def yL_riskyBySorting : MethodName := ⟨RL, "riskyBySorting", "(LPledgeHouse;I[J)I"⟩
abbrev cL_riskyByTaking : ByteArray := method_37_code
def yL_riskyByTaking : MethodName := ⟨RL, "riskyByTaking", "(LPledgeHouse;I[J)I"⟩
abbrev cL_fallToCallByTrying : ByteArray := method_38_code
def yL_fallToCallByTrying : MethodName := ⟨RL, "fallToCallByTrying", "(LPledgeHouse;I[J)I"⟩
abbrev cL_fallToCallByHalving : ByteArray := method_39_code
def yL_fallToCallByHalving : MethodName := ⟨RL, "fallToCallByHalving", "(LPledgeHouse;I[J)I"⟩
abbrev cL_hoursToCall : ByteArray := method_40_code
def yL_hoursToCall : MethodName := ⟨RL, "hoursToCall", "(LPledgeHouse;I[J)I"⟩
abbrev cL_wouldSell : ByteArray := method_41_code
def yL_wouldSell : MethodName := ⟨RL, "wouldSell", "(LPledgeHouse;I[J)I"⟩
abbrev cL_wouldLose : ByteArray := method_42_code
def yL_wouldLose : MethodName := ⟨RL, "wouldLose", "(LPledgeHouse;I[J)I"⟩
abbrev cL_calledIfFallen : ByteArray := method_43_code
def yL_calledIfFallen : MethodName := ⟨RL, "calledIfFallen", "(LPledgeHouse;I[J)I"⟩
abbrev cL_law : ByteArray := code
def yL_law : MethodName := ⟨RL, "law", "([I)Z"⟩
def wsL_law0_r1 : List Cond := [Cond.classLink RL 8 RX3, Cond.instantiable RX3 9, Cond.initialized RX3, Cond.classLink RL 145 RX4, Cond.instantiable RX4 12, Cond.initialized RX4, Cond.arrayClass .long, Cond.methodLink RL 144 yX3_init, Cond.instanceMethod yX3_init, Cond.code yX3_init cX3_init 2 none, Cond.methodLink RX3 1 objectInit, Cond.instanceMethod objectInit, Cond.code objectInit ⟨#[0xb1]⟩ 1 none, Cond.classLink RX3 7 RX1, Cond.instantiable RX1 8, Cond.initialized RX1, Cond.fieldLink RX3 10 "PledgeHouse" "text" "LPledgeHouse$OrderText;", Cond.classLink RX3 16 RX2, Cond.instantiable RX2 8, Cond.initialized RX2, Cond.fieldLink RX3 19 "PledgeHouse" "sale" "LPledgeHouse$Sale;", Cond.arrayClass .int, Cond.fieldLink RX3 23 "PledgeHouse" "riskRow" "[I", Cond.classLink RX3 27 RX0]
def wsL_law0_r2 : List Cond := [Cond.fieldLink RX3 29 "PledgeHouse" "slots" "[LPledgeHouse$Ledger;", Cond.arrayClass .boolean, Cond.fieldLink RX3 33 "PledgeHouse" "slotFilled" "[Z", Cond.fieldLink RX3 37 "PledgeHouse" "saved" "[LPledgeHouse$Ledger;", Cond.instantiable RX0 19, Cond.initialized RX0, Cond.fieldLink RX3 41 "PledgeHouse" "now" "LPledgeHouse$Ledger;", Cond.fieldLink RX3 45 "PledgeHouse" "before" "LPledgeHouse$Ledger;", Cond.instanceMethod yX1_init, Cond.code yX1_init cX1_init 1 none, Cond.methodLink RX1 3 objectInit, Cond.fieldLink RX1 9 "PledgeHouse$OrderText" "codes" "[I", Cond.instanceMethod yX2_init, Cond.code yX2_init cX2_init 1 none, Cond.methodLink RX2 3 objectInit, Cond.fieldLink RX2 9 "PledgeHouse$Sale" "piecesLeft" "[I", Cond.fieldLink RX2 15 "PledgeHouse$Sale" "keys" "[I", Cond.methodLink RX3 40 yX0_init, Cond.instanceMethod yX0_init, Cond.code yX0_init cX0_init 1 none, Cond.methodLink RX0 3 objectInit, Cond.fieldLink RX0 9 "PledgeHouse$Ledger" "prices" "[I", Cond.fieldLink RX0 15 "PledgeHouse$Ledger" "cuts" "[I", Cond.fieldLink RX0 18 "PledgeHouse$Ledger" "soldPieces" "[I"]
def wsL_law0_r3 : List Cond := [Cond.fieldLink RX0 21 "PledgeHouse$Ledger" "pieces" "[I", Cond.fieldLink RX0 24 "PledgeHouse$Ledger" "coins" "[I", Cond.fieldLink RX0 27 "PledgeHouse$Ledger" "debts" "[I", Cond.fieldLink RX0 30 "PledgeHouse$Ledger" "callHours" "[I", Cond.fieldLink RX0 33 "PledgeHouse$Ledger" "barred" "[Z", Cond.fieldLink RX0 37 "PledgeHouse$Ledger" "interestRate" "I", Cond.fieldLink RX0 41 "PledgeHouse$Ledger" "graceHours" "I", Cond.fieldLink RX0 44 "PledgeHouse$Ledger" "slipPercent" "I", Cond.fieldLink RX0 47 "PledgeHouse$Ledger" "salesOrder" "I", Cond.methodLink RX0 50 yJ7_fill_53178, Cond.static yJ7_fill_53178, Cond.initialized RJ7, Cond.code yJ7_fill_53178 cJ7_fill_53178 4 none, Cond.methodLink RL 147 yX4_init, Cond.instanceMethod yX4_init, Cond.code yX4_init cX4_init 2 none, Cond.methodLink RX4 1 objectInit, Cond.fieldLink RX4 7 "PledgeHouseModel" "s" "[I", Cond.fieldLink RX4 13 "PledgeHouseModel" "before" "[I", Cond.fieldLink RX4 16 "PledgeHouseModel" "slots" "[I", Cond.fieldLink RX4 19 "PledgeHouseModel" "isKept" "[Z", Cond.fieldLink RX4 23 "PledgeHouseModel" "aside" "[I", Cond.fieldLink RX4 26 "PledgeHouseModel" "buffer" "[I", Cond.methodLink RL 148 yL_setPrice]
def wsL_law0_r4 : List Cond := [Cond.static yL_setPrice, Cond.initialized RL, Cond.codeWith yL_setPrice cL_setPrice 5 (some .int) [(0, 10, 13, 13), (0, 10, 17, 15)], Cond.classLink RL 13 "java/lang/IndexOutOfBoundsException", Cond.classLink RL 15 "java/lang/IllegalArgumentException", Cond.methodLink RL 7 yX3_setPrice, Cond.instanceMethod yX3_setPrice, Cond.selects RX3 yX3_setPrice yX3_setPrice, Cond.code yX3_setPrice cX3_setPrice 3 (some .int), Cond.methodLink RX3 48 yX3_needKind, Cond.static yX3_needKind, Cond.code yX3_needKind cX3_needKind 1 none, Cond.classLink RX3 322 "java/lang/IndexOutOfBoundsException", Cond.initialized "java/lang/IndexOutOfBoundsException", Cond.methodLink RX3 52 yX3_needRange, Cond.static yX3_needRange, Cond.code yX3_needRange cX3_needRange 3 none, Cond.classLink RX3 154 "java/lang/IllegalArgumentException", Cond.initialized "java/lang/IllegalArgumentException", Cond.methodLink RX3 56 yX3_save, Cond.instanceMethod yX3_save, Cond.selects RX3 yX3_save yX3_save, Cond.code yX3_save cX3_save 1 none, Cond.methodLink RX3 73 yX0_copyFrom]
def wsL_law0_r5 : List Cond := [Cond.instanceMethod yX0_copyFrom, Cond.selects RX0 yX0_copyFrom yX0_copyFrom, Cond.code yX0_copyFrom cX0_copyFrom 2 none, Cond.methodLink RX0 56 arraycopyName, Cond.native arraycopyName, Cond.static arraycopyName, Cond.initialized "java/lang/System", Cond.fieldLink RX0 62 "PledgeHouse$Ledger" "passedHours" "I", Cond.fieldLink RX0 65 "PledgeHouse$Ledger" "lentCoins" "I", Cond.fieldLink RX0 68 "PledgeHouse$Ledger" "interestCoins" "I", Cond.fieldLink RX0 71 "PledgeHouse$Ledger" "repaidCoins" "I", Cond.fieldLink RX0 74 "PledgeHouse$Ledger" "lostCoins" "I", Cond.fieldLink RX0 77 "PledgeHouse$Ledger" "callCount" "I", Cond.fieldLink RX0 80 "PledgeHouse$Ledger" "soldOutCount" "I", Cond.methodLink RX3 85 yX3_saveBefore, Cond.instanceMethod yX3_saveBefore, Cond.selects RX3 yX3_saveBefore yX3_saveBefore, Cond.code yX3_saveBefore cX3_saveBefore 3 none, Cond.fieldLink RX3 172 "PledgeHouse" "savedCount" "I", Cond.methodLink RX3 59 yX0_putPrice, Cond.instanceMethod yX0_putPrice, Cond.selects RX0 yX0_putPrice yX0_putPrice, Cond.code yX0_putPrice cX0_putPrice 3 (some .int), Cond.methodLink RX0 116 yX0_lookAtClients]
def wsL_law0_r6 : List Cond := [Cond.instanceMethod yX0_lookAtClients, Cond.selects RX0 yX0_lookAtClients yX0_lookAtClients, Cond.code yX0_lookAtClients cX0_lookAtClients 3 (some .int), Cond.methodLink RX0 94 yX0_cover, Cond.instanceMethod yX0_cover, Cond.selects RX0 yX0_cover yX0_cover, Cond.code yX0_cover cX0_cover 2 (some .int), Cond.methodLink RX0 87 yX0_coverAfterFall, Cond.instanceMethod yX0_coverAfterFall, Cond.selects RX0 yX0_coverAfterFall yX0_coverAfterFall, Cond.code yX0_coverAfterFall cX0_coverAfterFall 6 (some .int), Cond.static yX3_at, Cond.code yX3_at cX3_at 2 (some .int), Cond.static yX3_fallen, Cond.code yX3_fallen cX3_fallen 4 (some .int), Cond.methodLink RL 153 yX4_setPrice, Cond.instanceMethod yX4_setPrice, Cond.selects RX4 yX4_setPrice yX4_setPrice, Cond.code yX4_setPrice cX4_setPrice 3 (some .int), Cond.fieldLink RX4 29 "PledgeHouseModel" "thrown" "I", Cond.methodLink RX4 99 yX4_isKind, Cond.static yX4_isKind, Cond.code yX4_isKind cX4_isKind 1 (some .boolean), Cond.methodLink RX4 33 yX4_in]
def wsL_law0_r7 : List Cond := [Cond.static yX4_in, Cond.code yX4_in cX4_in 3 (some .boolean), Cond.methodLink RX4 102 yX4_sets, Cond.instanceMethod yX4_sets, Cond.selects RX4 yX4_sets yX4_sets, Cond.code yX4_sets cX4_sets 6 (some .int), Cond.methodLink RX4 93 yX4_throwing, Cond.instanceMethod yX4_throwing, Cond.selects RX4 yX4_throwing yX4_throwing, Cond.code yX4_throwing cX4_throwing 2 (some .int), Cond.methodLink RX4 96 yX4_save, Cond.instanceMethod yX4_save, Cond.selects RX4 yX4_save yX4_save, Cond.code yX4_save cX4_save 2 none, Cond.fieldLink RX4 37 "PledgeHouseModel" "known" "I", Cond.methodLink RX4 83 yX4_looks, Cond.instanceMethod yX4_looks, Cond.selects RX4 yX4_looks yX4_looks, Cond.code yX4_looks cX4_looks 3 none, Cond.methodLink RX4 55 yX4_isCovered, Cond.instanceMethod yX4_isCovered, Cond.selects RX4 yX4_isCovered yX4_isCovered, Cond.code yX4_isCovered cX4_isCovered 2 (some .boolean), Cond.methodLink RX4 44 yX4_of]
def wsL_law0_r8 : List Cond := [Cond.instanceMethod yX4_of, Cond.selects RX4 yX4_of yX4_of, Cond.code yX4_of cX4_of 3 (some .int), Cond.methodLink RX4 51 yX4_cover, Cond.instanceMethod yX4_cover, Cond.selects RX4 yX4_cover yX4_cover, Cond.code yX4_cover cX4_cover 2 (some .int), Cond.methodLink RX4 47 yX4_coverIf, Cond.instanceMethod yX4_coverIf, Cond.selects RX4 yX4_coverIf yX4_coverIf, Cond.code yX4_coverIf cX4_coverIf 7 (some .int), Cond.methodLink RX4 40 yX4_fallen, Cond.instanceMethod yX4_fallen, Cond.selects RX4 yX4_fallen yX4_fallen, Cond.code yX4_fallen cX4_fallen 3 (some .int), Cond.methodLink RX4 59 yX4_called, Cond.instanceMethod yX4_called, Cond.selects RX4 yX4_called yX4_called, Cond.code yX4_called cX4_called 2 (some .boolean), Cond.methodLink RX4 62 yX4_lay, Cond.instanceMethod yX4_lay, Cond.selects RX4 yX4_lay yX4_lay, Cond.code yX4_lay cX4_lay 4 none, Cond.methodLink RL 154 yX4_thrown]
def wsL_law0_r9 : List Cond := [Cond.instanceMethod yX4_thrown, Cond.selects RX4 yX4_thrown yX4_thrown, Cond.code yX4_thrown cX4_thrown 1 (some .int), Cond.methodLink RL 157 yL_setCut, Cond.static yL_setCut, Cond.codeWith yL_setCut cL_setCut 5 (some .int) [(0, 10, 13, 13), (0, 10, 17, 15)], Cond.methodLink RL 17 yX3_setCut, Cond.instanceMethod yX3_setCut, Cond.selects RX3 yX3_setCut yX3_setCut, Cond.code yX3_setCut cX3_setCut 3 (some .int), Cond.methodLink RX3 63 yX0_putCut, Cond.instanceMethod yX0_putCut, Cond.selects RX0 yX0_putCut yX0_putCut, Cond.code yX0_putCut cX0_putCut 3 (some .int), Cond.methodLink RL 159 yX4_setCut, Cond.instanceMethod yX4_setCut, Cond.selects RX4 yX4_setCut yX4_setCut, Cond.code yX4_setCut cX4_setCut 3 (some .int), Cond.methodLink RL 160 yL_fall, Cond.static yL_fall, Cond.codeWith yL_fall cL_fall 4 (some .int) [(0, 9, 12, 15)], Cond.methodLink RL 20 yX3_fall, Cond.instanceMethod yX3_fall, Cond.selects RX3 yX3_fall yX3_fall]
def wsL_law0_r10 : List Cond := [Cond.code yX3_fall cX3_fall 2 (some .int), Cond.methodLink RX3 66 yX0_dropPrices, Cond.instanceMethod yX0_dropPrices, Cond.selects RX0 yX0_dropPrices yX0_dropPrices, Cond.code yX0_dropPrices cX0_dropPrices 3 (some .int), Cond.methodLink RL 163 yX4_fall, Cond.instanceMethod yX4_fall, Cond.selects RX4 yX4_fall yX4_fall, Cond.code yX4_fall cX4_fall 5 (some .int), Cond.methodLink RL 164 yL_pledge, Cond.static yL_pledge, Cond.codeWith yL_pledge cL_pledge 6 (some .int) [(0, 12, 15, 13), (0, 12, 19, 15), (0, 12, 23, 28)], Cond.classLink RL 28 "java/lang/IllegalStateException", Cond.methodLink RL 24 yX3_pledge, Cond.instanceMethod yX3_pledge, Cond.selects RX3 yX3_pledge yX3_pledge, Cond.code yX3_pledge cX3_pledge 4 (some .int), Cond.fieldLink RX3 88 "PledgeHouse$Ledger" "pieces" "[I", Cond.methodLink RX3 70 yX3_needClient, Cond.static yX3_needClient, Cond.code yX3_needClient cX3_needClient 1 none, Cond.methodLink RX3 77 yX0_addPieces, Cond.instanceMethod yX0_addPieces, Cond.selects RX0 yX0_addPieces yX0_addPieces]
def wsL_law0_r11 : List Cond := [Cond.code yX0_addPieces cX0_addPieces 5 (some .boolean), Cond.methodLink RX3 81 yX3_need, Cond.static yX3_need, Cond.code yX3_need cX3_need 1 none, Cond.classLink RX3 140 "java/lang/IllegalStateException", Cond.initialized "java/lang/IllegalStateException", Cond.methodLink RX3 91 yX3_at, Cond.methodLink RL 167 yX4_pledge, Cond.instanceMethod yX4_pledge, Cond.selects RX4 yX4_pledge yX4_pledge, Cond.code yX4_pledge cX4_pledge 4 (some .int), Cond.methodLink RX4 109 yX4_areThere, Cond.instanceMethod yX4_areThere, Cond.selects RX4 yX4_areThere yX4_areThere, Cond.code yX4_areThere cX4_areThere 3 (some .boolean), Cond.methodLink RX4 106 yX4_isClient, Cond.static yX4_isClient, Cond.code yX4_isClient cX4_isClient 1 (some .boolean), Cond.methodLink RX4 112 yX4_canPledge, Cond.instanceMethod yX4_canPledge, Cond.selects RX4 yX4_canPledge yX4_canPledge, Cond.code yX4_canPledge cX4_canPledge 4 (some .boolean), Cond.methodLink RX4 70 yX4_grow, Cond.instanceMethod yX4_grow]
def wsL_law0_r12 : List Cond := [Cond.selects RX4 yX4_grow yX4_grow, Cond.code yX4_grow cX4_grow 4 none, Cond.methodLink RL 168 yL_release, Cond.static yL_release, Cond.codeWith yL_release cL_release 6 (some .int) [(0, 12, 15, 13), (0, 12, 19, 15), (0, 12, 23, 28)], Cond.methodLink RL 30 yX3_release, Cond.instanceMethod yX3_release, Cond.selects RX3 yX3_release yX3_release, Cond.code yX3_release cX3_release 4 (some .int), Cond.methodLink RX3 94 yX0_takePieces, Cond.instanceMethod yX0_takePieces, Cond.selects RX0 yX0_takePieces yX0_takePieces, Cond.code yX0_takePieces cX0_takePieces 5 (some .boolean), Cond.methodLink RL 170 yX4_release, Cond.instanceMethod yX4_release, Cond.selects RX4 yX4_release yX4_release, Cond.code yX4_release cX4_release 4 (some .int), Cond.methodLink RX4 115 yX4_canLack, Cond.instanceMethod yX4_canLack, Cond.selects RX4 yX4_canLack yX4_canLack, Cond.code yX4_canLack cX4_canLack 5 (some .boolean), Cond.methodLink RL 171 yL_deposit, Cond.static yL_deposit, Cond.codeWith yL_deposit cL_deposit 5 (some .int) [(0, 10, 13, 13), (0, 10, 17, 15), (0, 10, 21, 28)]]
def wsL_law0_r13 : List Cond := [Cond.methodLink RL 33 yX3_deposit, Cond.instanceMethod yX3_deposit, Cond.selects RX3 yX3_deposit yX3_deposit, Cond.code yX3_deposit cX3_deposit 3 (some .int), Cond.fieldLink RX3 101 "PledgeHouse$Ledger" "coins" "[I", Cond.methodLink RX3 97 yX0_addCoins, Cond.instanceMethod yX0_addCoins, Cond.selects RX0 yX0_addCoins yX0_addCoins, Cond.code yX0_addCoins cX0_addCoins 3 (some .boolean), Cond.constant RX0 120 (99999), Cond.methodLink RL 173 yX4_deposit, Cond.instanceMethod yX4_deposit, Cond.selects RX4 yX4_deposit yX4_deposit, Cond.code yX4_deposit cX4_deposit 3 (some .int), Cond.constant RX4 121 (99999), Cond.methodLink RX4 118 yX4_isThere, Cond.instanceMethod yX4_isThere, Cond.selects RX4 yX4_isThere yX4_isThere, Cond.code yX4_isThere cX4_isThere 2 (some .boolean), Cond.methodLink RL 174 yL_withdraw, Cond.static yL_withdraw, Cond.codeWith yL_withdraw cL_withdraw 5 (some .int) [(0, 10, 13, 13), (0, 10, 17, 15), (0, 10, 21, 28)], Cond.methodLink RL 36 yX3_withdraw, Cond.instanceMethod yX3_withdraw]
def wsL_law0_r14 : List Cond := [Cond.selects RX3 yX3_withdraw yX3_withdraw, Cond.code yX3_withdraw cX3_withdraw 3 (some .int), Cond.methodLink RX3 104 yX0_takeCoins, Cond.instanceMethod yX0_takeCoins, Cond.selects RX0 yX0_takeCoins yX0_takeCoins, Cond.code yX0_takeCoins cX0_takeCoins 3 (some .boolean), Cond.methodLink RL 176 yX4_withdraw, Cond.instanceMethod yX4_withdraw, Cond.selects RX4 yX4_withdraw yX4_withdraw, Cond.code yX4_withdraw cX4_withdraw 3 (some .int), Cond.methodLink RL 177 yL_lend, Cond.static yL_lend, Cond.codeWith yL_lend cL_lend 5 (some .int) [(0, 10, 13, 13), (0, 10, 17, 15), (0, 10, 21, 28)], Cond.methodLink RL 39 yX3_lend, Cond.instanceMethod yX3_lend, Cond.selects RX3 yX3_lend yX3_lend, Cond.code yX3_lend cX3_lend 3 (some .int), Cond.fieldLink RX3 110 "PledgeHouse$Ledger" "debts" "[I", Cond.methodLink RX3 107 yX0_addDebt, Cond.instanceMethod yX0_addDebt, Cond.selects RX0 yX0_addDebt yX0_addDebt, Cond.code yX0_addDebt cX0_addDebt 3 (some .boolean), Cond.methodLink RL 179 yX4_lend, Cond.instanceMethod yX4_lend]
def wsL_law0_r15 : List Cond := [Cond.selects RX4 yX4_lend yX4_lend, Cond.code yX4_lend cX4_lend 3 (some .int), Cond.methodLink RX4 122 yX4_canLend, Cond.instanceMethod yX4_canLend, Cond.selects RX4 yX4_canLend yX4_canLend, Cond.code yX4_canLend cX4_canLend 3 (some .boolean), Cond.methodLink RX4 125 yX4_lends, Cond.instanceMethod yX4_lends, Cond.selects RX4 yX4_lends yX4_lends, Cond.code yX4_lends cX4_lends 3 none, Cond.methodLink RL 180 yL_payBack, Cond.static yL_payBack, Cond.codeWith yL_payBack cL_payBack 5 (some .int) [(0, 10, 13, 13), (0, 10, 17, 15), (0, 10, 21, 28)], Cond.methodLink RL 42 yX3_payBack, Cond.instanceMethod yX3_payBack, Cond.selects RX3 yX3_payBack yX3_payBack, Cond.code yX3_payBack cX3_payBack 4 (some .int), Cond.methodLink RX3 113 yX0_takeDebt, Cond.instanceMethod yX0_takeDebt, Cond.selects RX0 yX0_takeDebt yX0_takeDebt, Cond.code yX0_takeDebt cX0_takeDebt 4 (some .int), Cond.methodLink RL 182 yX4_payBack, Cond.instanceMethod yX4_payBack, Cond.selects RX4 yX4_payBack yX4_payBack]
def wsL_law0_r16 : List Cond := [Cond.code yX4_payBack cX4_payBack 4 (some .int), Cond.methodLink RX4 128 yX4_paysBack, Cond.instanceMethod yX4_paysBack, Cond.selects RX4 yX4_paysBack yX4_paysBack, Cond.code yX4_paysBack cX4_paysBack 4 (some .int), Cond.methodLink RL 183 yL_readmit, Cond.static yL_readmit, Cond.codeWith yL_readmit cL_readmit 3 (some .int) [(0, 5, 8, 13), (0, 5, 11, 28)], Cond.methodLink RL 45 yX3_readmit, Cond.instanceMethod yX3_readmit, Cond.selects RX3 yX3_readmit yX3_readmit, Cond.code yX3_readmit cX3_readmit 2 none, Cond.methodLink RX3 116 yX0_liftBar, Cond.instanceMethod yX0_liftBar, Cond.selects RX0 yX0_liftBar yX0_liftBar, Cond.code yX0_liftBar cX0_liftBar 2 (some .boolean), Cond.methodLink RL 186 yX4_readmit, Cond.instanceMethod yX4_readmit, Cond.selects RX4 yX4_readmit yX4_readmit, Cond.code yX4_readmit cX4_readmit 2 none, Cond.methodLink RL 187 yL_pass, Cond.static yL_pass, Cond.codeWith yL_pass cL_pass 4 (some .int) [(0, 9, 12, 15)], Cond.methodLink RL 49 yX3_pass]
def wsL_law0_r17 : List Cond := [Cond.instanceMethod yX3_pass, Cond.selects RX3 yX3_pass yX3_pass, Cond.code yX3_pass cX3_pass 2 (some .int), Cond.methodLink RX3 120 yX0_passHours, Cond.instanceMethod yX0_passHours, Cond.selects RX0 yX0_passHours yX0_passHours, Cond.code yX0_passHours cX0_passHours 6 (some .int), Cond.methodLink RX0 121 yX0_calledAsBits, Cond.instanceMethod yX0_calledAsBits, Cond.selects RX0 yX0_calledAsBits yX0_calledAsBits, Cond.code yX0_calledAsBits cX0_calledAsBits 3 (some .int), Cond.methodLink RX0 124 yX0_addInterest, Cond.instanceMethod yX0_addInterest, Cond.selects RX0 yX0_addInterest yX0_addInterest, Cond.code yX0_addInterest cX0_addInterest 3 none, Cond.methodLink RX0 106 yX0_interestOn, Cond.instanceMethod yX0_interestOn, Cond.selects RX0 yX0_interestOn yX0_interestOn, Cond.code yX0_interestOn cX0_interestOn 2 (some .int), Cond.constantLong RX0 98 (9999), Cond.constantLong RX0 100 (10000), Cond.methodLink RX0 127 yX0_countDown, Cond.instanceMethod yX0_countDown, Cond.selects RX0 yX0_countDown yX0_countDown]
def wsL_law0_r18 : List Cond := [Cond.code yX0_countDown cX0_countDown 5 none, Cond.methodLink RX0 131 yX2_reckon, Cond.instanceMethod yX2_reckon, Cond.selects RX2 yX2_reckon yX2_reckon, Cond.code yX2_reckon cX2_reckon 5 none, Cond.fieldLink RX2 18 "PledgeHouse$Ledger" "coins" "[I", Cond.fieldLink RX2 23 "PledgeHouse$Sale" "coinsLeft" "I", Cond.fieldLink RX2 27 "PledgeHouse$Ledger" "debts" "[I", Cond.fieldLink RX2 30 "PledgeHouse$Sale" "debtLeft" "I", Cond.fieldLink RX2 33 "PledgeHouse$Sale" "piecesSold" "I", Cond.fieldLink RX2 36 "PledgeHouse$Sale" "coinsPaid" "I", Cond.fieldLink RX2 39 "PledgeHouse$Sale" "coinsLost" "I", Cond.methodLink RX2 42 yX2_layOutPieces, Cond.instanceMethod yX2_layOutPieces, Cond.selects RX2 yX2_layOutPieces yX2_layOutPieces, Cond.code yX2_layOutPieces cX2_layOutPieces 5 (some .int), Cond.fieldLink RX2 57 "PledgeHouse$Sale" "coverLeft" "I", Cond.fieldLink RX2 60 "PledgeHouse$Ledger" "pieces" "[I", Cond.methodLink RX2 67 yX2_keyOf, Cond.instanceMethod yX2_keyOf, Cond.selects RX2 yX2_keyOf yX2_keyOf, Cond.code yX2_keyOf cX2_keyOf 3 (some .int), Cond.fieldLink RX2 73 "PledgeHouse$Ledger" "salesOrder" "I", Cond.fieldLink RX2 76 "PledgeHouse$Ledger" "cuts" "[I"]
def wsL_law0_r19 : List Cond := [Cond.fieldLink RX2 79 "PledgeHouse$Ledger" "prices" "[I", Cond.methodLink RX2 70 yX2_coverOfOne, Cond.instanceMethod yX2_coverOfOne, Cond.selects RX2 yX2_coverOfOne yX2_coverOfOne, Cond.code yX2_coverOfOne cX2_coverOfOne 3 (some .int), Cond.methodLink RX2 46 yX2_payFromCoins, Cond.instanceMethod yX2_payFromCoins, Cond.selects RX2 yX2_payFromCoins yX2_payFromCoins, Cond.code yX2_payFromCoins cX2_payFromCoins 2 none, Cond.methodLink RX2 82 yX2_payWith, Cond.instanceMethod yX2_payWith, Cond.selects RX2 yX2_payWith yX2_payWith, Cond.code yX2_payWith cX2_payWith 3 none, Cond.methodLink RX2 49 yX2_isCovered, Cond.instanceMethod yX2_isCovered, Cond.selects RX2 yX2_isCovered yX2_isCovered, Cond.code yX2_isCovered cX2_isCovered 1 (some .boolean), Cond.methodLink RX2 53 yX2_sellOne, Cond.instanceMethod yX2_sellOne, Cond.selects RX2 yX2_sellOne yX2_sellOne, Cond.code yX2_sellOne cX2_sellOne 3 none, Cond.fieldLink RX2 90 "PledgeHouse$Ledger" "slipPercent" "I", Cond.methodLink RX2 86 yX2_firstKind, Cond.instanceMethod yX2_firstKind]
def wsL_law0_r20 : List Cond := [Cond.selects RX2 yX2_firstKind yX2_firstKind, Cond.code yX2_firstKind cX2_firstKind 3 (some .int), Cond.methodLink RX0 137 yX0_enterSale, Cond.instanceMethod yX0_enterSale, Cond.selects RX0 yX0_enterSale yX0_enterSale, Cond.code yX0_enterSale cX0_enterSale 5 none, Cond.fieldLink RX0 141 "PledgeHouse$Sale" "piecesLeft" "[I", Cond.fieldLink RX0 144 "PledgeHouse$Sale" "coinsLeft" "I", Cond.fieldLink RX0 147 "PledgeHouse$Sale" "debtLeft" "I", Cond.fieldLink RX0 150 "PledgeHouse$Sale" "coinsPaid" "I", Cond.fieldLink RX0 153 "PledgeHouse$Sale" "coinsLost" "I", Cond.methodLink RL 189 yX4_pass, Cond.instanceMethod yX4_pass, Cond.selects RX4 yX4_pass yX4_pass, Cond.code yX4_pass cX4_pass 3 (some .int), Cond.methodLink RX4 131 yX4_passes, Cond.instanceMethod yX4_passes, Cond.selects RX4 yX4_passes yX4_passes, Cond.code yX4_passes cX4_passes 4 (some .int), Cond.methodLink RX4 89 yX4_hour, Cond.instanceMethod yX4_hour, Cond.selects RX4 yX4_hour yX4_hour, Cond.code yX4_hour cX4_hour 5 (some .int), Cond.methodLink RX4 80 yX4_interestOf]
def wsL_law0_r21 : List Cond := [Cond.static yX4_interestOf, Cond.code yX4_interestOf cX4_interestOf 2 (some .int), Cond.methodLink RX4 86 yX4_sellsOut, Cond.instanceMethod yX4_sellsOut, Cond.selects RX4 yX4_sellsOut yX4_sellsOut, Cond.code yX4_sellsOut cX4_sellsOut 5 (some .int), Cond.methodLink RX4 73 yX4_pays, Cond.instanceMethod yX4_pays, Cond.selects RX4 yX4_pays yX4_pays, Cond.code yX4_pays cX4_pays 4 none, Cond.methodLink RX4 77 yX4_selling, Cond.instanceMethod yX4_selling, Cond.selects RX4 yX4_selling yX4_selling, Cond.code yX4_selling cX4_selling 4 (some .int), Cond.methodLink RX4 66 yX4_isAhead, Cond.instanceMethod yX4_isAhead, Cond.selects RX4 yX4_isAhead yX4_isAhead, Cond.code yX4_isAhead cX4_isAhead 4 (some .boolean), Cond.methodLink RL 190 yL_changeRate, Cond.static yL_changeRate, Cond.codeWith yL_changeRate cL_changeRate 4 (some .int) [(0, 9, 12, 15)], Cond.methodLink RL 52 yX3_changeRate, Cond.instanceMethod yX3_changeRate, Cond.selects RX3 yX3_changeRate yX3_changeRate]
def wsL_law0_r22 : List Cond := [Cond.code yX3_changeRate cX3_changeRate 3 (some .int), Cond.fieldLink RX3 124 "PledgeHouse$Ledger" "interestRate" "I", Cond.methodLink RL 192 yX4_changeRate, Cond.instanceMethod yX4_changeRate, Cond.selects RX4 yX4_changeRate yX4_changeRate, Cond.code yX4_changeRate cX4_changeRate 2 (some .int), Cond.methodLink RX4 134 yX4_rules, Cond.instanceMethod yX4_rules, Cond.selects RX4 yX4_rules yX4_rules, Cond.code yX4_rules cX4_rules 6 (some .int), Cond.methodLink RL 193 yL_changeGrace, Cond.static yL_changeGrace, Cond.codeWith yL_changeGrace cL_changeGrace 4 (some .int) [(0, 9, 12, 15)], Cond.methodLink RL 55 yX3_changeGrace, Cond.instanceMethod yX3_changeGrace, Cond.selects RX3 yX3_changeGrace yX3_changeGrace, Cond.code yX3_changeGrace cX3_changeGrace 3 (some .int), Cond.fieldLink RX3 128 "PledgeHouse$Ledger" "graceHours" "I", Cond.methodLink RL 195 yX4_changeGrace, Cond.instanceMethod yX4_changeGrace, Cond.selects RX4 yX4_changeGrace yX4_changeGrace, Cond.code yX4_changeGrace cX4_changeGrace 2 (some .int), Cond.methodLink RL 196 yL_changeSlip, Cond.static yL_changeSlip]
def wsL_law0_r23 : List Cond := [Cond.codeWith yL_changeSlip cL_changeSlip 4 (some .int) [(0, 9, 12, 15)], Cond.methodLink RL 58 yX3_changeSlip, Cond.instanceMethod yX3_changeSlip, Cond.selects RX3 yX3_changeSlip yX3_changeSlip, Cond.code yX3_changeSlip cX3_changeSlip 3 (some .int), Cond.fieldLink RX3 131 "PledgeHouse$Ledger" "slipPercent" "I", Cond.methodLink RL 198 yX4_changeSlip, Cond.instanceMethod yX4_changeSlip, Cond.selects RX4 yX4_changeSlip yX4_changeSlip, Cond.code yX4_changeSlip cX4_changeSlip 2 (some .int), Cond.methodLink RL 199 yX3_turnOrder, Cond.instanceMethod yX3_turnOrder, Cond.selects RX3 yX3_turnOrder yX3_turnOrder, Cond.code yX3_turnOrder cX3_turnOrder 1 (some .int), Cond.fieldLink RX3 134 "PledgeHouse$Ledger" "salesOrder" "I", Cond.methodLink RL 202 yX4_turnOrder, Cond.instanceMethod yX4_turnOrder, Cond.selects RX4 yX4_turnOrder yX4_turnOrder, Cond.code yX4_turnOrder cX4_turnOrder 1 (some .int), Cond.methodLink RL 203 yL_append, Cond.static yL_append, Cond.codeWith yL_append cL_append 4 (some .int) [(0, 9, 12, 15), (0, 9, 15, 28)], Cond.methodLink RL 61 yX3_append, Cond.instanceMethod yX3_append]
def wsL_law0_r24 : List Cond := [Cond.selects RX3 yX3_append yX3_append, Cond.code yX3_append cX3_append 2 (some .int), Cond.fieldLink RX3 137 "PledgeHouse$OrderText" "length" "I", Cond.fieldLink RX3 143 "PledgeHouse$OrderText" "codes" "[I", Cond.methodLink RL 205 yX4_append, Cond.instanceMethod yX4_append, Cond.selects RX4 yX4_append yX4_append, Cond.code yX4_append cX4_append 2 (some .int), Cond.fieldLink RX4 137 "PledgeHouseModel" "length" "I", Cond.methodLink RL 206 yX3_clearBuffer, Cond.instanceMethod yX3_clearBuffer, Cond.selects RX3 yX3_clearBuffer yX3_clearBuffer, Cond.code yX3_clearBuffer cX3_clearBuffer 2 (some .int), Cond.methodLink RL 209 yX4_clearBuffer, Cond.instanceMethod yX4_clearBuffer, Cond.selects RX4 yX4_clearBuffer yX4_clearBuffer, Cond.code yX4_clearBuffer cX4_clearBuffer 2 (some .int), Cond.methodLink RL 210 yX3_firstError, Cond.instanceMethod yX3_firstError, Cond.selects RX3 yX3_firstError yX3_firstError, Cond.code yX3_firstError cX3_firstError 1 (some .int), Cond.methodLink RX3 146 yX1_findError, Cond.instanceMethod yX1_findError, Cond.selects RX1 yX1_findError yX1_findError]
def wsL_law0_r25 : List Cond := [Cond.code yX1_findError cX1_findError 2 (some .int), Cond.fieldLink RX1 37 "PledgeHouse$OrderText" "length" "I", Cond.methodLink RX1 34 yX1_startPart, Cond.instanceMethod yX1_startPart, Cond.selects RX1 yX1_startPart yX1_startPart, Cond.code yX1_startPart cX1_startPart 1 none, Cond.fieldLink RX1 15 "PledgeHouse$OrderText" "letter" "I", Cond.fieldLink RX1 19 "PledgeHouse$OrderText" "step" "I", Cond.fieldLink RX1 22 "PledgeHouse$OrderText" "client" "I", Cond.fieldLink RX1 25 "PledgeHouse$OrderText" "kind" "I", Cond.fieldLink RX1 28 "PledgeHouse$OrderText" "number" "I", Cond.fieldLink RX1 31 "PledgeHouse$OrderText" "digits" "I", Cond.methodLink RX1 40 yX1_take, Cond.instanceMethod yX1_take, Cond.selects RX1 yX1_take yX1_take, Cond.code yX1_take cX1_take 2 (some .boolean), Cond.methodLink RX1 52 yX1_shapeOf, Cond.static yX1_shapeOf, Cond.code yX1_shapeOf cX1_shapeOf 1 (some (.object "java/lang/String")), Cond.methodLink RX1 56 yJ0_isEmpty_aae02, Cond.instanceMethod yJ0_isEmpty_aae02, Cond.selects RJ0 yJ0_isEmpty_aae02 yJ0_isEmpty_aae02, Cond.initialized RJ0, Cond.code yJ0_isEmpty_aae02 cJ0_isEmpty_aae02 1 (some .boolean)]
def wsL_law0_r26 : List Cond := [Cond.fieldLink RJ0 9 "java/lang/String" "value" "[B", Cond.methodLink RX1 48 yX1_isWholePart, Cond.instanceMethod yX1_isWholePart, Cond.selects RX1 yX1_isWholePart yX1_isWholePart, Cond.code yX1_isWholePart cX1_isWholePart 1 (some .boolean), Cond.methodLink RX1 61 yX1_takeInside, Cond.instanceMethod yX1_takeInside, Cond.selects RX1 yX1_takeInside yX1_takeInside, Cond.code yX1_takeInside cX1_takeInside 4 (some .boolean), Cond.methodLink RX1 64 yJ0_length_8abf5, Cond.instanceMethod yJ0_length_8abf5, Cond.selects RJ0 yJ0_length_8abf5 yJ0_length_8abf5, Cond.code yJ0_length_8abf5 cJ0_length_8abf5 1 (some .int), Cond.methodLink RJ0 335 yJ0_coder_7d493, Cond.instanceMethod yJ0_coder_7d493, Cond.selects RJ0 yJ0_coder_7d493 yJ0_coder_7d493, Cond.code yJ0_coder_7d493 cJ0_coder_7d493 1 (some .byte), Cond.fieldLink RJ0 38 "java/lang/String" "COMPACT_STRINGS" "Z", Cond.fieldLink RJ0 15 "java/lang/String" "coder" "B", Cond.methodLink RX1 66 yJ0_charAt_5068e, Cond.instanceMethod yJ0_charAt_5068e, Cond.selects RJ0 yJ0_charAt_5068e yJ0_charAt_5068e, Cond.code yJ0_charAt_5068e cJ0_charAt_5068e 2 (some .char), Cond.methodLink RJ0 492 yJ0_isLatin1_aae02]
def wsL_law0_r27 : List Cond := [Cond.instanceMethod yJ0_isLatin1_aae02, Cond.selects RJ0 yJ0_isLatin1_aae02 yJ0_isLatin1_aae02, Cond.code yJ0_isLatin1_aae02 cJ0_isLatin1_aae02 1 (some .boolean), Cond.methodLink RJ0 495 yJ1_charAt_3b067, Cond.static yJ1_charAt_3b067, Cond.initialized RJ1, Cond.code yJ1_charAt_3b067 cJ1_charAt_3b067 2 (some .char), Cond.methodLink RJ1 9 yJ0_checkIndex_df160, Cond.static yJ0_checkIndex_df160, Cond.code yJ0_checkIndex_df160 cJ0_checkIndex_df160 2 none, Cond.fieldLink RJ0 1053 "jdk/internal/util/Preconditions" "SIOOBE_FORMATTER" "Ljava/util/function/BiFunction;", Cond.methodLink RJ0 1059 yJ3_checkIndex_8e157, Cond.static yJ3_checkIndex_8e157, Cond.initialized RJ3, Cond.code yJ3_checkIndex_8e157 cJ3_checkIndex_8e157 3 (some .int), Cond.methodLink RJ0 498 yJ2_charAt_3b067, Cond.static yJ2_charAt_3b067, Cond.initialized RJ2, Cond.code yJ2_charAt_3b067 cJ2_charAt_3b067 2 (some .char), Cond.methodLink RJ2 67 yJ2_checkIndex_2214a, Cond.static yJ2_checkIndex_2214a, Cond.code yJ2_checkIndex_2214a cJ2_checkIndex_2214a 2 none, Cond.methodLink RJ2 48 yJ2_length_9d52b, Cond.static yJ2_length_9d52b]
def wsL_law0_r28 : List Cond := [Cond.code yJ2_length_9d52b cJ2_length_9d52b 1 (some .int), Cond.methodLink RJ2 414 yJ0_checkIndex_df160, Cond.methodLink RJ2 71 yJ2_getChar_3b067, Cond.static yJ2_getChar_3b067, Cond.code yJ2_getChar_3b067 cJ2_getChar_3b067 2 (some .char), Cond.fieldLink RJ2 44 "java/lang/StringUTF16" "$assertionsDisabled" "Z", Cond.fieldLink RJ2 59 "java/lang/StringUTF16" "HI_BYTE_SHIFT" "I", Cond.fieldLink RJ2 63 "java/lang/StringUTF16" "LO_BYTE_SHIFT" "I", Cond.methodLink RX1 70 yX1_takeDigit, Cond.instanceMethod yX1_takeDigit, Cond.selects RX1 yX1_takeDigit yX1_takeDigit, Cond.code yX1_takeDigit cX1_takeDigit 3 (some .boolean), Cond.methodLink RX1 73 yX1_leastNumber, Cond.instanceMethod yX1_leastNumber, Cond.selects RX1 yX1_leastNumber yX1_leastNumber, Cond.code yX1_leastNumber cX1_leastNumber 1 (some .int), Cond.methodLink RX1 76 yX1_mostNumber, Cond.instanceMethod yX1_mostNumber, Cond.selects RX1 yX1_mostNumber yX1_mostNumber, Cond.code yX1_mostNumber cX1_mostNumber 1 (some .int), Cond.methodLink RL 213 yX4_firstError, Cond.instanceMethod yX4_firstError, Cond.selects RX4 yX4_firstError yX4_firstError, Cond.code yX4_firstError cX4_firstError 2 (some .int)]
def wsL_law0_r29 : List Cond := [Cond.fieldLink RX4 143 "PledgeHouseModel" "isWrong" "Z", Cond.fieldLink RX4 140 "PledgeHouseModel" "at" "I", Cond.methodLink RX4 161 yX4_go, Cond.instanceMethod yX4_go, Cond.selects RX4 yX4_go yX4_go, Cond.code yX4_go cX4_go 4 (some .boolean), Cond.methodLink RX4 157 yX4_isOrdered, Cond.instanceMethod yX4_isOrdered, Cond.selects RX4 yX4_isOrdered yX4_isOrdered, Cond.code yX4_isOrdered cX4_isOrdered 9 (some .boolean), Cond.methodLink RX4 147 yX4_sign, Cond.instanceMethod yX4_sign, Cond.selects RX4 yX4_sign yX4_sign, Cond.code yX4_sign cX4_sign 4 (some .int), Cond.methodLink RX4 150 yX4_number, Cond.instanceMethod yX4_number, Cond.selects RX4 yX4_number yX4_number, Cond.code yX4_number cX4_number 4 (some .int), Cond.methodLink RX4 153 yX4_isFollowed, Cond.instanceMethod yX4_isFollowed, Cond.selects RX4 yX4_isFollowed yX4_isFollowed, Cond.code yX4_isFollowed cX4_isFollowed 7 (some .boolean), Cond.methodLink RL 214 yL_follow, Cond.static yL_follow]
def wsL_law0_r30 : List Cond := [Cond.codeWith yL_follow cL_follow 3 (some .int) [(0, 8, 11, 15), (0, 8, 14, 28)], Cond.methodLink RL 64 yX3_follow, Cond.instanceMethod yX3_follow, Cond.selects RX3 yX3_follow yX3_follow, Cond.code yX3_follow cX3_follow 3 (some .int), Cond.methodLink RX3 150 yX1_tellsOrders, Cond.instanceMethod yX1_tellsOrders, Cond.selects RX1 yX1_tellsOrders yX1_tellsOrders, Cond.code yX1_tellsOrders cX1_tellsOrders 1 (some .boolean), Cond.methodLink RX1 44 yX1_findError, Cond.methodLink RX3 157 yX1_startPart, Cond.methodLink RX3 160 yX1_take, Cond.methodLink RX3 163 yX1_endsPart, Cond.instanceMethod yX1_endsPart, Cond.selects RX1 yX1_endsPart yX1_endsPart, Cond.code yX1_endsPart cX1_endsPart 2 (some .boolean), Cond.methodLink RX3 166 yX3_carryOutPart, Cond.instanceMethod yX3_carryOutPart, Cond.selects RX3 yX3_carryOutPart yX3_carryOutPart, Cond.code yX3_carryOutPart cX3_carryOutPart 1 (some .boolean), Cond.fieldLink RX3 310 "PledgeHouse$OrderText" "letter" "I", Cond.fieldLink RX3 313 "PledgeHouse$OrderText" "kind" "I", Cond.fieldLink RX3 316 "PledgeHouse$OrderText" "number" "I", Cond.fieldLink RX3 319 "PledgeHouse$OrderText" "client" "I"]
def wsL_law0_r31 : List Cond := [Cond.methodLink RX3 169 yX0_countCalled, Cond.instanceMethod yX0_countCalled, Cond.selects RX0 yX0_countCalled yX0_countCalled, Cond.code yX0_countCalled cX0_countCalled 3 (some .int), Cond.methodLink RL 217 yX4_follow, Cond.instanceMethod yX4_follow, Cond.selects RX4 yX4_follow yX4_follow, Cond.code yX4_follow cX4_follow 2 (some .int), Cond.methodLink RX4 164 yX4_keepsAside, Cond.instanceMethod yX4_keepsAside, Cond.selects RX4 yX4_keepsAside yX4_keepsAside, Cond.code yX4_keepsAside cX4_keepsAside 2 none, Cond.methodLink RX4 167 yX4_putsBack, Cond.instanceMethod yX4_putsBack, Cond.selects RX4 yX4_putsBack yX4_putsBack, Cond.code yX4_putsBack cX4_putsBack 2 none, Cond.methodLink RX4 170 yX4_allCalled, Cond.instanceMethod yX4_allCalled, Cond.selects RX4 yX4_allCalled yX4_allCalled, Cond.code yX4_allCalled cX4_allCalled 3 (some .int), Cond.methodLink RL 218 yL_keep, Cond.static yL_keep, Cond.codeWith yL_keep cL_keep 3 (some .int) [(0, 5, 8, 15)], Cond.methodLink RL 68 yX3_keep]
def wsL_law0_r32 : List Cond := [Cond.instanceMethod yX3_keep, Cond.selects RX3 yX3_keep yX3_keep, Cond.code yX3_keep cX3_keep 2 none, Cond.methodLink RL 220 yX4_keep, Cond.instanceMethod yX4_keep, Cond.selects RX4 yX4_keep yX4_keep, Cond.code yX4_keep cX4_keep 3 none, Cond.methodLink RL 221 yL_goBack, Cond.static yL_goBack, Cond.codeWith yL_goBack cL_goBack 3 (some .int) [(0, 5, 8, 15), (0, 5, 11, 28)], Cond.methodLink RL 71 yX3_goBack, Cond.instanceMethod yX3_goBack, Cond.selects RX3 yX3_goBack yX3_goBack, Cond.code yX3_goBack cX3_goBack 2 none, Cond.methodLink RL 223 yX4_goBack, Cond.instanceMethod yX4_goBack, Cond.selects RX4 yX4_goBack yX4_goBack, Cond.code yX4_goBack cX4_goBack 3 none, Cond.methodLink RL 224 yL_undo, Cond.static yL_undo, Cond.codeWith yL_undo cL_undo 2 (some .int) [(0, 4, 7, 28)], Cond.methodLink RL 74 yX3_undo, Cond.instanceMethod yX3_undo, Cond.selects RX3 yX3_undo yX3_undo]
def wsL_law0_r33 : List Cond := [Cond.code yX3_undo cX3_undo 1 none, Cond.methodLink RL 227 yX4_undo, Cond.instanceMethod yX4_undo, Cond.selects RX4 yX4_undo yX4_undo, Cond.code yX4_undo cX4_undo 2 none, Cond.methodLink RL 228 yX3_savedStates, Cond.instanceMethod yX3_savedStates, Cond.selects RX3 yX3_savedStates yX3_savedStates, Cond.code yX3_savedStates cX3_savedStates 1 (some .int), Cond.methodLink RL 231 yX4_savedStates, Cond.instanceMethod yX4_savedStates, Cond.selects RX4 yX4_savedStates yX4_savedStates, Cond.code yX4_savedStates cX4_savedStates 1 (some .int), Cond.methodLink RL 232 yL_priceOf, Cond.static yL_priceOf, Cond.codeWith yL_priceOf cL_priceOf 4 (some .int) [(0, 9, 12, 13)], Cond.methodLink RL 77 yX3_priceOf, Cond.instanceMethod yX3_priceOf, Cond.selects RX3 yX3_priceOf yX3_priceOf, Cond.code yX3_priceOf cX3_priceOf 2 (some .int), Cond.fieldLink RX3 175 "PledgeHouse$Ledger" "prices" "[I", Cond.methodLink RL 234 yX4_priceOf, Cond.instanceMethod yX4_priceOf, Cond.selects RX4 yX4_priceOf yX4_priceOf]
def wsL_law0_r34 : List Cond := [Cond.code yX4_priceOf cX4_priceOf 2 (some .int), Cond.methodLink RX4 173 yX4_told, Cond.instanceMethod yX4_told, Cond.selects RX4 yX4_told yX4_told, Cond.code yX4_told cX4_told 3 (some .int), Cond.methodLink RL 235 yL_cutOf, Cond.static yL_cutOf, Cond.codeWith yL_cutOf cL_cutOf 4 (some .int) [(0, 9, 12, 13)], Cond.methodLink RL 80 yX3_cutOf, Cond.instanceMethod yX3_cutOf, Cond.selects RX3 yX3_cutOf yX3_cutOf, Cond.code yX3_cutOf cX3_cutOf 2 (some .int), Cond.fieldLink RX3 178 "PledgeHouse$Ledger" "cuts" "[I", Cond.methodLink RL 237 yX4_cutOf, Cond.instanceMethod yX4_cutOf, Cond.selects RX4 yX4_cutOf yX4_cutOf, Cond.code yX4_cutOf cX4_cutOf 2 (some .int), Cond.methodLink RL 238 yL_pledgedOf, Cond.static yL_pledgedOf, Cond.codeWith yL_pledgedOf cL_pledgedOf 4 (some .int) [(0, 9, 12, 13)], Cond.methodLink RL 83 yX3_pledgedOf, Cond.instanceMethod yX3_pledgedOf, Cond.selects RX3 yX3_pledgedOf yX3_pledgedOf, Cond.code yX3_pledgedOf cX3_pledgedOf 2 (some .int)]
def wsL_law0_r35 : List Cond := [Cond.methodLink RX3 181 yX0_piecesOfAll, Cond.instanceMethod yX0_piecesOfAll, Cond.selects RX0 yX0_piecesOfAll yX0_piecesOfAll, Cond.code yX0_piecesOfAll cX0_piecesOfAll 4 (some .int), Cond.methodLink RL 240 yX4_pledgedOf, Cond.instanceMethod yX4_pledgedOf, Cond.selects RX4 yX4_pledgedOf yX4_pledgedOf, Cond.code yX4_pledgedOf cX4_pledgedOf 2 (some .int), Cond.methodLink RX4 176 yX4_pledged, Cond.instanceMethod yX4_pledged, Cond.selects RX4 yX4_pledged yX4_pledged, Cond.code yX4_pledged cX4_pledged 4 (some .int), Cond.methodLink RL 241 yL_soldOf, Cond.static yL_soldOf, Cond.codeWith yL_soldOf cL_soldOf 4 (some .int) [(0, 9, 12, 13)], Cond.methodLink RL 86 yX3_soldOf, Cond.instanceMethod yX3_soldOf, Cond.selects RX3 yX3_soldOf yX3_soldOf, Cond.code yX3_soldOf cX3_soldOf 2 (some .int), Cond.fieldLink RX3 184 "PledgeHouse$Ledger" "soldPieces" "[I", Cond.methodLink RL 243 yX4_soldOf, Cond.instanceMethod yX4_soldOf, Cond.selects RX4 yX4_soldOf yX4_soldOf, Cond.code yX4_soldOf cX4_soldOf 2 (some .int)]
def wsL_law0_r36 : List Cond := [Cond.methodLink RL 244 yL_piecesOf, Cond.static yL_piecesOf, Cond.codeWith yL_piecesOf cL_piecesOf 5 (some .int) [(0, 10, 13, 13)], Cond.methodLink RL 89 yX3_piecesOf, Cond.instanceMethod yX3_piecesOf, Cond.selects RX3 yX3_piecesOf yX3_piecesOf, Cond.code yX3_piecesOf cX3_piecesOf 3 (some .int), Cond.methodLink RL 246 yX4_piecesOf, Cond.instanceMethod yX4_piecesOf, Cond.selects RX4 yX4_piecesOf yX4_piecesOf, Cond.code yX4_piecesOf cX4_piecesOf 3 (some .int), Cond.methodLink RL 247 yL_coinsOf, Cond.static yL_coinsOf, Cond.codeWith yL_coinsOf cL_coinsOf 4 (some .int) [(0, 9, 12, 13)], Cond.methodLink RL 92 yX3_coinsOf, Cond.instanceMethod yX3_coinsOf, Cond.selects RX3 yX3_coinsOf yX3_coinsOf, Cond.code yX3_coinsOf cX3_coinsOf 2 (some .int), Cond.methodLink RL 249 yX4_coinsOf, Cond.instanceMethod yX4_coinsOf, Cond.selects RX4 yX4_coinsOf yX4_coinsOf, Cond.code yX4_coinsOf cX4_coinsOf 2 (some .int), Cond.methodLink RL 250 yL_debtOf, Cond.static yL_debtOf]
def wsL_law0_r37 : List Cond := [Cond.codeWith yL_debtOf cL_debtOf 4 (some .int) [(0, 9, 12, 13)], Cond.methodLink RL 95 yX3_debtOf, Cond.instanceMethod yX3_debtOf, Cond.selects RX3 yX3_debtOf yX3_debtOf, Cond.code yX3_debtOf cX3_debtOf 2 (some .int), Cond.methodLink RL 252 yX4_debtOf, Cond.instanceMethod yX4_debtOf, Cond.selects RX4 yX4_debtOf yX4_debtOf, Cond.code yX4_debtOf cX4_debtOf 2 (some .int), Cond.methodLink RL 253 yL_worthOf, Cond.static yL_worthOf, Cond.codeWith yL_worthOf cL_worthOf 4 (some .int) [(0, 9, 12, 13)], Cond.methodLink RL 98 yX3_worthOf, Cond.instanceMethod yX3_worthOf, Cond.selects RX3 yX3_worthOf yX3_worthOf, Cond.code yX3_worthOf cX3_worthOf 2 (some .int), Cond.methodLink RX3 187 yX0_worth, Cond.instanceMethod yX0_worth, Cond.selects RX0 yX0_worth yX0_worth, Cond.code yX0_worth cX0_worth 4 (some .int), Cond.methodLink RL 255 yX4_worthOf, Cond.instanceMethod yX4_worthOf, Cond.selects RX4 yX4_worthOf yX4_worthOf, Cond.code yX4_worthOf cX4_worthOf 2 (some .int)]
def wsL_law0_r38 : List Cond := [Cond.methodLink RX4 179 yX4_worth, Cond.instanceMethod yX4_worth, Cond.selects RX4 yX4_worth yX4_worth, Cond.code yX4_worth cX4_worth 4 (some .int), Cond.methodLink RL 256 yL_coverOf, Cond.static yL_coverOf, Cond.codeWith yL_coverOf cL_coverOf 4 (some .int) [(0, 9, 12, 13)], Cond.methodLink RL 101 yX3_coverOf, Cond.instanceMethod yX3_coverOf, Cond.selects RX3 yX3_coverOf yX3_coverOf, Cond.code yX3_coverOf cX3_coverOf 2 (some .int), Cond.methodLink RX3 190 yX0_cover, Cond.methodLink RL 258 yX4_coverOf, Cond.instanceMethod yX4_coverOf, Cond.selects RX4 yX4_coverOf yX4_coverOf, Cond.code yX4_coverOf cX4_coverOf 2 (some .int), Cond.methodLink RL 259 yL_roomOf, Cond.static yL_roomOf, Cond.codeWith yL_roomOf cL_roomOf 4 (some .int) [(0, 9, 12, 13)], Cond.methodLink RL 104 yX3_roomOf, Cond.instanceMethod yX3_roomOf, Cond.selects RX3 yX3_roomOf yX3_roomOf, Cond.code yX3_roomOf cX3_roomOf 2 (some .int), Cond.methodLink RX3 193 yX0_openRoom]
def wsL_law0_r39 : List Cond := [Cond.instanceMethod yX0_openRoom, Cond.selects RX0 yX0_openRoom yX0_openRoom, Cond.code yX0_openRoom cX0_openRoom 3 (some .int), Cond.methodLink RL 261 yX4_roomOf, Cond.instanceMethod yX4_roomOf, Cond.selects RX4 yX4_roomOf yX4_roomOf, Cond.code yX4_roomOf cX4_roomOf 2 (some .int), Cond.methodLink RX4 182 yX4_room, Cond.instanceMethod yX4_room, Cond.selects RX4 yX4_room yX4_room, Cond.code yX4_room cX4_room 3 (some .int), Cond.methodLink RL 262 yL_isCalled, Cond.static yL_isCalled, Cond.codeWith yL_isCalled cL_isCalled 4 (some .int) [(0, 16, 19, 13)], Cond.methodLink RL 107 yX3_isCalled, Cond.instanceMethod yX3_isCalled, Cond.selects RX3 yX3_isCalled yX3_isCalled, Cond.code yX3_isCalled cX3_isCalled 2 (some .boolean), Cond.fieldLink RX3 196 "PledgeHouse$Ledger" "callHours" "[I", Cond.methodLink RL 264 yX4_isCalled, Cond.instanceMethod yX4_isCalled, Cond.selects RX4 yX4_isCalled yX4_isCalled, Cond.code yX4_isCalled cX4_isCalled 2 (some .boolean), Cond.methodLink RL 265 yL_hoursLeft]
def wsL_law0_r40 : List Cond := [Cond.static yL_hoursLeft, Cond.codeWith yL_hoursLeft cL_hoursLeft 4 (some .int) [(0, 9, 12, 13), (0, 9, 15, 28)], Cond.methodLink RL 111 yX3_hoursLeft, Cond.instanceMethod yX3_hoursLeft, Cond.selects RX3 yX3_hoursLeft yX3_hoursLeft, Cond.code yX3_hoursLeft cX3_hoursLeft 2 (some .int), Cond.methodLink RL 267 yX4_hoursLeft, Cond.instanceMethod yX4_hoursLeft, Cond.selects RX4 yX4_hoursLeft yX4_hoursLeft, Cond.code yX4_hoursLeft cX4_hoursLeft 2 (some .int), Cond.methodLink RL 268 yL_isBarred, Cond.static yL_isBarred, Cond.codeWith yL_isBarred cL_isBarred 4 (some .int) [(0, 16, 19, 13)], Cond.methodLink RL 114 yX3_isBarred, Cond.instanceMethod yX3_isBarred, Cond.selects RX3 yX3_isBarred yX3_isBarred, Cond.code yX3_isBarred cX3_isBarred 2 (some .boolean), Cond.fieldLink RX3 199 "PledgeHouse$Ledger" "barred" "[Z", Cond.methodLink RL 270 yX4_isBarred, Cond.instanceMethod yX4_isBarred, Cond.selects RX4 yX4_isBarred yX4_isBarred, Cond.code yX4_isBarred cX4_isBarred 2 (some .boolean), Cond.methodLink RL 271 yL_rankOf, Cond.static yL_rankOf]
def wsL_law0_r41 : List Cond := [Cond.codeWith yL_rankOf cL_rankOf 4 (some .int) [(0, 9, 12, 13)], Cond.methodLink RL 117 yX3_rankOf, Cond.instanceMethod yX3_rankOf, Cond.selects RX3 yX3_rankOf yX3_rankOf, Cond.code yX3_rankOf cX3_rankOf 2 (some .int), Cond.methodLink RX3 202 yX0_riskPlace, Cond.instanceMethod yX0_riskPlace, Cond.selects RX0 yX0_riskPlace yX0_riskPlace, Cond.code yX0_riskPlace cX0_riskPlace 4 (some .int), Cond.methodLink RX0 109 yX0_isRiskier, Cond.instanceMethod yX0_isRiskier, Cond.selects RX0 yX0_isRiskier yX0_isRiskier, Cond.code yX0_isRiskier cX0_isRiskier 9 (some .boolean), Cond.methodLink RL 273 yX4_rankOf, Cond.instanceMethod yX4_rankOf, Cond.selects RX4 yX4_rankOf yX4_rankOf, Cond.code yX4_rankOf cX4_rankOf 2 (some .int), Cond.methodLink RX4 188 yX4_rank, Cond.instanceMethod yX4_rank, Cond.selects RX4 yX4_rank yX4_rank, Cond.code yX4_rank cX4_rank 4 (some .int), Cond.methodLink RX4 185 yX4_isRiskier, Cond.instanceMethod yX4_isRiskier, Cond.selects RX4 yX4_isRiskier yX4_isRiskier]
def wsL_law0_r42 : List Cond := [Cond.code yX4_isRiskier cX4_isRiskier 7 (some .boolean), Cond.methodLink RL 274 yL_riskyBySorting, Cond.static yL_riskyBySorting, Cond.codeWith yL_riskyBySorting cL_riskyBySorting 4 (some .int) [(0, 9, 12, 13)], Cond.methodLink RL 120 yX3_riskyBySorting, Cond.instanceMethod yX3_riskyBySorting, Cond.selects RX3 yX3_riskyBySorting yX3_riskyBySorting, Cond.code yX3_riskyBySorting cX3_riskyBySorting 2 (some .int), Cond.methodLink RX3 205 yX3_needPlace, Cond.static yX3_needPlace, Cond.code yX3_needPlace cX3_needPlace 1 none, Cond.methodLink RX3 208 yX0_sortByRisk, Cond.instanceMethod yX0_sortByRisk, Cond.selects RX0 yX0_sortByRisk yX0_sortByRisk, Cond.code yX0_sortByRisk cX0_sortByRisk 4 none, Cond.methodLink RL 276 yX4_riskyBySorting, Cond.instanceMethod yX4_riskyBySorting, Cond.selects RX4 yX4_riskyBySorting yX4_riskyBySorting, Cond.code yX4_riskyBySorting cX4_riskyBySorting 2 (some .int), Cond.methodLink RX4 191 yX4_risky, Cond.instanceMethod yX4_risky, Cond.selects RX4 yX4_risky yX4_risky, Cond.code yX4_risky cX4_risky 4 (some .int), Cond.methodLink RL 277 yL_riskyByTaking]
def wsL_law0_r43 : List Cond := [Cond.static yL_riskyByTaking, Cond.codeWith yL_riskyByTaking cL_riskyByTaking 4 (some .int) [(0, 9, 12, 13)], Cond.methodLink RL 123 yX3_riskyByTaking, Cond.instanceMethod yX3_riskyByTaking, Cond.selects RX3 yX3_riskyByTaking yX3_riskyByTaking, Cond.code yX3_riskyByTaking cX3_riskyByTaking 2 (some .int), Cond.methodLink RX3 212 yX0_takeRiskiest, Cond.instanceMethod yX0_takeRiskiest, Cond.selects RX0 yX0_takeRiskiest yX0_takeRiskiest, Cond.code yX0_takeRiskiest cX0_takeRiskiest 5 (some .int), Cond.methodLink RX0 113 yX0_riskiestBut, Cond.instanceMethod yX0_riskiestBut, Cond.selects RX0 yX0_riskiestBut yX0_riskiestBut, Cond.code yX0_riskiestBut cX0_riskiestBut 5 (some .int), Cond.methodLink RL 279 yX4_riskyByTaking, Cond.instanceMethod yX4_riskyByTaking, Cond.selects RX4 yX4_riskyByTaking yX4_riskyByTaking, Cond.code yX4_riskyByTaking cX4_riskyByTaking 2 (some .int), Cond.methodLink RL 280 yX3_calledNow, Cond.instanceMethod yX3_calledNow, Cond.selects RX3 yX3_calledNow yX3_calledNow, Cond.code yX3_calledNow cX3_calledNow 1 (some .int), Cond.methodLink RL 283 yX4_calledNow, Cond.instanceMethod yX4_calledNow]
def wsL_law0_r44 : List Cond := [Cond.selects RX4 yX4_calledNow yX4_calledNow, Cond.code yX4_calledNow cX4_calledNow 1 (some .int), Cond.methodLink RL 284 yX3_rate, Cond.instanceMethod yX3_rate, Cond.selects RX3 yX3_rate yX3_rate, Cond.code yX3_rate cX3_rate 1 (some .int), Cond.methodLink RL 287 yX4_rate, Cond.instanceMethod yX4_rate, Cond.selects RX4 yX4_rate yX4_rate, Cond.code yX4_rate cX4_rate 1 (some .int), Cond.methodLink RX4 194 yX4_rule, Cond.instanceMethod yX4_rule, Cond.selects RX4 yX4_rule yX4_rule, Cond.code yX4_rule cX4_rule 2 (some .int), Cond.methodLink RL 288 yX3_grace, Cond.instanceMethod yX3_grace, Cond.selects RX3 yX3_grace yX3_grace, Cond.code yX3_grace cX3_grace 1 (some .int), Cond.methodLink RL 291 yX4_grace, Cond.instanceMethod yX4_grace, Cond.selects RX4 yX4_grace yX4_grace, Cond.code yX4_grace cX4_grace 1 (some .int), Cond.methodLink RL 292 yX3_slip, Cond.instanceMethod yX3_slip]
def wsL_law0_r45 : List Cond := [Cond.selects RX3 yX3_slip yX3_slip, Cond.code yX3_slip cX3_slip 1 (some .int), Cond.methodLink RL 295 yX4_slip, Cond.instanceMethod yX4_slip, Cond.selects RX4 yX4_slip yX4_slip, Cond.code yX4_slip cX4_slip 1 (some .int), Cond.methodLink RL 296 yX3_order, Cond.instanceMethod yX3_order, Cond.selects RX3 yX3_order yX3_order, Cond.code yX3_order cX3_order 1 (some .int), Cond.methodLink RL 299 yX4_order, Cond.instanceMethod yX4_order, Cond.selects RX4 yX4_order yX4_order, Cond.code yX4_order cX4_order 1 (some .int), Cond.methodLink RL 300 yL_fallToCallByTrying, Cond.static yL_fallToCallByTrying, Cond.codeWith yL_fallToCallByTrying cL_fallToCallByTrying 4 (some .int) [(0, 9, 12, 13), (0, 9, 15, 28)], Cond.methodLink RL 126 yX3_fallToCallByTrying, Cond.instanceMethod yX3_fallToCallByTrying, Cond.selects RX3 yX3_fallToCallByTrying yX3_fallToCallByTrying, Cond.code yX3_fallToCallByTrying cX3_fallToCallByTrying 3 (some .int), Cond.methodLink RX3 215 yX0_callingFallByTrying, Cond.instanceMethod yX0_callingFallByTrying, Cond.selects RX0 yX0_callingFallByTrying yX0_callingFallByTrying]
def wsL_law0_r46 : List Cond := [Cond.code yX0_callingFallByTrying cX0_callingFallByTrying 3 (some .int), Cond.methodLink RX0 102 yX0_staysCovered, Cond.instanceMethod yX0_staysCovered, Cond.selects RX0 yX0_staysCovered yX0_staysCovered, Cond.code yX0_staysCovered cX0_staysCovered 4 (some .boolean), Cond.methodLink RL 302 yX4_fallToCallByTrying, Cond.instanceMethod yX4_fallToCallByTrying, Cond.selects RX4 yX4_fallToCallByTrying yX4_fallToCallByTrying, Cond.code yX4_fallToCallByTrying cX4_fallToCallByTrying 2 (some .int), Cond.methodLink RX4 200 yX4_toldFall, Cond.instanceMethod yX4_toldFall, Cond.selects RX4 yX4_toldFall yX4_toldFall, Cond.code yX4_toldFall cX4_toldFall 3 (some .int), Cond.methodLink RX4 197 yX4_falling, Cond.instanceMethod yX4_falling, Cond.selects RX4 yX4_falling yX4_falling, Cond.code yX4_falling cX4_falling 3 (some .int), Cond.methodLink RL 303 yL_fallToCallByHalving, Cond.static yL_fallToCallByHalving, Cond.codeWith yL_fallToCallByHalving cL_fallToCallByHalving 4 (some .int) [(0, 9, 12, 13), (0, 9, 15, 28)], Cond.methodLink RL 129 yX3_fallToCallByHalving, Cond.instanceMethod yX3_fallToCallByHalving, Cond.selects RX3 yX3_fallToCallByHalving yX3_fallToCallByHalving, Cond.code yX3_fallToCallByHalving cX3_fallToCallByHalving 3 (some .int)]
def wsL_law0_r47 : List Cond := [Cond.methodLink RX3 218 yX0_callingFallByHalving, Cond.instanceMethod yX0_callingFallByHalving, Cond.selects RX0 yX0_callingFallByHalving yX0_callingFallByHalving, Cond.code yX0_callingFallByHalving cX0_callingFallByHalving 6 (some .int), Cond.methodLink RL 305 yX4_fallToCallByHalving, Cond.instanceMethod yX4_fallToCallByHalving, Cond.selects RX4 yX4_fallToCallByHalving yX4_fallToCallByHalving, Cond.code yX4_fallToCallByHalving cX4_fallToCallByHalving 2 (some .int), Cond.methodLink RL 306 yL_hoursToCall, Cond.static yL_hoursToCall, Cond.codeWith yL_hoursToCall cL_hoursToCall 4 (some .int) [(0, 9, 12, 13), (0, 9, 15, 28)], Cond.methodLink RL 132 yX3_hoursToCall, Cond.instanceMethod yX3_hoursToCall, Cond.selects RX3 yX3_hoursToCall yX3_hoursToCall, Cond.code yX3_hoursToCall cX3_hoursToCall 3 (some .int), Cond.methodLink RX3 221 yX0_hoursUntilCall, Cond.instanceMethod yX0_hoursUntilCall, Cond.selects RX0 yX0_hoursUntilCall yX0_hoursUntilCall, Cond.code yX0_hoursUntilCall cX0_hoursUntilCall 5 (some .int), Cond.methodLink RL 308 yX4_hoursToCall, Cond.instanceMethod yX4_hoursToCall, Cond.selects RX4 yX4_hoursToCall yX4_hoursToCall, Cond.code yX4_hoursToCall cX4_hoursToCall 5 (some .int), Cond.methodLink RL 309 yL_wouldSell]
def wsL_law0_r48 : List Cond := [Cond.static yL_wouldSell, Cond.codeWith yL_wouldSell cL_wouldSell 4 (some .int) [(0, 9, 12, 13)], Cond.methodLink RL 135 yX3_wouldSell, Cond.instanceMethod yX3_wouldSell, Cond.selects RX3 yX3_wouldSell yX3_wouldSell, Cond.code yX3_wouldSell cX3_wouldSell 2 (some .int), Cond.fieldLink RX3 228 "PledgeHouse$Sale" "piecesSold" "I", Cond.methodLink RX3 224 yX2_reckon, Cond.methodLink RL 311 yX4_wouldSell, Cond.instanceMethod yX4_wouldSell, Cond.selects RX4 yX4_wouldSell yX4_wouldSell, Cond.code yX4_wouldSell cX4_wouldSell 2 (some .int), Cond.methodLink RX4 203 yX4_would, Cond.instanceMethod yX4_would, Cond.selects RX4 yX4_would yX4_would, Cond.code yX4_would cX4_would 6 (some .int), Cond.methodLink RL 312 yL_wouldLose, Cond.static yL_wouldLose, Cond.codeWith yL_wouldLose cL_wouldLose 4 (some .int) [(0, 9, 12, 13)], Cond.methodLink RL 138 yX3_wouldLose, Cond.instanceMethod yX3_wouldLose, Cond.selects RX3 yX3_wouldLose yX3_wouldLose, Cond.code yX3_wouldLose cX3_wouldLose 2 (some .int), Cond.fieldLink RX3 231 "PledgeHouse$Sale" "coinsLost" "I"]
def wsL_law0_r49 : List Cond := [Cond.methodLink RL 314 yX4_wouldLose, Cond.instanceMethod yX4_wouldLose, Cond.selects RX4 yX4_wouldLose yX4_wouldLose, Cond.code yX4_wouldLose cX4_wouldLose 2 (some .int), Cond.methodLink RL 315 yL_calledIfFallen, Cond.static yL_calledIfFallen, Cond.codeWith yL_calledIfFallen cL_calledIfFallen 4 (some .int) [(0, 9, 12, 15)], Cond.methodLink RL 141 yX3_calledIfFallen, Cond.instanceMethod yX3_calledIfFallen, Cond.selects RX3 yX3_calledIfFallen yX3_calledIfFallen, Cond.code yX3_calledIfFallen cX3_calledIfFallen 2 (some .int), Cond.methodLink RX3 234 yX0_countUncoveredAfterFall, Cond.instanceMethod yX0_countUncoveredAfterFall, Cond.selects RX0 yX0_countUncoveredAfterFall yX0_countUncoveredAfterFall, Cond.code yX0_countUncoveredAfterFall cX0_countUncoveredAfterFall 4 (some .int), Cond.methodLink RL 317 yX4_calledIfFallen, Cond.instanceMethod yX4_calledIfFallen, Cond.selects RX4 yX4_calledIfFallen yX4_calledIfFallen, Cond.code yX4_calledIfFallen cX4_calledIfFallen 2 (some .int), Cond.methodLink RX4 207 yX4_ifFallen, Cond.instanceMethod yX4_ifFallen, Cond.selects RX4 yX4_ifFallen yX4_ifFallen, Cond.code yX4_ifFallen cX4_ifFallen 4 (some .int), Cond.methodLink RL 318 yX3_hours]
def wsL_law0_r50 : List Cond := [Cond.instanceMethod yX3_hours, Cond.selects RX3 yX3_hours yX3_hours, Cond.code yX3_hours cX3_hours 1 (some .int), Cond.fieldLink RX3 237 "PledgeHouse$Ledger" "passedHours" "I", Cond.methodLink RL 321 yX4_hours, Cond.instanceMethod yX4_hours, Cond.selects RX4 yX4_hours yX4_hours, Cond.code yX4_hours cX4_hours 1 (some .int), Cond.methodLink RL 322 yX3_debtsByClients, Cond.instanceMethod yX3_debtsByClients, Cond.selects RX3 yX3_debtsByClients yX3_debtsByClients, Cond.code yX3_debtsByClients cX3_debtsByClients 1 (some .int), Cond.methodLink RX3 240 yX0_debtsOfAll, Cond.instanceMethod yX0_debtsOfAll, Cond.selects RX0 yX0_debtsOfAll yX0_debtsOfAll, Cond.code yX0_debtsOfAll cX0_debtsOfAll 3 (some .int), Cond.methodLink RL 325 yX4_debtsByClients, Cond.instanceMethod yX4_debtsByClients, Cond.selects RX4 yX4_debtsByClients yX4_debtsByClients, Cond.code yX4_debtsByClients cX4_debtsByClients 1 (some .int), Cond.methodLink RX4 210 yX4_debts, Cond.instanceMethod yX4_debts, Cond.selects RX4 yX4_debts yX4_debts, Cond.code yX4_debts cX4_debts 3 (some .int)]
def wsL_law0_r51 : List Cond := [Cond.methodLink RL 326 yX3_debtsByAccount, Cond.instanceMethod yX3_debtsByAccount, Cond.selects RX3 yX3_debtsByAccount yX3_debtsByAccount, Cond.code yX3_debtsByAccount cX3_debtsByAccount 1 (some .int), Cond.fieldLink RX3 243 "PledgeHouse$Ledger" "lentCoins" "I", Cond.fieldLink RX3 246 "PledgeHouse$Ledger" "interestCoins" "I", Cond.fieldLink RX3 249 "PledgeHouse$Ledger" "repaidCoins" "I", Cond.fieldLink RX3 252 "PledgeHouse$Ledger" "lostCoins" "I", Cond.methodLink RL 329 yX4_debtsByAccount, Cond.instanceMethod yX4_debtsByAccount, Cond.selects RX4 yX4_debtsByAccount yX4_debtsByAccount, Cond.code yX4_debtsByAccount cX4_debtsByAccount 1 (some .int), Cond.methodLink RL 330 yX3_lent, Cond.instanceMethod yX3_lent, Cond.selects RX3 yX3_lent yX3_lent, Cond.code yX3_lent cX3_lent 1 (some .int), Cond.methodLink RL 333 yX4_lent, Cond.instanceMethod yX4_lent, Cond.selects RX4 yX4_lent yX4_lent, Cond.code yX4_lent cX4_lent 1 (some .int), Cond.methodLink RL 334 yX3_interest, Cond.instanceMethod yX3_interest, Cond.selects RX3 yX3_interest yX3_interest, Cond.code yX3_interest cX3_interest 1 (some .int)]
def wsL_law0_r52 : List Cond := [Cond.methodLink RL 337 yX4_interest, Cond.instanceMethod yX4_interest, Cond.selects RX4 yX4_interest yX4_interest, Cond.code yX4_interest cX4_interest 1 (some .int), Cond.methodLink RL 338 yX3_repaid, Cond.instanceMethod yX3_repaid, Cond.selects RX3 yX3_repaid yX3_repaid, Cond.code yX3_repaid cX3_repaid 1 (some .int), Cond.methodLink RL 341 yX4_repaid, Cond.instanceMethod yX4_repaid, Cond.selects RX4 yX4_repaid yX4_repaid, Cond.code yX4_repaid cX4_repaid 1 (some .int), Cond.methodLink RL 342 yX3_lost, Cond.instanceMethod yX3_lost, Cond.selects RX3 yX3_lost yX3_lost, Cond.code yX3_lost cX3_lost 1 (some .int), Cond.methodLink RL 345 yX4_lost, Cond.instanceMethod yX4_lost, Cond.selects RX4 yX4_lost yX4_lost, Cond.code yX4_lost cX4_lost 1 (some .int), Cond.methodLink RL 346 yX3_calls, Cond.instanceMethod yX3_calls, Cond.selects RX3 yX3_calls yX3_calls, Cond.code yX3_calls cX3_calls 1 (some .int)]
def wsL_law0_r53 : List Cond := [Cond.fieldLink RX3 255 "PledgeHouse$Ledger" "callCount" "I", Cond.methodLink RL 349 yX4_calls, Cond.instanceMethod yX4_calls, Cond.selects RX4 yX4_calls yX4_calls, Cond.code yX4_calls cX4_calls 1 (some .int), Cond.methodLink RL 350 yX3_soldOut, Cond.instanceMethod yX3_soldOut, Cond.selects RX3 yX3_soldOut yX3_soldOut, Cond.code yX3_soldOut cX3_soldOut 1 (some .int), Cond.fieldLink RX3 258 "PledgeHouse$Ledger" "soldOutCount" "I", Cond.methodLink RL 353 yX4_soldOut, Cond.instanceMethod yX4_soldOut, Cond.selects RX4 yX4_soldOut yX4_soldOut, Cond.code yX4_soldOut cX4_soldOut 1 (some .int), Cond.methodLink RL 354 yX3_usedShare, Cond.instanceMethod yX3_usedShare, Cond.selects RX3 yX3_usedShare yX3_usedShare, Cond.code yX3_usedShare cX3_usedShare 2 (some .double), Cond.methodLink RX3 261 yX0_coverOfAll, Cond.instanceMethod yX0_coverOfAll, Cond.selects RX0 yX0_coverOfAll yX0_coverOfAll, Cond.code yX0_coverOfAll cX0_coverOfAll 3 (some .int), Cond.methodLink RL 358 yX4_usedShare, Cond.instanceMethod yX4_usedShare]
def wsL_law0_r54 : List Cond := [Cond.selects RX4 yX4_usedShare yX4_usedShare, Cond.code yX4_usedShare cX4_usedShare 1 (some .double), Cond.methodLink RX4 213 yX4_used, Cond.instanceMethod yX4_used, Cond.selects RX4 yX4_used yX4_used, Cond.code yX4_used cX4_used 3 (some .double), Cond.methodLink RL 359 yX3_digest, Cond.instanceMethod yX3_digest, Cond.selects RX3 yX3_digest yX3_digest, Cond.code yX3_digest cX3_digest 4 (some .long), Cond.constantLong RX3 264 (4397), Cond.methodLink RX3 266 yX3_hashKind, Cond.instanceMethod yX3_hashKind, Cond.selects RX3 yX3_hashKind yX3_hashKind, Cond.code yX3_hashKind cX3_hashKind 6 (some .long), Cond.methodLink RX3 276 yX3_mixed, Cond.static yX3_mixed, Cond.code yX3_mixed cX3_mixed 4 (some .long), Cond.constantLong RX3 304 (31), Cond.methodLink RX3 270 yX3_hashPledges, Cond.instanceMethod yX3_hashPledges, Cond.selects RX3 yX3_hashPledges yX3_hashPledges, Cond.code yX3_hashPledges cX3_hashPledges 7 (some .long), Cond.methodLink RX3 273 yX3_hashOutlook]
def wsL_law0_r55 : List Cond := [Cond.instanceMethod yX3_hashOutlook, Cond.selects RX3 yX3_hashOutlook yX3_hashOutlook, Cond.code yX3_hashOutlook cX3_hashOutlook 6 (some .long), Cond.methodLink RX3 280 yX3_hashRules, Cond.instanceMethod yX3_hashRules, Cond.selects RX3 yX3_hashRules yX3_hashRules, Cond.code yX3_hashRules cX3_hashRules 5 (some .long), Cond.methodLink RX3 284 yX3_hashAccounts, Cond.instanceMethod yX3_hashAccounts, Cond.selects RX3 yX3_hashAccounts yX3_hashAccounts, Cond.code yX3_hashAccounts cX3_hashAccounts 5 (some .long), Cond.methodLink RX3 290 yX3_debtsByClients, Cond.methodLink RX3 293 yX3_debtsByAccount, Cond.methodLink RX3 296 yX3_usedShare, Cond.methodLink RX3 300 yX3_bitsOf, Cond.static yX3_bitsOf, Cond.code yX3_bitsOf cX3_bitsOf 7 (some .long), Cond.constantDouble RX3 306 (4611686018427387904), Cond.constantDouble RX3 308 (4841369599423283200), Cond.methodLink RX3 287 yX3_hashSlotsAndText, Cond.instanceMethod yX3_hashSlotsAndText, Cond.selects RX3 yX3_hashSlotsAndText yX3_hashSlotsAndText, Cond.code yX3_hashSlotsAndText cX3_hashSlotsAndText 6 (some .long), Cond.methodLink RL 363 yX4_digest]
def wsL_law0_r56 : List Cond := [Cond.instanceMethod yX4_digest, Cond.selects RX4 yX4_digest yX4_digest, Cond.code yX4_digest cX4_digest 3 (some .long), Cond.constantLong RX4 227 (4397), Cond.fieldLink RX4 223 "PledgeHouseModel" "hash" "J", Cond.methodLink RX4 229 yX4_mix, Cond.instanceMethod yX4_mix, Cond.selects RX4 yX4_mix yX4_mix, Cond.code yX4_mix cX4_mix 3 none, Cond.constantLong RX4 221 (31), Cond.methodLink RX4 233 yX4_bitsOf, Cond.static yX4_bitsOf, Cond.code yX4_bitsOf cX4_bitsOf 14 (some .long), Cond.constantDouble RX4 217 (4611686018427387904), Cond.constantLong RX4 219 (2)]
def wsL_law0 : List Cond := (wsL_law0_r1 ++ (wsL_law0_r2 ++ (wsL_law0_r3 ++ (wsL_law0_r4 ++ (wsL_law0_r5 ++ (wsL_law0_r6 ++ (wsL_law0_r7 ++ (wsL_law0_r8 ++ (wsL_law0_r9 ++ (wsL_law0_r10 ++ (wsL_law0_r11 ++ (wsL_law0_r12 ++ (wsL_law0_r13 ++ (wsL_law0_r14 ++ (wsL_law0_r15 ++ (wsL_law0_r16 ++ (wsL_law0_r17 ++ (wsL_law0_r18 ++ (wsL_law0_r19 ++ (wsL_law0_r20 ++ (wsL_law0_r21 ++ (wsL_law0_r22 ++ (wsL_law0_r23 ++ (wsL_law0_r24 ++ (wsL_law0_r25 ++ (wsL_law0_r26 ++ (wsL_law0_r27 ++ (wsL_law0_r28 ++ (wsL_law0_r29 ++ (wsL_law0_r30 ++ (wsL_law0_r31 ++ (wsL_law0_r32 ++ (wsL_law0_r33 ++ (wsL_law0_r34 ++ (wsL_law0_r35 ++ (wsL_law0_r36 ++ (wsL_law0_r37 ++ (wsL_law0_r38 ++ (wsL_law0_r39 ++ (wsL_law0_r40 ++ (wsL_law0_r41 ++ (wsL_law0_r42 ++ (wsL_law0_r43 ++ (wsL_law0_r44 ++ (wsL_law0_r45 ++ (wsL_law0_r46 ++ (wsL_law0_r47 ++ (wsL_law0_r48 ++ (wsL_law0_r49 ++ (wsL_law0_r50 ++ (wsL_law0_r51 ++ (wsL_law0_r52 ++ (wsL_law0_r53 ++ (wsL_law0_r54 ++ (wsL_law0_r55 ++ wsL_law0_r56))))))))))))))))))))))))))))))))))))))))))))))))))))))) ++ wsX30 ++ wsX40 ++ wsX10 ++ wsX20 ++ wsX00 ++ ([] : List Cond)
def wsL_law : List Cond := wsL_law0 ++ (vx_at0 RX3 324 "java/lang/IndexOutOfBoundsException" ["java/lang/RuntimeException", "java/lang/Exception"]).filter goodWord ++ (vx_at0 RX3 156 "java/lang/IllegalArgumentException" ["java/lang/RuntimeException", "java/lang/Exception"]).filter goodWord ++ (vx_at0 RX3 142 "java/lang/IllegalStateException" ["java/lang/RuntimeException", "java/lang/Exception"]).filter goodWord
set_option maxRecDepth 20000 in
theorem wsL_law_in0 : ∀ w ∈ wsL_law0, w ∈ lw_tbl := fun w h => (goodIn_p wsL_law0 [81, 84, 89, 127, 166, 170, 1115, 630, 633, 699, 291, 295, 302, 718, 722, 483, 487, 490, 493, 1161, 1164, 1167, 1171, 1175, 1179, 1183, 1187, 1191, 1195, 1199, 1203, 1207, 1211, 1157, 729, 733, 1215, 740, 744, 1219, 752, 755, 759, 762, 1223, 1227, 1230, 1234, 1238, 784, 788, 1242, 1246, 795, 799, 1250, 1254, 807, 811, 1259, 818, 822, 1263, 1267, 1271, 829, 833, 1275, 1279, 840, 844, 1283, 851, 855, 859, 863, 867, 873, 552, 556, 561, 565, 569, 573, 577, 581, 585, 878, 1287, 1291, 1295, 1298, 1302, 1306, 1310, 1314, 885, 1318, 1322, 892, 1326, 899, 1330, 287, 1334, 906, 1338, 306, 1342, 310, 314, 318, 322, 325, 334, 338, 342, 346, 350, 356, 360, 363, 366, 371, 374, 377, 380, 384, 394, 398, 402, 1346, 1350, 1354, 1358, 1362, 1366, 913, 917, 924, 928, 415, 1370, 1374, 1378, 1382, 935, 1386, 942, 1390, 949, 1394, 407, 1398, 956, 1402, 1406, 963, 1410, 970, 510, 1414, 1418, 977, 1422, 984, 1426, 991, 1430, 998, 1434, 1005, 519, 1438, 1442, 1012, 1446, 1019, 524, 1450, 1454, 1026, 1458, 1033, 1462, 1040, 1466, 1047, 532, 536, 1470, 1474, 1478, 1054, 1057, 589, 1482, 1486, 1064, 593, 597, 1490, 411, 1494, 419, 1498, 1502, 423, 1506, 427, 1510, 431, 1514, 1071, 540, 544, 1518, 1522, 1526, 1078, 548, 1530, 1085, 1089, 1534, 1096, 1538, 1542, 1103, 1546, 1110, 605, 1550, 1554, 435, 1558, 439, 443, 1562, 1566, 447, 1570, 451, 1574, 455, 1578, 459, 1582, 463, 1586, 467, 1590, 471, 1594, 475, 479, 1598, 1602, 497, 502, 505, 514, 528, 601, 609, 615, 621, 1606, 1611, 1615] (by decide +kernel) (by decide +kernel) w h).1
theorem wsL_law_x0 : ∀ w ∈ (vx_at0 RX3 324 "java/lang/IndexOutOfBoundsException" ["java/lang/RuntimeException", "java/lang/Exception"]).filter goodWord, w ∈ lw_tbl := by decide +kernel
theorem wsL_law_x1 : ∀ w ∈ (vx_at0 RX3 156 "java/lang/IllegalArgumentException" ["java/lang/RuntimeException", "java/lang/Exception"]).filter goodWord, w ∈ lw_tbl := by decide +kernel
theorem wsL_law_x2 : ∀ w ∈ (vx_at0 RX3 142 "java/lang/IllegalStateException" ["java/lang/RuntimeException", "java/lang/Exception"]).filter goodWord, w ∈ lw_tbl := by decide +kernel
theorem wsL_law_in : ∀ w ∈ wsL_law, w ∈ lw_tbl := fun w h => (List.mem_append.mp h).elim (fun h => (List.mem_append.mp h).elim (fun h => (List.mem_append.mp h).elim (fun h => wsL_law_in0 w h) (fun h => wsL_law_x0 w h)) (fun h => wsL_law_x1 w h)) (fun h => wsL_law_x2 w h)
theorem inlX0 : ∀ w ∈ wsX00, w ∈ wsL_law := fun _ h => List.mem_append_left _ (List.mem_append_left _ (List.mem_append_left _ (List.mem_append_left _ (List.mem_append_right _ h))))
theorem inX0 : ∀ w ∈ wsX00, w ∈ lw_tbl := fun w h => wsL_law_in w (inlX0 w h)
theorem inlX1 : ∀ w ∈ wsX10, w ∈ wsL_law := fun _ h => List.mem_append_left _ (List.mem_append_left _ (List.mem_append_left _ (List.mem_append_left _ (List.mem_append_left _ (List.mem_append_left _ (List.mem_append_right _ h))))))
theorem inX1 : ∀ w ∈ wsX10, w ∈ lw_tbl := fun w h => wsL_law_in w (inlX1 w h)
theorem inlX2 : ∀ w ∈ wsX20, w ∈ wsL_law := fun _ h => List.mem_append_left _ (List.mem_append_left _ (List.mem_append_left _ (List.mem_append_left _ (List.mem_append_left _ (List.mem_append_right _ h)))))
theorem inX2 : ∀ w ∈ wsX20, w ∈ lw_tbl := fun w h => wsL_law_in w (inlX2 w h)
theorem inlX3 : ∀ w ∈ wsX30, w ∈ wsL_law := fun _ h => List.mem_append_left _ (List.mem_append_left _ (List.mem_append_left _ (List.mem_append_left _ (List.mem_append_left _ (List.mem_append_left _ (List.mem_append_left _ (List.mem_append_left _ (List.mem_append_right _ h))))))))
theorem inX3 : ∀ w ∈ wsX30, w ∈ lw_tbl := fun w h => wsL_law_in w (inlX3 w h)
theorem inlX4 : ∀ w ∈ wsX40, w ∈ wsL_law := fun _ h => List.mem_append_left _ (List.mem_append_left _ (List.mem_append_left _ (List.mem_append_left _ (List.mem_append_left _ (List.mem_append_left _ (List.mem_append_left _ (List.mem_append_right _ h)))))))
theorem inX4 : ∀ w ∈ wsX40, w ∈ lw_tbl := fun w h => wsL_law_in w (inlX4 w h)
theorem inJx145de : ∀ w ∈ wsJx145de0, w ∈ lw_tbl := by decide +kernel
theorem inJx9f9b0 : ∀ w ∈ wsJx9f9b00, w ∈ lw_tbl := by decide +kernel
theorem inJxb160c : ∀ w ∈ wsJxb160c0, w ∈ lw_tbl := by decide +kernel
theorem inJ0 : ∀ w ∈ wsJ00, w ∈ lw_tbl := by decide +kernel
theorem inJ1 : ∀ w ∈ wsJ10, w ∈ lw_tbl := by decide +kernel
theorem inJ2 : ∀ w ∈ wsJ20, w ∈ lw_tbl := by decide +kernel
theorem inJ10 : ∀ w ∈ wsJ100, w ∈ lw_tbl := by decide +kernel
theorem inJxfd54e : ∀ w ∈ wsJxfd54e0, w ∈ lw_tbl := by decide +kernel
theorem inJx3cf43 : ∀ w ∈ wsJx3cf430, w ∈ lw_tbl := by decide +kernel
theorem inJ7 : ∀ w ∈ wsJ70, w ∈ lw_tbl := by decide +kernel
theorem inJ3 : ∀ w ∈ wsJ30, w ∈ lw_tbl := by decide +kernel
abbrev vwCl : List vw_C := [(RX0, TX0, 19), (RX1, TX1, 8), (RX2, TX2, 8), (RX3, TX3, 9), (RX4, TX4, 12)]
end
