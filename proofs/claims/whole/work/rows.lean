section
-- ===== PART A: goes FIRST, ahead of the names: the tables' words, and 'selects' of the private methods out of them =====
/-- a private method of a class that the tables say can be made, by its rows of tables_1 -/
def lw_okq (q : MethodName × Nat) : Prop := (q.1.cls ≠ "java/lang/invoke/MethodHandle" ∧ q.1.cls ≠ "java/lang/invoke/VarHandle") ∧ Cond.instantiable q.1.cls q.2 ∈ tables_1 ∧ Cond.privateMethod q.1 ∈ tables_1 ∧ Cond.instanceMethod q.1 ∈ tables_1
theorem lw_p0 : lw_okq (⟨"EmberSpuds", "bringSort", "(II)Z"⟩, 12) := ⟨⟨by decide +kernel, by decide +kernel⟩, List.mem_of_getElem? (i := 22) (by decide +kernel), List.mem_of_getElem? (i := 1036) (by decide +kernel), List.mem_of_getElem? (i := 1037) (by decide +kernel)⟩
theorem lw_p1 : lw_okq (⟨"EmberSpudsModel", "firstDraft", "()V"⟩, 27) := ⟨⟨by decide +kernel, by decide +kernel⟩, List.mem_of_getElem? (i := 1052) (by decide +kernel), List.mem_of_getElem? (i := 1058) (by decide +kernel), List.mem_of_getElem? (i := 1059) (by decide +kernel)⟩
theorem lw_p2 : lw_okq (⟨"EmberSpudsModel", "keepDraft", "()V"⟩, 27) := ⟨⟨by decide +kernel, by decide +kernel⟩, List.mem_of_getElem? (i := 1052) (by decide +kernel), List.mem_of_getElem? (i := 1062) (by decide +kernel), List.mem_of_getElem? (i := 1063) (by decide +kernel)⟩
theorem lw_p3 : lw_okq (⟨"EmberSpudsModel", "next", "()V"⟩, 27) := ⟨⟨by decide +kernel, by decide +kernel⟩, List.mem_of_getElem? (i := 1052) (by decide +kernel), List.mem_of_getElem? (i := 1164) (by decide +kernel), List.mem_of_getElem? (i := 1165) (by decide +kernel)⟩
theorem lw_p4 : lw_okq (⟨"EmberSpudsModel", "look", "(I)I"⟩, 27) := ⟨⟨by decide +kernel, by decide +kernel⟩, List.mem_of_getElem? (i := 1052) (by decide +kernel), List.mem_of_getElem? (i := 1168) (by decide +kernel), List.mem_of_getElem? (i := 1169) (by decide +kernel)⟩
theorem lw_p5 : lw_okq (⟨"EmberSpudsModel", "needs", "(ZI)V"⟩, 27) := ⟨⟨by decide +kernel, by decide +kernel⟩, List.mem_of_getElem? (i := 1052) (by decide +kernel), List.mem_of_getElem? (i := 1176) (by decide +kernel), List.mem_of_getElem? (i := 1177) (by decide +kernel)⟩
theorem lw_p6 : lw_okq (⟨"EmberSpudsModel", "readLine", "()V"⟩, 27) := ⟨⟨by decide +kernel, by decide +kernel⟩, List.mem_of_getElem? (i := 1052) (by decide +kernel), List.mem_of_getElem? (i := 1180) (by decide +kernel), List.mem_of_getElem? (i := 1181) (by decide +kernel)⟩
theorem lw_p7 : lw_okq (⟨"EmberSpudsModel", "lineNow", "()I"⟩, 27) := ⟨⟨by decide +kernel, by decide +kernel⟩, List.mem_of_getElem? (i := 1052) (by decide +kernel), List.mem_of_getElem? (i := 1184) (by decide +kernel), List.mem_of_getElem? (i := 1185) (by decide +kernel)⟩
theorem lw_p8 : lw_okq (⟨"EmberSpudsModel", "is", "(IIII)Z"⟩, 27) := ⟨⟨by decide +kernel, by decide +kernel⟩, List.mem_of_getElem? (i := 1052) (by decide +kernel), List.mem_of_getElem? (i := 1188) (by decide +kernel), List.mem_of_getElem? (i := 1189) (by decide +kernel)⟩
theorem lw_p9 : lw_okq (⟨"EmberSpudsModel", "ends", "(I)Z"⟩, 27) := ⟨⟨by decide +kernel, by decide +kernel⟩, List.mem_of_getElem? (i := 1052) (by decide +kernel), List.mem_of_getElem? (i := 1192) (by decide +kernel), List.mem_of_getElem? (i := 1193) (by decide +kernel)⟩
theorem lw_p10 : lw_okq (⟨"EmberSpudsModel", "readLineOf", "(I)V"⟩, 27) := ⟨⟨by decide +kernel, by decide +kernel⟩, List.mem_of_getElem? (i := 1052) (by decide +kernel), List.mem_of_getElem? (i := 1196) (by decide +kernel), List.mem_of_getElem? (i := 1197) (by decide +kernel)⟩
theorem lw_p11 : lw_okq (⟨"EmberSpudsModel", "readNumber", "(II)I"⟩, 27) := ⟨⟨by decide +kernel, by decide +kernel⟩, List.mem_of_getElem? (i := 1052) (by decide +kernel), List.mem_of_getElem? (i := 1200) (by decide +kernel), List.mem_of_getElem? (i := 1201) (by decide +kernel)⟩
theorem lw_p12 : lw_okq (⟨"EmberSpudsModel", "looked", "(II)I"⟩, 27) := ⟨⟨by decide +kernel, by decide +kernel⟩, List.mem_of_getElem? (i := 1052) (by decide +kernel), List.mem_of_getElem? (i := 1204) (by decide +kernel), List.mem_of_getElem? (i := 1205) (by decide +kernel)⟩
theorem lw_p13 : lw_okq (⟨"EmberSpudsModel", "readHeat", "()V"⟩, 27) := ⟨⟨by decide +kernel, by decide +kernel⟩, List.mem_of_getElem? (i := 1052) (by decide +kernel), List.mem_of_getElem? (i := 1208) (by decide +kernel), List.mem_of_getElem? (i := 1209) (by decide +kernel)⟩
theorem lw_p14 : lw_okq (⟨"EmberSpudsModel", "lookedCell", "()I"⟩, 27) := ⟨⟨by decide +kernel, by decide +kernel⟩, List.mem_of_getElem? (i := 1052) (by decide +kernel), List.mem_of_getElem? (i := 1212) (by decide +kernel), List.mem_of_getElem? (i := 1213) (by decide +kernel)⟩
theorem lw_p15 : lw_okq (⟨"EmberSpudsModel", "readWood", "()V"⟩, 27) := ⟨⟨by decide +kernel, by decide +kernel⟩, List.mem_of_getElem? (i := 1052) (by decide +kernel), List.mem_of_getElem? (i := 1216) (by decide +kernel), List.mem_of_getElem? (i := 1217) (by decide +kernel)⟩
def lw_privs_1 : List (MethodName × Nat) := [(⟨"EmberSpuds", "bringSort", "(II)Z"⟩, 12), (⟨"EmberSpudsModel", "firstDraft", "()V"⟩, 27), (⟨"EmberSpudsModel", "keepDraft", "()V"⟩, 27), (⟨"EmberSpudsModel", "next", "()V"⟩, 27), (⟨"EmberSpudsModel", "look", "(I)I"⟩, 27), (⟨"EmberSpudsModel", "needs", "(ZI)V"⟩, 27), (⟨"EmberSpudsModel", "readLine", "()V"⟩, 27), (⟨"EmberSpudsModel", "lineNow", "()I"⟩, 27), (⟨"EmberSpudsModel", "is", "(IIII)Z"⟩, 27), (⟨"EmberSpudsModel", "ends", "(I)Z"⟩, 27), (⟨"EmberSpudsModel", "readLineOf", "(I)V"⟩, 27), (⟨"EmberSpudsModel", "readNumber", "(II)I"⟩, 27), (⟨"EmberSpudsModel", "looked", "(II)I"⟩, 27), (⟨"EmberSpudsModel", "readHeat", "()V"⟩, 27), (⟨"EmberSpudsModel", "lookedCell", "()I"⟩, 27), (⟨"EmberSpudsModel", "readWood", "()V"⟩, 27)]
theorem lw_r1 : ∀ q ∈ lw_privs_1, lw_okq q := List.forall_mem_cons.mpr ⟨lw_p0, List.forall_mem_cons.mpr ⟨lw_p1, List.forall_mem_cons.mpr ⟨lw_p2, List.forall_mem_cons.mpr ⟨lw_p3, List.forall_mem_cons.mpr ⟨lw_p4, List.forall_mem_cons.mpr ⟨lw_p5, List.forall_mem_cons.mpr ⟨lw_p6, List.forall_mem_cons.mpr ⟨lw_p7, List.forall_mem_cons.mpr ⟨lw_p8, List.forall_mem_cons.mpr ⟨lw_p9, List.forall_mem_cons.mpr ⟨lw_p10, List.forall_mem_cons.mpr ⟨lw_p11, List.forall_mem_cons.mpr ⟨lw_p12, List.forall_mem_cons.mpr ⟨lw_p13, List.forall_mem_cons.mpr ⟨lw_p14, List.forall_mem_cons.mpr ⟨lw_p15, fun _ h => absurd h List.not_mem_nil⟩⟩⟩⟩⟩⟩⟩⟩⟩⟩⟩⟩⟩⟩⟩⟩
theorem lw_p16 : lw_okq (⟨"EmberSpudsModel", "readCell", "()I"⟩, 27) := ⟨⟨by decide +kernel, by decide +kernel⟩, List.mem_of_getElem? (i := 1052) (by decide +kernel), List.mem_of_getElem? (i := 1220) (by decide +kernel), List.mem_of_getElem? (i := 1221) (by decide +kernel)⟩
theorem lw_p17 : lw_okq (⟨"EmberSpudsModel", "readMemo", "()V"⟩, 27) := ⟨⟨by decide +kernel, by decide +kernel⟩, List.mem_of_getElem? (i := 1052) (by decide +kernel), List.mem_of_getElem? (i := 1224) (by decide +kernel), List.mem_of_getElem? (i := 1225) (by decide +kernel)⟩
theorem lw_p18 : lw_okq (⟨"EmberSpudsModel", "readSpud", "(Z)V"⟩, 27) := ⟨⟨by decide +kernel, by decide +kernel⟩, List.mem_of_getElem? (i := 1052) (by decide +kernel), List.mem_of_getElem? (i := 1228) (by decide +kernel), List.mem_of_getElem? (i := 1229) (by decide +kernel)⟩
theorem lw_p19 : lw_okq (⟨"EmberSpudsModel", "readWrap", "()I"⟩, 27) := ⟨⟨by decide +kernel, by decide +kernel⟩, List.mem_of_getElem? (i := 1052) (by decide +kernel), List.mem_of_getElem? (i := 1232) (by decide +kernel), List.mem_of_getElem? (i := 1233) (by decide +kernel)⟩
theorem lw_p20 : lw_okq (⟨"EmberSpudsModel", "wrapNow", "()I"⟩, 27) := ⟨⟨by decide +kernel, by decide +kernel⟩, List.mem_of_getElem? (i := 1052) (by decide +kernel), List.mem_of_getElem? (i := 1236) (by decide +kernel), List.mem_of_getElem? (i := 1237) (by decide +kernel)⟩
theorem lw_p21 : lw_okq (⟨"EmberSpudsModel", "isPlace", "(I)Z"⟩, 27) := ⟨⟨by decide +kernel, by decide +kernel⟩, List.mem_of_getElem? (i := 1052) (by decide +kernel), List.mem_of_getElem? (i := 1252) (by decide +kernel), List.mem_of_getElem? (i := 1253) (by decide +kernel)⟩
theorem lw_p22 : lw_okq (⟨"EmberSpudsModel", "isSpud", "(I)Z"⟩, 27) := ⟨⟨by decide +kernel, by decide +kernel⟩, List.mem_of_getElem? (i := 1052) (by decide +kernel), List.mem_of_getElem? (i := 1265) (by decide +kernel), List.mem_of_getElem? (i := 1266) (by decide +kernel)⟩
theorem lw_p23 : lw_okq (⟨"EmberSpudsModel", "starts", "()V"⟩, 27) := ⟨⟨by decide +kernel, by decide +kernel⟩, List.mem_of_getElem? (i := 1052) (by decide +kernel), List.mem_of_getElem? (i := 1270) (by decide +kernel), List.mem_of_getElem? (i := 1271) (by decide +kernel)⟩
theorem lw_p24 : lw_okq (⟨"EmberSpudsModel", "tells", "(II)I"⟩, 27) := ⟨⟨by decide +kernel, by decide +kernel⟩, List.mem_of_getElem? (i := 1052) (by decide +kernel), List.mem_of_getElem? (i := 1274) (by decide +kernel), List.mem_of_getElem? (i := 1275) (by decide +kernel)⟩
theorem lw_p25 : lw_okq (⟨"EmberSpudsModel", "of", "(II)I"⟩, 27) := ⟨⟨by decide +kernel, by decide +kernel⟩, List.mem_of_getElem? (i := 1052) (by decide +kernel), List.mem_of_getElem? (i := 1278) (by decide +kernel), List.mem_of_getElem? (i := 1279) (by decide +kernel)⟩
theorem lw_p26 : lw_okq (⟨"EmberSpudsModel", "isDone", "(I)Z"⟩, 27) := ⟨⟨by decide +kernel, by decide +kernel⟩, List.mem_of_getElem? (i := 1052) (by decide +kernel), List.mem_of_getElem? (i := 1282) (by decide +kernel), List.mem_of_getElem? (i := 1283) (by decide +kernel)⟩
theorem lw_p27 : lw_okq (⟨"EmberSpudsModel", "isBlack", "(I)Z"⟩, 27) := ⟨⟨by decide +kernel, by decide +kernel⟩, List.mem_of_getElem? (i := 1052) (by decide +kernel), List.mem_of_getElem? (i := 1289) (by decide +kernel), List.mem_of_getElem? (i := 1290) (by decide +kernel)⟩
theorem lw_p28 : lw_okq (⟨"EmberSpudsModel", "isGood", "(I)Z"⟩, 27) := ⟨⟨by decide +kernel, by decide +kernel⟩, List.mem_of_getElem? (i := 1052) (by decide +kernel), List.mem_of_getElem? (i := 1293) (by decide +kernel), List.mem_of_getElem? (i := 1294) (by decide +kernel)⟩
theorem lw_p29 : lw_okq (⟨"EmberSpudsModel", "becomes", "(II)I"⟩, 27) := ⟨⟨by decide +kernel, by decide +kernel⟩, List.mem_of_getElem? (i := 1052) (by decide +kernel), List.mem_of_getElem? (i := 1302) (by decide +kernel), List.mem_of_getElem? (i := 1303) (by decide +kernel)⟩
theorem lw_p30 : lw_okq (⟨"EmberSpudsModel", "isCell", "(I)Z"⟩, 27) := ⟨⟨by decide +kernel, by decide +kernel⟩, List.mem_of_getElem? (i := 1052) (by decide +kernel), List.mem_of_getElem? (i := 1314) (by decide +kernel), List.mem_of_getElem? (i := 1315) (by decide +kernel)⟩
theorem lw_p31 : lw_okq (⟨"EmberSpudsModel", "roundsAll", "(I)V"⟩, 27) := ⟨⟨by decide +kernel, by decide +kernel⟩, List.mem_of_getElem? (i := 1052) (by decide +kernel), List.mem_of_getElem? (i := 1347) (by decide +kernel), List.mem_of_getElem? (i := 1348) (by decide +kernel)⟩
def lw_privs_2 : List (MethodName × Nat) := [(⟨"EmberSpudsModel", "readCell", "()I"⟩, 27), (⟨"EmberSpudsModel", "readMemo", "()V"⟩, 27), (⟨"EmberSpudsModel", "readSpud", "(Z)V"⟩, 27), (⟨"EmberSpudsModel", "readWrap", "()I"⟩, 27), (⟨"EmberSpudsModel", "wrapNow", "()I"⟩, 27), (⟨"EmberSpudsModel", "isPlace", "(I)Z"⟩, 27), (⟨"EmberSpudsModel", "isSpud", "(I)Z"⟩, 27), (⟨"EmberSpudsModel", "starts", "()V"⟩, 27), (⟨"EmberSpudsModel", "tells", "(II)I"⟩, 27), (⟨"EmberSpudsModel", "of", "(II)I"⟩, 27), (⟨"EmberSpudsModel", "isDone", "(I)Z"⟩, 27), (⟨"EmberSpudsModel", "isBlack", "(I)Z"⟩, 27), (⟨"EmberSpudsModel", "isGood", "(I)Z"⟩, 27), (⟨"EmberSpudsModel", "becomes", "(II)I"⟩, 27), (⟨"EmberSpudsModel", "isCell", "(I)Z"⟩, 27), (⟨"EmberSpudsModel", "roundsAll", "(I)V"⟩, 27)]
theorem lw_r2 : ∀ q ∈ lw_privs_2, lw_okq q := List.forall_mem_cons.mpr ⟨lw_p16, List.forall_mem_cons.mpr ⟨lw_p17, List.forall_mem_cons.mpr ⟨lw_p18, List.forall_mem_cons.mpr ⟨lw_p19, List.forall_mem_cons.mpr ⟨lw_p20, List.forall_mem_cons.mpr ⟨lw_p21, List.forall_mem_cons.mpr ⟨lw_p22, List.forall_mem_cons.mpr ⟨lw_p23, List.forall_mem_cons.mpr ⟨lw_p24, List.forall_mem_cons.mpr ⟨lw_p25, List.forall_mem_cons.mpr ⟨lw_p26, List.forall_mem_cons.mpr ⟨lw_p27, List.forall_mem_cons.mpr ⟨lw_p28, List.forall_mem_cons.mpr ⟨lw_p29, List.forall_mem_cons.mpr ⟨lw_p30, List.forall_mem_cons.mpr ⟨lw_p31, fun _ h => absurd h List.not_mem_nil⟩⟩⟩⟩⟩⟩⟩⟩⟩⟩⟩⟩⟩⟩⟩⟩
theorem lw_p32 : lw_okq (⟨"EmberSpudsModel", "rounds", "()V"⟩, 27) := ⟨⟨by decide +kernel, by decide +kernel⟩, List.mem_of_getElem? (i := 1052) (by decide +kernel), List.mem_of_getElem? (i := 1351) (by decide +kernel), List.mem_of_getElem? (i := 1352) (by decide +kernel)⟩
theorem lw_p33 : lw_okq (⟨"EmberSpudsModel", "bakes", "(I)V"⟩, 27) := ⟨⟨by decide +kernel, by decide +kernel⟩, List.mem_of_getElem? (i := 1052) (by decide +kernel), List.mem_of_getElem? (i := 1355) (by decide +kernel), List.mem_of_getElem? (i := 1356) (by decide +kernel)⟩
theorem lw_p34 : lw_okq (⟨"EmberSpudsModel", "becomesOf", "(III)V"⟩, 27) := ⟨⟨by decide +kernel, by decide +kernel⟩, List.mem_of_getElem? (i := 1052) (by decide +kernel), List.mem_of_getElem? (i := 1362) (by decide +kernel), List.mem_of_getElem? (i := 1363) (by decide +kernel)⟩
theorem lw_p35 : lw_okq (⟨"EmberSpudsModel", "burns", "()V"⟩, 27) := ⟨⟨by decide +kernel, by decide +kernel⟩, List.mem_of_getElem? (i := 1052) (by decide +kernel), List.mem_of_getElem? (i := 1366) (by decide +kernel), List.mem_of_getElem? (i := 1367) (by decide +kernel)⟩
theorem lw_p36 : lw_okq (⟨"EmberSpudsModel", "embers", "(II)V"⟩, 27) := ⟨⟨by decide +kernel, by decide +kernel⟩, List.mem_of_getElem? (i := 1052) (by decide +kernel), List.mem_of_getElem? (i := 1370) (by decide +kernel), List.mem_of_getElem? (i := 1371) (by decide +kernel)⟩
theorem lw_p37 : lw_okq (⟨"EmberSpudsModel", "cools", "()V"⟩, 27) := ⟨⟨by decide +kernel, by decide +kernel⟩, List.mem_of_getElem? (i := 1052) (by decide +kernel), List.mem_of_getElem? (i := 1374) (by decide +kernel), List.mem_of_getElem? (i := 1375) (by decide +kernel)⟩
theorem lw_p38 : lw_okq (⟨"EmberSpudsModel", "goods", "()I"⟩, 27) := ⟨⟨by decide +kernel, by decide +kernel⟩, List.mem_of_getElem? (i := 1052) (by decide +kernel), List.mem_of_getElem? (i := 1378) (by decide +kernel), List.mem_of_getElem? (i := 1379) (by decide +kernel)⟩
theorem lw_p39 : lw_okq (⟨"EmberSpudsModel", "findGoods", "(I)V"⟩, 27) := ⟨⟨by decide +kernel, by decide +kernel⟩, List.mem_of_getElem? (i := 1052) (by decide +kernel), List.mem_of_getElem? (i := 1399) (by decide +kernel), List.mem_of_getElem? (i := 1400) (by decide +kernel)⟩
theorem lw_p40 : lw_okq (⟨"EmberSpudsModel", "mostFrom", "(II)I"⟩, 27) := ⟨⟨by decide +kernel, by decide +kernel⟩, List.mem_of_getElem? (i := 1052) (by decide +kernel), List.mem_of_getElem? (i := 1403) (by decide +kernel), List.mem_of_getElem? (i := 1404) (by decide +kernel)⟩
theorem lw_p41 : lw_okq (⟨"EmberSpudsModel", "placeOf", "(III)I"⟩, 27) := ⟨⟨by decide +kernel, by decide +kernel⟩, List.mem_of_getElem? (i := 1052) (by decide +kernel), List.mem_of_getElem? (i := 1410) (by decide +kernel), List.mem_of_getElem? (i := 1411) (by decide +kernel)⟩
theorem lw_p42 : lw_okq (⟨"EmberSpudsModel", "isSo", "(II)Z"⟩, 27) := ⟨⟨by decide +kernel, by decide +kernel⟩, List.mem_of_getElem? (i := 1052) (by decide +kernel), List.mem_of_getElem? (i := 1438) (by decide +kernel), List.mem_of_getElem? (i := 1439) (by decide +kernel)⟩
theorem lw_p43 : lw_okq (⟨"EmberSpudsModel", "allOf", "(I)I"⟩, 27) := ⟨⟨by decide +kernel, by decide +kernel⟩, List.mem_of_getElem? (i := 1052) (by decide +kernel), List.mem_of_getElem? (i := 1448) (by decide +kernel), List.mem_of_getElem? (i := 1449) (by decide +kernel)⟩
theorem lw_p44 : lw_okq (⟨"EmberSpudsModel", "weightOf", "(II)I"⟩, 27) := ⟨⟨by decide +kernel, by decide +kernel⟩, List.mem_of_getElem? (i := 1052) (by decide +kernel), List.mem_of_getElem? (i := 1452) (by decide +kernel), List.mem_of_getElem? (i := 1453) (by decide +kernel)⟩
theorem lw_p45 : lw_okq (⟨"EmberSpudsModel", "isBefore", "(II)Z"⟩, 27) := ⟨⟨by decide +kernel, by decide +kernel⟩, List.mem_of_getElem? (i := 1052) (by decide +kernel), List.mem_of_getElem? (i := 1472) (by decide +kernel), List.mem_of_getElem? (i := 1473) (by decide +kernel)⟩
theorem lw_p46 : lw_okq (⟨"EmberSpudsModel", "blacks", "()I"⟩, 27) := ⟨⟨by decide +kernel, by decide +kernel⟩, List.mem_of_getElem? (i := 1052) (by decide +kernel), List.mem_of_getElem? (i := 1487) (by decide +kernel), List.mem_of_getElem? (i := 1488) (by decide +kernel)⟩
theorem lw_p47 : lw_okq (⟨"EmberSpudsModel", "copies", "(II)V"⟩, 27) := ⟨⟨by decide +kernel, by decide +kernel⟩, List.mem_of_getElem? (i := 1052) (by decide +kernel), List.mem_of_getElem? (i := 1495) (by decide +kernel), List.mem_of_getElem? (i := 1496) (by decide +kernel)⟩
def lw_privs_3 : List (MethodName × Nat) := [(⟨"EmberSpudsModel", "rounds", "()V"⟩, 27), (⟨"EmberSpudsModel", "bakes", "(I)V"⟩, 27), (⟨"EmberSpudsModel", "becomesOf", "(III)V"⟩, 27), (⟨"EmberSpudsModel", "burns", "()V"⟩, 27), (⟨"EmberSpudsModel", "embers", "(II)V"⟩, 27), (⟨"EmberSpudsModel", "cools", "()V"⟩, 27), (⟨"EmberSpudsModel", "goods", "()I"⟩, 27), (⟨"EmberSpudsModel", "findGoods", "(I)V"⟩, 27), (⟨"EmberSpudsModel", "mostFrom", "(II)I"⟩, 27), (⟨"EmberSpudsModel", "placeOf", "(III)I"⟩, 27), (⟨"EmberSpudsModel", "isSo", "(II)Z"⟩, 27), (⟨"EmberSpudsModel", "allOf", "(I)I"⟩, 27), (⟨"EmberSpudsModel", "weightOf", "(II)I"⟩, 27), (⟨"EmberSpudsModel", "isBefore", "(II)Z"⟩, 27), (⟨"EmberSpudsModel", "blacks", "()I"⟩, 27), (⟨"EmberSpudsModel", "copies", "(II)V"⟩, 27)]
theorem lw_r3 : ∀ q ∈ lw_privs_3, lw_okq q := List.forall_mem_cons.mpr ⟨lw_p32, List.forall_mem_cons.mpr ⟨lw_p33, List.forall_mem_cons.mpr ⟨lw_p34, List.forall_mem_cons.mpr ⟨lw_p35, List.forall_mem_cons.mpr ⟨lw_p36, List.forall_mem_cons.mpr ⟨lw_p37, List.forall_mem_cons.mpr ⟨lw_p38, List.forall_mem_cons.mpr ⟨lw_p39, List.forall_mem_cons.mpr ⟨lw_p40, List.forall_mem_cons.mpr ⟨lw_p41, List.forall_mem_cons.mpr ⟨lw_p42, List.forall_mem_cons.mpr ⟨lw_p43, List.forall_mem_cons.mpr ⟨lw_p44, List.forall_mem_cons.mpr ⟨lw_p45, List.forall_mem_cons.mpr ⟨lw_p46, List.forall_mem_cons.mpr ⟨lw_p47, fun _ h => absurd h List.not_mem_nil⟩⟩⟩⟩⟩⟩⟩⟩⟩⟩⟩⟩⟩⟩⟩⟩
def lw_privs : List (MethodName × Nat) := lw_privs_1 ++ (lw_privs_2 ++ (lw_privs_3))
def lw_tbl : List Cond := k2_sels lw_privs ++ tables_1
theorem lw_privs_ok : ∀ q ∈ lw_privs, lw_okq q := by
  show ∀ q ∈ lw_privs_1 ++ (lw_privs_2 ++ (lw_privs_3)), lw_okq q
  exact List.forall_mem_append.mpr ⟨lw_r1, List.forall_mem_append.mpr ⟨lw_r2, lw_r3⟩⟩
end
section
def RX0 : String := "EmberSpuds$Evening"
def TX0 : u_T := fun k => match k with
  | 0 => ("EmberSpuds$Evening", "fire", "LEmberSpuds$Fire;", true)
  | 1 => ("EmberSpuds$Evening", "spuds", "[LEmberSpuds$Spud;", true)
  | 2 => ("EmberSpuds$Evening", "spudCount", "I", false)
  | 3 => ("EmberSpuds$Evening", "round", "I", false)
  | 4 => ("EmberSpuds$Evening", "raked", "I", false)
  | 5 => ("EmberSpuds$Evening", "feltCount", "I", false)
  | 6 => ("EmberSpuds$Evening", "feltRounds", "[I", true)
  | 7 => ("EmberSpuds$Evening", "feltPlace", "[I", true)
  | _ => ("EmberSpuds$Evening", "feltHeat", "[I", true)
def tyX0 : Nat → FieldType := fun k => match k with
  | 0 => .object "EmberSpuds$Fire"
  | 1 => .array (.object "EmberSpuds$Spud")
  | 2 => .int
  | 3 => .int
  | 4 => .int
  | 5 => .int
  | 6 => .array .int
  | 7 => .array .int
  | _ => .array .int
theorem nmX0 : ∀ a, a < 9 → ∀ b, b < 9 → a ≠ b → (TX0 a).2.1 ≠ (TX0 b).2.1 := by decide +kernel
theorem tyX0_ok : ∀ k, k < 9 → parseFieldDescriptor (TX0 k).2.2.1 = some (tyX0 k) := by decide +kernel
abbrev cX0_init : ByteArray := prog_2_method_1_code
def yX0_init : MethodName := ⟨RX0, "<init>", "()V"⟩
abbrev cX0_startAnew : ByteArray := prog_2_method_2_code
def yX0_startAnew : MethodName := ⟨RX0, "startAnew", "()V"⟩
abbrev cX0_copyFrom : ByteArray := prog_2_method_3_code
def yX0_copyFrom : MethodName := ⟨RX0, "copyFrom", "(LEmberSpuds$Evening;)V"⟩
abbrev cX0_hasSpud : ByteArray := prog_2_method_4_code
def yX0_hasSpud : MethodName := ⟨RX0, "hasSpud", "(I)Z"⟩
abbrev cX0_bring : ByteArray := prog_2_method_5_code
def yX0_bring : MethodName := ⟨RX0, "bring", "(II)Z"⟩
abbrev cX0_whoLiesIn : ByteArray := prog_2_method_6_code
def yX0_whoLiesIn : MethodName := ⟨RX0, "whoLiesIn", "(I)I"⟩
abbrev cX0_noteFelt : ByteArray := prog_2_method_7_code
def yX0_noteFelt : MethodName := ⟨RX0, "noteFelt", "(III)Z"⟩
abbrev cX0_passRound : ByteArray := prog_2_method_8_code
def yX0_passRound : MethodName := ⟨RX0, "passRound", "()V"⟩
abbrev cX0_passRounds : ByteArray := prog_2_method_9_code
def yX0_passRounds : MethodName := ⟨RX0, "passRounds", "(I)V"⟩
abbrev cX0_meddle : ByteArray := prog_2_method_10_code
def yX0_meddle : MethodName := ⟨RX0, "meddle", "(II)V"⟩
abbrev cX0_tally : ByteArray := prog_2_method_11_code
def yX0_tally : MethodName := ⟨RX0, "tally", "(I)I"⟩
abbrev cX0_isOfKind : ByteArray := prog_2_method_12_code
def yX0_isOfKind : MethodName := ⟨RX0, "isOfKind", "(LEmberSpuds$Spud;I)Z"⟩
abbrev cX0_mostWanted : ByteArray := prog_2_method_13_code
def yX0_mostWanted : MethodName := ⟨RX0, "mostWanted", "(I)I"⟩
def RX1 : String := "EmberSpuds$FallSearch"
def TX1 : u_T := fun k => match k with
  | 0 => ("EmberSpuds$FallSearch", "isFitting", "[Z", true)
  | 1 => ("EmberSpuds$FallSearch", "isLossFitting", "[Z", true)
  | 2 => ("EmberSpuds$FallSearch", "fitting", "I", false)
  | 3 => ("EmberSpuds$FallSearch", "leastPair", "I", false)
  | _ => ("EmberSpuds$FallSearch", "greatestPair", "I", false)
def tyX1 : Nat → FieldType := fun k => match k with
  | 0 => .array .boolean
  | 1 => .array .boolean
  | 2 => .int
  | 3 => .int
  | _ => .int
theorem nmX1 : ∀ a, a < 5 → ∀ b, b < 5 → a ≠ b → (TX1 a).2.1 ≠ (TX1 b).2.1 := by decide +kernel
theorem tyX1_ok : ∀ k, k < 5 → parseFieldDescriptor (TX1 k).2.2.1 = some (tyX1 k) := by decide +kernel
abbrev cX1_init : ByteArray := prog_3_method_1_code
def yX1_init : MethodName := ⟨RX1, "<init>", "()V"⟩
abbrev cX1_search : ByteArray := prog_3_method_2_code
def yX1_search : MethodName := ⟨RX1, "search", "(LEmberSpuds$Evening;LEmberSpuds$Track;)V"⟩
abbrev cX1_sift : ByteArray := prog_3_method_3_code
def yX1_sift : MethodName := ⟨RX1, "sift", "(Z)V"⟩
abbrev cX1_sumUp : ByteArray := prog_3_method_4_code
def yX1_sumUp : MethodName := ⟨RX1, "sumUp", "()V"⟩
def RX2 : String := "EmberSpuds$Fire"
def TX2 : u_T := fun k => match k with
  | 0 => ("EmberSpuds$Fire", "cells", "I", false)
  | 1 => ("EmberSpuds$Fire", "fall", "I", false)
  | 2 => ("EmberSpuds$Fire", "rim", "I", false)
  | 3 => ("EmberSpuds$Fire", "woods", "I", false)
  | 4 => ("EmberSpuds$Fire", "heats", "[I", true)
  | 5 => ("EmberSpuds$Fire", "woodCell", "[I", true)
  | 6 => ("EmberSpuds$Fire", "woodAmount", "[I", true)
  | _ => ("EmberSpuds$Fire", "woodRounds", "[I", true)
def tyX2 : Nat → FieldType := fun k => match k with
  | 0 => .int
  | 1 => .int
  | 2 => .int
  | 3 => .int
  | 4 => .array .int
  | 5 => .array .int
  | 6 => .array .int
  | _ => .array .int
theorem nmX2 : ∀ a, a < 8 → ∀ b, b < 8 → a ≠ b → (TX2 a).2.1 ≠ (TX2 b).2.1 := by decide +kernel
theorem tyX2_ok : ∀ k, k < 8 → parseFieldDescriptor (TX2 k).2.2.1 = some (tyX2 k) := by decide +kernel
abbrev cX2_init : ByteArray := prog_4_method_1_code
def yX2_init : MethodName := ⟨RX2, "<init>", "()V"⟩
abbrev cX2_becomeCold : ByteArray := prog_4_method_2_code
def yX2_becomeCold : MethodName := ⟨RX2, "becomeCold", "()V"⟩
abbrev cX2_copyFrom : ByteArray := prog_4_method_3_code
def yX2_copyFrom : MethodName := ⟨RX2, "copyFrom", "(LEmberSpuds$Fire;)V"⟩
abbrev cX2_placeCount : ByteArray := prog_4_method_4_code
def yX2_placeCount : MethodName := ⟨RX2, "placeCount", "()I"⟩
abbrev cX2_hasCell : ByteArray := prog_4_method_5_code
def yX2_hasCell : MethodName := ⟨RX2, "hasCell", "(I)Z"⟩
abbrev cX2_hasPlace : ByteArray := prog_4_method_6_code
def yX2_hasPlace : MethodName := ⟨RX2, "hasPlace", "(I)Z"⟩
abbrev cX2_heatAt : ByteArray := prog_4_method_7_code
def yX2_heatAt : MethodName := ⟨RX2, "heatAt", "(I)I"⟩
abbrev cX2_isRimPlace : ByteArray := prog_4_method_8_code
def yX2_isRimPlace : MethodName := ⟨RX2, "isRimPlace", "(I)Z"⟩
abbrev cX2_lossAt : ByteArray := prog_4_method_9_code
def yX2_lossAt : MethodName := ⟨RX2, "lossAt", "(I)I"⟩
abbrev cX2_layWood : ByteArray := prog_4_method_10_code
def yX2_layWood : MethodName := ⟨RX2, "layWood", "(III)Z"⟩
abbrev cX2_burnWood : ByteArray := prog_4_method_11_code
def yX2_burnWood : MethodName := ⟨RX2, "burnWood", "()V"⟩
abbrev cX2_becomeEmber : ByteArray := prog_4_method_12_code
def yX2_becomeEmber : MethodName := ⟨RX2, "becomeEmber", "(II)V"⟩
abbrev cX2_coolDown : ByteArray := prog_4_method_13_code
def yX2_coolDown : MethodName := ⟨RX2, "coolDown", "()V"⟩
abbrev cX2_allHeat : ByteArray := prog_4_method_14_code
def yX2_allHeat : MethodName := ⟨RX2, "allHeat", "()I"⟩
abbrev cX2_emberShare : ByteArray := prog_4_method_15_code
def yX2_emberShare : MethodName := ⟨RX2, "emberShare", "(II)I"⟩
def RX3 : String := "EmberSpuds$Layout"
def TX3 : u_T := fun k => match k with
  | 0 => ("EmberSpuds$Layout", "goodPlaces", "[I", true)
  | 1 => ("EmberSpuds$Layout", "isGoodOut", "[Z", true)
  | 2 => ("EmberSpuds$Layout", "chosen", "[I", true)
  | 3 => ("EmberSpuds$Layout", "reached", "[I", true)
  | _ => ("EmberSpuds$Layout", "spudCount", "I", false)
def tyX3 : Nat → FieldType := fun k => match k with
  | 0 => .array .int
  | 1 => .array .boolean
  | 2 => .array .int
  | 3 => .array .int
  | _ => .int
theorem nmX3 : ∀ a, a < 5 → ∀ b, b < 5 → a ≠ b → (TX3 a).2.1 ≠ (TX3 b).2.1 := by decide +kernel
theorem tyX3_ok : ∀ k, k < 5 → parseFieldDescriptor (TX3 k).2.2.1 = some (tyX3 k) := by decide +kernel
abbrev cX3_init : ByteArray := prog_5_method_1_code
def yX3_init : MethodName := ⟨RX3, "<init>", "()V"⟩
abbrev cX3_survey : ByteArray := prog_5_method_2_code
def yX3_survey : MethodName := ⟨RX3, "survey", "(LEmberSpuds$Evening;LEmberSpuds$Track;I)V"⟩
abbrev cX3_surveyWrap : ByteArray := prog_5_method_3_code
def yX3_surveyWrap : MethodName := ⟨RX3, "surveyWrap", "(LEmberSpuds$Evening;IIII)V"⟩
abbrev cX3_uniteReached : ByteArray := prog_5_method_4_code
def yX3_uniteReached : MethodName := ⟨RX3, "uniteReached", "()V"⟩
abbrev cX3_mostGood : ByteArray := prog_5_method_5_code
def yX3_mostGood : MethodName := ⟨RX3, "mostGood", "(II)I"⟩
abbrev cX3_choose : ByteArray := prog_5_method_6_code
def yX3_choose : MethodName := ⟨RX3, "choose", "(I)V"⟩
abbrev cX3_firstPlace : ByteArray := prog_5_method_7_code
def yX3_firstPlace : MethodName := ⟨RX3, "firstPlace", "(IIII)I"⟩
abbrev cX3_goodIn : ByteArray := prog_5_method_8_code
def yX3_goodIn : MethodName := ⟨RX3, "goodIn", "(II)I"⟩
def RX4 : String := "EmberSpuds$Memory"
def TX4 : u_T := fun k => match k with
  | 0 => ("EmberSpuds$Memory", "wholes", "[I", true)
  | 1 => ("EmberSpuds$Memory", "fullest", "I", false)
  | _ => ("EmberSpuds$Memory", "mean", "I", false)
def tyX4 : Nat → FieldType := fun k => match k with
  | 0 => .array .int
  | 1 => .int
  | _ => .int
theorem nmX4 : ∀ a, a < 3 → ∀ b, b < 3 → a ≠ b → (TX4 a).2.1 ≠ (TX4 b).2.1 := by decide +kernel
theorem tyX4_ok : ∀ k, k < 3 → parseFieldDescriptor (TX4 k).2.2.1 = some (tyX4 k) := by decide +kernel
abbrev cX4_init : ByteArray := prog_6_method_1_code
def yX4_init : MethodName := ⟨RX4, "<init>", "()V"⟩
abbrev cX4_weight : ByteArray := prog_6_method_2_code
def yX4_weight : MethodName := ⟨RX4, "weight", "(LEmberSpuds$Evening;II)I"⟩
abbrev cX4_allWeights : ByteArray := prog_6_method_3_code
def yX4_allWeights : MethodName := ⟨RX4, "allWeights", "(LEmberSpuds$Evening;I)I"⟩
abbrev cX4_searchFullest : ByteArray := prog_6_method_4_code
def yX4_searchFullest : MethodName := ⟨RX4, "searchFullest", "(LEmberSpuds$Evening;)V"⟩
abbrev cX4_meanIn : ByteArray := prog_6_method_5_code
def yX4_meanIn : MethodName := ⟨RX4, "meanIn", "(LEmberSpuds$Evening;I)I"⟩
def RX5 : String := "EmberSpuds$Reader"
def TX5 : u_T := fun k => match k with
  | 0 => ("EmberSpuds$Reader", "tape", "LEmberSpuds$Tape;", true)
  | 1 => ("EmberSpuds$Reader", "draft", "LEmberSpuds$Evening;", true)
  | 2 => ("EmberSpuds$Reader", "remembered", "[I", true)
  | 3 => ("EmberSpuds$Reader", "lines", "I", false)
  | 4 => ("EmberSpuds$Reader", "heatTold", "I", false)
  | 5 => ("EmberSpuds$Reader", "farCell", "I", false)
  | 6 => ("EmberSpuds$Reader", "farPlace", "I", false)
  | 7 => ("EmberSpuds$Reader", "farSpud", "I", false)
  | _ => ("EmberSpuds$Reader", "fireTold", "Z", false)
def tyX5 : Nat → FieldType := fun k => match k with
  | 0 => .object "EmberSpuds$Tape"
  | 1 => .object "EmberSpuds$Evening"
  | 2 => .array .int
  | 3 => .int
  | 4 => .int
  | 5 => .int
  | 6 => .int
  | 7 => .int
  | _ => .boolean
theorem nmX5 : ∀ a, a < 9 → ∀ b, b < 9 → a ≠ b → (TX5 a).2.1 ≠ (TX5 b).2.1 := by decide +kernel
theorem tyX5_ok : ∀ k, k < 9 → parseFieldDescriptor (TX5 k).2.2.1 = some (tyX5 k) := by decide +kernel
abbrev cX5_init : ByteArray := prog_7_method_1_code
def yX5_init : MethodName := ⟨RX5, "<init>", "()V"⟩
abbrev cX5_readAll : ByteArray := prog_7_method_2_code
def yX5_readAll : MethodName := ⟨RX5, "readAll", "()V"⟩
abbrev cX5_startAnew : ByteArray := prog_7_method_3_code
def yX5_startAnew : MethodName := ⟨RX5, "startAnew", "()V"⟩
abbrev cX5_allIsThere : ByteArray := prog_7_method_4_code
def yX5_allIsThere : MethodName := ⟨RX5, "allIsThere", "()Z"⟩
abbrev cX5_rememberCells : ByteArray := prog_7_method_5_code
def yX5_rememberCells : MethodName := ⟨RX5, "rememberCells", "()V"⟩
abbrev cX5_readLine : ByteArray := prog_7_method_6_code
def yX5_readLine : MethodName := ⟨RX5, "readLine", "()V"⟩
abbrev cX5_readFire : ByteArray := prog_7_method_7_code
def yX5_readFire : MethodName := ⟨RX5, "readFire", "()V"⟩
abbrev cX5_readHeat : ByteArray := prog_7_method_8_code
def yX5_readHeat : MethodName := ⟨RX5, "readHeat", "()V"⟩
abbrev cX5_readWood : ByteArray := prog_7_method_9_code
def yX5_readWood : MethodName := ⟨RX5, "readWood", "()V"⟩
abbrev cX5_readSpud : ByteArray := prog_7_method_10_code
def yX5_readSpud : MethodName := ⟨RX5, "readSpud", "(Z)V"⟩
abbrev cX5_readMemo : ByteArray := prog_7_method_11_code
def yX5_readMemo : MethodName := ⟨RX5, "readMemo", "()V"⟩
def RX6 : String := "EmberSpuds$Sheet"
def TX6 : u_T := fun k => match k with
  | 0 => ("EmberSpuds$Sheet", "values", "[I", true)
  | 1 => ("EmberSpuds$Sheet", "lane", "I", false)
  | _ => ("EmberSpuds$Sheet", "length", "I", false)
def tyX6 : Nat → FieldType := fun k => match k with
  | 0 => .array .int
  | 1 => .int
  | _ => .int
theorem nmX6 : ∀ a, a < 3 → ∀ b, b < 3 → a ≠ b → (TX6 a).2.1 ≠ (TX6 b).2.1 := by decide +kernel
theorem tyX6_ok : ∀ k, k < 3 → parseFieldDescriptor (TX6 k).2.2.1 = some (tyX6 k) := by decide +kernel
abbrev cX6_init : ByteArray := prog_8_method_1_code
def yX6_init : MethodName := ⟨RX6, "<init>", "()V"⟩
abbrev cX6_renew : ByteArray := prog_8_method_2_code
def yX6_renew : MethodName := ⟨RX6, "renew", "(II)V"⟩
abbrev cX6_faultAt : ByteArray := prog_8_method_3_code
def yX6_faultAt : MethodName := ⟨RX6, "faultAt", "(I)I"⟩
abbrev cX6_pairFault : ByteArray := prog_8_method_4_code
def yX6_pairFault : MethodName := ⟨RX6, "pairFault", "(II)I"⟩
abbrev cX6_valueAt : ByteArray := prog_8_method_5_code
def yX6_valueAt : MethodName := ⟨RX6, "valueAt", "(I)I"⟩
abbrev cX6_put : ByteArray := prog_8_method_6_code
def yX6_put : MethodName := ⟨RX6, "put", "(II)V"⟩
def RX7 : String := "EmberSpuds$Spud"
def TX7 : u_T := fun k => match k with
  | 0 => ("EmberSpuds$Spud", "size", "I", false)
  | 1 => ("EmberSpuds$Spud", "wrapping", "I", false)
  | 2 => ("EmberSpuds$Spud", "place", "I", false)
  | 3 => ("EmberSpuds$Spud", "core", "I", false)
  | 4 => ("EmberSpuds$Spud", "below", "I", false)
  | 5 => ("EmberSpuds$Spud", "other", "I", false)
  | _ => ("EmberSpuds$Spud", "remembered", "I", false)
def tyX7 : Nat → FieldType := fun k => match k with
  | 0 => .int
  | 1 => .int
  | 2 => .int
  | 3 => .int
  | 4 => .int
  | 5 => .int
  | _ => .int
theorem nmX7 : ∀ a, a < 7 → ∀ b, b < 7 → a ≠ b → (TX7 a).2.1 ≠ (TX7 b).2.1 := by decide +kernel
theorem tyX7_ok : ∀ k, k < 7 → parseFieldDescriptor (TX7 k).2.2.1 = some (tyX7 k) := by decide +kernel
abbrev cX7_init : ByteArray := prog_9_method_1_code
def yX7_init : MethodName := ⟨RX7, "<init>", "()V"⟩
abbrev cX7_becomeRaw : ByteArray := prog_9_method_2_code
def yX7_becomeRaw : MethodName := ⟨RX7, "becomeRaw", "(II)V"⟩
abbrev cX7_copyFrom : ByteArray := prog_9_method_3_code
def yX7_copyFrom : MethodName := ⟨RX7, "copyFrom", "(LEmberSpuds$Spud;)V"⟩
abbrev cX7_bakeBy : ByteArray := prog_9_method_4_code
def yX7_bakeBy : MethodName := ⟨RX7, "bakeBy", "(I)V"⟩
abbrev cX7_turnOver : ByteArray := prog_9_method_5_code
def yX7_turnOver : MethodName := ⟨RX7, "turnOver", "()V"⟩
abbrev cX7_isDone : ByteArray := prog_9_method_6_code
def yX7_isDone : MethodName := ⟨RX7, "isDone", "()Z"⟩
abbrev cX7_isBlack : ByteArray := prog_9_method_7_code
def yX7_isBlack : MethodName := ⟨RX7, "isBlack", "()Z"⟩
abbrev cX7_isGood : ByteArray := prog_9_method_8_code
def yX7_isGood : MethodName := ⟨RX7, "isGood", "()Z"⟩
abbrev cX7_wouldBeDone : ByteArray := prog_9_method_9_code
def yX7_wouldBeDone : MethodName := ⟨RX7, "wouldBeDone", "(I)Z"⟩
abbrev cX7_wouldBeGood : ByteArray := prog_9_method_10_code
def yX7_wouldBeGood : MethodName := ⟨RX7, "wouldBeGood", "(III)Z"⟩
abbrev cX7_tell : ByteArray := prog_9_method_11_code
def yX7_tell : MethodName := ⟨RX7, "tell", "(I)I"⟩
abbrev cX7_appeal : ByteArray := prog_9_method_12_code
def yX7_appeal : MethodName := ⟨RX7, "appeal", "()I"⟩
abbrev cX7_coreShare : ByteArray := prog_9_method_13_code
def yX7_coreShare : MethodName := ⟨RX7, "coreShare", "(II)I"⟩
abbrev cX7_sideShare : ByteArray := prog_9_method_14_code
def yX7_sideShare : MethodName := ⟨RX7, "sideShare", "(II)I"⟩
def RX8 : String := "EmberSpuds$Tape"
def TX8 : u_T := fun k => match k with
  | 0 => ("EmberSpuds$Tape", "bytes", "[B", true)
  | 1 => ("EmberSpuds$Tape", "length", "I", false)
  | 2 => ("EmberSpuds$Tape", "kind", "I", false)
  | 3 => ("EmberSpuds$Tape", "begin", "I", false)
  | 4 => ("EmberSpuds$Tape", "behind", "I", false)
  | 5 => ("EmberSpuds$Tape", "faultKind", "I", false)
  | _ => ("EmberSpuds$Tape", "faultPlace", "I", false)
def tyX8 : Nat → FieldType := fun k => match k with
  | 0 => .array .byte
  | 1 => .int
  | 2 => .int
  | 3 => .int
  | 4 => .int
  | 5 => .int
  | _ => .int
theorem nmX8 : ∀ a, a < 7 → ∀ b, b < 7 → a ≠ b → (TX8 a).2.1 ≠ (TX8 b).2.1 := by decide +kernel
theorem tyX8_ok : ∀ k, k < 7 → parseFieldDescriptor (TX8 k).2.2.1 = some (tyX8 k) := by decide +kernel
abbrev cX8_init : ByteArray := prog_10_method_1_code
def yX8_init : MethodName := ⟨RX8, "<init>", "()V"⟩
abbrev cX8_append : ByteArray := prog_10_method_2_code
def yX8_append : MethodName := ⟨RX8, "append", "(I)Z"⟩
abbrev cX8_byteAt : ByteArray := prog_10_method_3_code
def yX8_byteAt : MethodName := ⟨RX8, "byteAt", "(I)I"⟩
abbrev cX8_rewind : ByteArray := prog_10_method_4_code
def yX8_rewind : MethodName := ⟨RX8, "rewind", "()V"⟩
abbrev cX8_isSound : ByteArray := prog_10_method_5_code
def yX8_isSound : MethodName := ⟨RX8, "isSound", "()Z"⟩
abbrev cX8_failAt : ByteArray := prog_10_method_6_code
def yX8_failAt : MethodName := ⟨RX8, "failAt", "(II)V"⟩
abbrev cX8_fail : ByteArray := prog_10_method_7_code
def yX8_fail : MethodName := ⟨RX8, "fail", "(I)V"⟩
abbrev cX8_advance : ByteArray := prog_10_method_8_code
def yX8_advance : MethodName := ⟨RX8, "advance", "()V"⟩
abbrev cX8_kindAt : ByteArray := prog_10_method_9_code
def yX8_kindAt : MethodName := ⟨RX8, "kindAt", "(I)I"⟩
abbrev cX8_isName : ByteArray := prog_10_method_10_code
def yX8_isName : MethodName := ⟨RX8, "isName", "(Ljava/lang/String;)Z"⟩
abbrev cX8_takeNumber : ByteArray := prog_10_method_11_code
def yX8_takeNumber : MethodName := ⟨RX8, "takeNumber", "(II)I"⟩
abbrev cX8_takeWrap : ByteArray := prog_10_method_12_code
def yX8_takeWrap : MethodName := ⟨RX8, "takeWrap", "()I"⟩
abbrev cX8_takeMark : ByteArray := prog_10_method_13_code
def yX8_takeMark : MethodName := ⟨RX8, "takeMark", "()V"⟩
def RX9 : String := "EmberSpuds$Track"
def TX9 : u_T := fun k => match k with
  | 0 => ("EmberSpuds$Track", "heats", "[I", true)
  | _ => ("EmberSpuds$Track", "embers", "[I", true)
def tyX9 : Nat → FieldType := fun k => match k with
  | 0 => .array .int
  | _ => .array .int
theorem nmX9 : ∀ a, a < 2 → ∀ b, b < 2 → a ≠ b → (TX9 a).2.1 ≠ (TX9 b).2.1 := by decide +kernel
theorem tyX9_ok : ∀ k, k < 2 → parseFieldDescriptor (TX9 k).2.2.1 = some (tyX9 k) := by decide +kernel
abbrev cX9_init : ByteArray := prog_11_method_1_code
def yX9_init : MethodName := ⟨RX9, "<init>", "()V"⟩
abbrev cX9_followFor : ByteArray := prog_11_method_2_code
def yX9_followFor : MethodName := ⟨RX9, "followFor", "(LEmberSpuds$Fire;II)V"⟩
abbrev cX9_gatherEmbers : ByteArray := prog_11_method_3_code
def yX9_gatherEmbers : MethodName := ⟨RX9, "gatherEmbers", "(LEmberSpuds$Fire;I)V"⟩
abbrev cX9_addEmber : ByteArray := prog_11_method_4_code
def yX9_addEmber : MethodName := ⟨RX9, "addEmber", "(III)V"⟩
abbrev cX9_follow : ByteArray := prog_11_method_5_code
def yX9_follow : MethodName := ⟨RX9, "follow", "(III)V"⟩
abbrev cX9_coreGain : ByteArray := prog_11_method_6_code
def yX9_coreGain : MethodName := ⟨RX9, "coreGain", "(II)I"⟩
abbrev cX9_sideGain : ByteArray := prog_11_method_7_code
def yX9_sideGain : MethodName := ⟨RX9, "sideGain", "(III)I"⟩
def RX10 : String := "EmberSpuds"
def TX10 : u_T := fun k => match k with
  | 0 => ("EmberSpuds", "now", "LEmberSpuds$Evening;", true)
  | 1 => ("EmberSpuds", "trial", "LEmberSpuds$Evening;", true)
  | 2 => ("EmberSpuds", "images", "[LEmberSpuds$Evening;", true)
  | 3 => ("EmberSpuds", "isKept", "[Z", true)
  | 4 => ("EmberSpuds", "reader", "LEmberSpuds$Reader;", true)
  | 5 => ("EmberSpuds", "track", "LEmberSpuds$Track;", true)
  | 6 => ("EmberSpuds", "layout", "LEmberSpuds$Layout;", true)
  | 7 => ("EmberSpuds", "sheets", "[LEmberSpuds$Sheet;", true)
  | 8 => ("EmberSpuds", "fallSearch", "LEmberSpuds$FallSearch;", true)
  | 9 => ("EmberSpuds", "memory", "LEmberSpuds$Memory;", true)
  | 10 => ("EmberSpuds", "textFault", "I", false)
  | _ => ("EmberSpuds", "readFault", "I", false)
def tyX10 : Nat → FieldType := fun k => match k with
  | 0 => .object "EmberSpuds$Evening"
  | 1 => .object "EmberSpuds$Evening"
  | 2 => .array (.object "EmberSpuds$Evening")
  | 3 => .array .boolean
  | 4 => .object "EmberSpuds$Reader"
  | 5 => .object "EmberSpuds$Track"
  | 6 => .object "EmberSpuds$Layout"
  | 7 => .array (.object "EmberSpuds$Sheet")
  | 8 => .object "EmberSpuds$FallSearch"
  | 9 => .object "EmberSpuds$Memory"
  | 10 => .int
  | _ => .int
theorem nmX10 : ∀ a, a < 12 → ∀ b, b < 12 → a ≠ b → (TX10 a).2.1 ≠ (TX10 b).2.1 := by decide +kernel
theorem tyX10_ok : ∀ k, k < 12 → parseFieldDescriptor (TX10 k).2.2.1 = some (tyX10 k) := by decide +kernel
abbrev cX10_init : ByteArray := prog_1_method_1_code
def yX10_init : MethodName := ⟨RX10, "<init>", "()V"⟩
abbrev cX10_feed : ByteArray := prog_1_method_2_code
def yX10_feed : MethodName := ⟨RX10, "feed", "(I)I"⟩
abbrev cX10_end : ByteArray := prog_1_method_3_code
def yX10_end : MethodName := ⟨RX10, "end", "(I)I"⟩
abbrev cX10_text : ByteArray := prog_1_method_4_code
def yX10_text : MethodName := ⟨RX10, "text", "()I"⟩
abbrev cX10_fault : ByteArray := prog_1_method_5_code
def yX10_fault : MethodName := ⟨RX10, "fault", "()I"⟩
abbrev cX10_rule : ByteArray := prog_1_method_6_code
def yX10_rule : MethodName := ⟨RX10, "rule", "(I)I"⟩
abbrev cX10_heat : ByteArray := prog_1_method_7_code
def yX10_heat : MethodName := ⟨RX10, "heat", "(I)I"⟩
abbrev cX10_wood : ByteArray := prog_1_method_8_code
def yX10_wood : MethodName := ⟨RX10, "wood", "(II)I"⟩
abbrev cX10_spud : ByteArray := prog_1_method_9_code
def yX10_spud : MethodName := ⟨RX10, "spud", "(II)I"⟩
abbrev cX10_fan : ByteArray := prog_1_method_10_code
def yX10_fan : MethodName := ⟨RX10, "fan", "(II)I"⟩
abbrev cX10_ash : ByteArray := prog_1_method_11_code
def yX10_ash : MethodName := ⟨RX10, "ash", "(II)I"⟩
abbrev cX10_stoke : ByteArray := prog_1_method_12_code
def yX10_stoke : MethodName := ⟨RX10, "stoke", "(III)I"⟩
abbrev cX10_add : ByteArray := prog_1_method_13_code
def yX10_add : MethodName := ⟨RX10, "add", "(II)I"⟩
abbrev cX10_dig : ByteArray := prog_1_method_14_code
def yX10_dig : MethodName := ⟨RX10, "dig", "(II)I"⟩
abbrev cX10_turn : ByteArray := prog_1_method_15_code
def yX10_turn : MethodName := ⟨RX10, "turn", "(I)I"⟩
abbrev cX10_wrap : ByteArray := prog_1_method_16_code
def yX10_wrap : MethodName := ⟨RX10, "wrap", "(II)I"⟩
abbrev cX10_memo : ByteArray := prog_1_method_17_code
def yX10_memo : MethodName := ⟨RX10, "memo", "(II)I"⟩
abbrev cX10_rake : ByteArray := prog_1_method_18_code
def yX10_rake : MethodName := ⟨RX10, "rake", "(IZ)I"⟩
abbrev cX10_go : ByteArray := prog_1_method_19_code
def yX10_go : MethodName := ⟨RX10, "go", "(I)I"⟩
abbrev cX10_ahead : ByteArray := prog_1_method_20_code
def yX10_ahead : MethodName := ⟨RX10, "ahead", "(III)I"⟩
abbrev cX10_later : ByteArray := prog_1_method_21_code
def yX10_later : MethodName := ⟨RX10, "later", "(II)I"⟩
abbrev cX10_when : ByteArray := prog_1_method_22_code
def yX10_when : MethodName := ⟨RX10, "when", "(II)I"⟩
abbrev cX10_places : ByteArray := prog_1_method_23_code
def yX10_places : MethodName := ⟨RX10, "places", "(II)I"⟩
abbrev cX10_flip : ByteArray := prog_1_method_24_code
def yX10_flip : MethodName := ⟨RX10, "flip", "(II)I"⟩
abbrev cX10_least : ByteArray := prog_1_method_25_code
def yX10_least : MethodName := ⟨RX10, "least", "(II)I"⟩
abbrev cX10_best : ByteArray := prog_1_method_26_code
def yX10_best : MethodName := ⟨RX10, "best", "(I)I"⟩
abbrev cX10_feel : ByteArray := prog_1_method_27_code
def yX10_feel : MethodName := ⟨RX10, "feel", "(III)I"⟩
abbrev cX10_forget : ByteArray := prog_1_method_28_code
def yX10_forget : MethodName := ⟨RX10, "forget", "(I)I"⟩
abbrev cX10_fits : ByteArray := prog_1_method_29_code
def yX10_fits : MethodName := ⟨RX10, "fits", "(I)I"⟩
abbrev cX10_lies : ByteArray := prog_1_method_30_code
def yX10_lies : MethodName := ⟨RX10, "lies", "(III)J"⟩
abbrev cX10_next : ByteArray := prog_1_method_31_code
def yX10_next : MethodName := ⟨RX10, "next", "(I)J"⟩
abbrev cX10_takes : ByteArray := prog_1_method_32_code
def yX10_takes : MethodName := ⟨RX10, "takes", "(I)I"⟩
abbrev cX10_morning : ByteArray := prog_1_method_33_code
def yX10_morning : MethodName := ⟨RX10, "morning", "(I)J"⟩
abbrev cX10_drift : ByteArray := prog_1_method_34_code
def yX10_drift : MethodName := ⟨RX10, "drift", "(III)I"⟩
abbrev cX10_keep : ByteArray := prog_1_method_35_code
def yX10_keep : MethodName := ⟨RX10, "keep", "(I)I"⟩
abbrev cX10_back : ByteArray := prog_1_method_36_code
def yX10_back : MethodName := ⟨RX10, "back", "(I)I"⟩
abbrev cX10_sheet : ByteArray := prog_1_method_37_code
def yX10_sheet : MethodName := ⟨RX10, "sheet", "(III)I"⟩
abbrev cX10_lay : ByteArray := prog_1_method_38_code
def yX10_lay : MethodName := ⟨RX10, "lay", "(III)I"⟩
abbrev cX10_read : ByteArray := prog_1_method_39_code
def yX10_read : MethodName := ⟨RX10, "read", "(IIII)I"⟩
abbrev cX10_torn : ByteArray := prog_1_method_40_code
def yX10_torn : MethodName := ⟨RX10, "torn", "()I"⟩
abbrev cX10_count : ByteArray := prog_1_method_41_code
def yX10_count : MethodName := ⟨RX10, "count", "(I)I"⟩
abbrev cX10_bringSort : ByteArray := prog_1_method_42_code
def yX10_bringSort : MethodName := ⟨RX10, "bringSort", "(II)Z"⟩
abbrev cX10_isSort : ByteArray := prog_1_method_43_code
def yX10_isSort : MethodName := ⟨RX10, "isSort", "(II)Z"⟩
abbrev cX10_isHeat : ByteArray := prog_1_method_44_code
def yX10_isHeat : MethodName := ⟨RX10, "isHeat", "(I)Z"⟩
abbrev cX10_isSheet : ByteArray := prog_1_method_45_code
def yX10_isSheet : MethodName := ⟨RX10, "isSheet", "(I)Z"⟩
abbrev cX10_isLane : ByteArray := prog_1_method_46_code
def yX10_isLane : MethodName := ⟨RX10, "isLane", "(I)Z"⟩
abbrev cX10_stepSeed : ByteArray := prog_1_method_47_code
def yX10_stepSeed : MethodName := ⟨RX10, "stepSeed", "(I)I"⟩
abbrev cX10_seedBits : ByteArray := prog_1_method_48_code
def yX10_seedBits : MethodName := ⟨RX10, "seedBits", "(I)I"⟩
abbrev cX10_fractionPart : ByteArray := prog_1_method_49_code
def yX10_fractionPart : MethodName := ⟨RX10, "fractionPart", "(JJI)J"⟩
abbrev cX10_commonDivisor : ByteArray := prog_1_method_50_code
def yX10_commonDivisor : MethodName := ⟨RX10, "commonDivisor", "(JJ)J"⟩
def RX11 : String := "EmberSpudsModel"
def TX11 : u_T := fun k => match k with
  | 0 => ("EmberSpudsModel", "st", "[I", true)
  | 1 => ("EmberSpudsModel", "at", "[I", true)
  | 2 => ("EmberSpudsModel", "isKept", "[Z", true)
  | 3 => ("EmberSpudsModel", "many", "I", false)
  | 4 => ("EmberSpudsModel", "draft", "[I", true)
  | 5 => ("EmberSpudsModel", "dMany", "I", false)
  | 6 => ("EmberSpudsModel", "hasFire", "Z", false)
  | 7 => ("EmberSpudsModel", "toldHeats", "I", false)
  | 8 => ("EmberSpudsModel", "toldMemos", "I", false)
  | 9 => ("EmberSpudsModel", "highestCell", "I", false)
  | 10 => ("EmberSpudsModel", "highestPlace", "I", false)
  | 11 => ("EmberSpudsModel", "highestSpud", "I", false)
  | 12 => ("EmberSpudsModel", "tape", "[I", true)
  | 13 => ("EmberSpudsModel", "taped", "I", false)
  | 14 => ("EmberSpudsModel", "pos", "I", false)
  | 15 => ("EmberSpudsModel", "from", "I", false)
  | 16 => ("EmberSpudsModel", "sort", "I", false)
  | 17 => ("EmberSpudsModel", "value", "I", false)
  | 18 => ("EmberSpudsModel", "fault", "I", false)
  | 19 => ("EmberSpudsModel", "wrongAt", "I", false)
  | 20 => ("EmberSpudsModel", "goodIn", "[I", true)
  | 21 => ("EmberSpudsModel", "goodOut", "[Z", true)
  | 22 => ("EmberSpudsModel", "canSet", "[Z", true)
  | 23 => ("EmberSpudsModel", "lanes", "[I", true)
  | 24 => ("EmberSpudsModel", "sizes", "[I", true)
  | 25 => ("EmberSpudsModel", "cells", "[I", true)
  | _ => ("EmberSpudsModel", "torn", "I", false)
def tyX11 : Nat → FieldType := fun k => match k with
  | 0 => .array .int
  | 1 => .array .int
  | 2 => .array .boolean
  | 3 => .int
  | 4 => .array .int
  | 5 => .int
  | 6 => .boolean
  | 7 => .int
  | 8 => .int
  | 9 => .int
  | 10 => .int
  | 11 => .int
  | 12 => .array .int
  | 13 => .int
  | 14 => .int
  | 15 => .int
  | 16 => .int
  | 17 => .int
  | 18 => .int
  | 19 => .int
  | 20 => .array .int
  | 21 => .array .boolean
  | 22 => .array .boolean
  | 23 => .array .int
  | 24 => .array .int
  | 25 => .array .int
  | _ => .int
theorem nmX11 : ∀ a, a < 27 → ∀ b, b < 27 → a ≠ b → (TX11 a).2.1 ≠ (TX11 b).2.1 := by decide +kernel
theorem tyX11_ok : ∀ k, k < 27 → parseFieldDescriptor (TX11 k).2.2.1 = some (tyX11 k) := by decide +kernel
abbrev cX11_init : ByteArray := prog_13_method_1_code
def yX11_init : MethodName := ⟨RX11, "<init>", "()V"⟩
abbrev cX11_in : ByteArray := prog_13_method_3_code
def yX11_in : MethodName := ⟨RX11, "in", "(JJJ)Z"⟩
abbrev cX11_flag : ByteArray := prog_13_method_4_code
def yX11_flag : MethodName := ⟨RX11, "flag", "(Z)I"⟩
abbrev cX11_firstDraft : ByteArray := prog_13_method_5_code
def yX11_firstDraft : MethodName := ⟨RX11, "firstDraft", "()V"⟩
abbrev cX11_keepDraft : ByteArray := prog_13_method_6_code
def yX11_keepDraft : MethodName := ⟨RX11, "keepDraft", "()V"⟩
abbrev cX11_feed : ByteArray := prog_13_method_7_code
def yX11_feed : MethodName := ⟨RX11, "feed", "(I)I"⟩
abbrev cX11_end : ByteArray := prog_13_method_8_code
def yX11_end : MethodName := ⟨RX11, "end", "(I)I"⟩
abbrev cX11_needs : ByteArray := prog_13_method_9_code
def yX11_needs : MethodName := ⟨RX11, "needs", "(ZI)V"⟩
abbrev cX11_look : ByteArray := prog_13_method_10_code
def yX11_look : MethodName := ⟨RX11, "look", "(I)I"⟩
abbrev cX11_is : ByteArray := prog_13_method_11_code
def yX11_is : MethodName := ⟨RX11, "is", "(IIII)Z"⟩
abbrev cX11_ends : ByteArray := prog_13_method_12_code
def yX11_ends : MethodName := ⟨RX11, "ends", "(I)Z"⟩
abbrev cX11_lineNow : ByteArray := prog_13_method_13_code
def yX11_lineNow : MethodName := ⟨RX11, "lineNow", "()I"⟩
abbrev cX11_wrapNow : ByteArray := prog_13_method_14_code
def yX11_wrapNow : MethodName := ⟨RX11, "wrapNow", "()I"⟩
abbrev cX11_next : ByteArray := prog_13_method_15_code
def yX11_next : MethodName := ⟨RX11, "next", "()V"⟩
abbrev cX11_looked : ByteArray := prog_13_method_16_code
def yX11_looked : MethodName := ⟨RX11, "looked", "(II)I"⟩
abbrev cX11_readNumber : ByteArray := prog_13_method_17_code
def yX11_readNumber : MethodName := ⟨RX11, "readNumber", "(II)I"⟩
abbrev cX11_lookedCell : ByteArray := prog_13_method_18_code
def yX11_lookedCell : MethodName := ⟨RX11, "lookedCell", "()I"⟩
abbrev cX11_readCell : ByteArray := prog_13_method_19_code
def yX11_readCell : MethodName := ⟨RX11, "readCell", "()I"⟩
abbrev cX11_readWrap : ByteArray := prog_13_method_20_code
def yX11_readWrap : MethodName := ⟨RX11, "readWrap", "()I"⟩
abbrev cX11_readHeat : ByteArray := prog_13_method_21_code
def yX11_readHeat : MethodName := ⟨RX11, "readHeat", "()V"⟩
abbrev cX11_readWood : ByteArray := prog_13_method_22_code
def yX11_readWood : MethodName := ⟨RX11, "readWood", "()V"⟩
abbrev cX11_readSpud : ByteArray := prog_13_method_23_code
def yX11_readSpud : MethodName := ⟨RX11, "readSpud", "(Z)V"⟩
abbrev cX11_readMemo : ByteArray := prog_13_method_24_code
def yX11_readMemo : MethodName := ⟨RX11, "readMemo", "()V"⟩
abbrev cX11_readLineOf : ByteArray := prog_13_method_25_code
def yX11_readLineOf : MethodName := ⟨RX11, "readLineOf", "(I)V"⟩
abbrev cX11_readLine : ByteArray := prog_13_method_26_code
def yX11_readLine : MethodName := ⟨RX11, "readLine", "()V"⟩
abbrev cX11_text : ByteArray := prog_13_method_27_code
def yX11_text : MethodName := ⟨RX11, "text", "()I"⟩
abbrev cX11_fault : ByteArray := prog_13_method_28_code
def yX11_fault : MethodName := ⟨RX11, "fault", "()I"⟩
abbrev cX11_isCell : ByteArray := prog_13_method_29_code
def yX11_isCell : MethodName := ⟨RX11, "isCell", "(I)Z"⟩
abbrev cX11_isPlace : ByteArray := prog_13_method_30_code
def yX11_isPlace : MethodName := ⟨RX11, "isPlace", "(I)Z"⟩
abbrev cX11_isSpud : ByteArray := prog_13_method_31_code
def yX11_isSpud : MethodName := ⟨RX11, "isSpud", "(I)Z"⟩
abbrev cX11_starts : ByteArray := prog_13_method_32_code
def yX11_starts : MethodName := ⟨RX11, "starts", "()V"⟩
abbrev cX11_of : ByteArray := prog_13_method_33_code
def yX11_of : MethodName := ⟨RX11, "of", "(II)I"⟩
abbrev cX11_becomesOf : ByteArray := prog_13_method_34_code
def yX11_becomesOf : MethodName := ⟨RX11, "becomesOf", "(III)V"⟩
abbrev cX11_most : ByteArray := prog_13_method_35_code
def yX11_most : MethodName := ⟨RX11, "most", "(I)I"⟩
abbrev cX11_bakes : ByteArray := prog_13_method_36_code
def yX11_bakes : MethodName := ⟨RX11, "bakes", "(I)V"⟩
abbrev cX11_embers : ByteArray := prog_13_method_37_code
def yX11_embers : MethodName := ⟨RX11, "embers", "(II)V"⟩
abbrev cX11_burns : ByteArray := prog_13_method_38_code
def yX11_burns : MethodName := ⟨RX11, "burns", "()V"⟩
abbrev cX11_cools : ByteArray := prog_13_method_39_code
def yX11_cools : MethodName := ⟨RX11, "cools", "()V"⟩
abbrev cX11_rounds : ByteArray := prog_13_method_40_code
def yX11_rounds : MethodName := ⟨RX11, "rounds", "()V"⟩
abbrev cX11_roundsAll : ByteArray := prog_13_method_41_code
def yX11_roundsAll : MethodName := ⟨RX11, "roundsAll", "(I)V"⟩
abbrev cX11_isDone : ByteArray := prog_13_method_42_code
def yX11_isDone : MethodName := ⟨RX11, "isDone", "(I)Z"⟩
abbrev cX11_isBlack : ByteArray := prog_13_method_43_code
def yX11_isBlack : MethodName := ⟨RX11, "isBlack", "(I)Z"⟩
abbrev cX11_isGood : ByteArray := prog_13_method_44_code
def yX11_isGood : MethodName := ⟨RX11, "isGood", "(I)Z"⟩
abbrev cX11_goods : ByteArray := prog_13_method_45_code
def yX11_goods : MethodName := ⟨RX11, "goods", "()I"⟩
abbrev cX11_blacks : ByteArray := prog_13_method_46_code
def yX11_blacks : MethodName := ⟨RX11, "blacks", "()I"⟩
abbrev cX11_tells : ByteArray := prog_13_method_47_code
def yX11_tells : MethodName := ⟨RX11, "tells", "(II)I"⟩
abbrev cX11_rule : ByteArray := prog_13_method_48_code
def yX11_rule : MethodName := ⟨RX11, "rule", "(I)I"⟩
abbrev cX11_heat : ByteArray := prog_13_method_49_code
def yX11_heat : MethodName := ⟨RX11, "heat", "(I)I"⟩
abbrev cX11_wood : ByteArray := prog_13_method_50_code
def yX11_wood : MethodName := ⟨RX11, "wood", "(II)I"⟩
abbrev cX11_spud : ByteArray := prog_13_method_51_code
def yX11_spud : MethodName := ⟨RX11, "spud", "(II)I"⟩
abbrev cX11_becomes : ByteArray := prog_13_method_52_code
def yX11_becomes : MethodName := ⟨RX11, "becomes", "(II)I"⟩
abbrev cX11_fan : ByteArray := prog_13_method_53_code
def yX11_fan : MethodName := ⟨RX11, "fan", "(II)I"⟩
abbrev cX11_ash : ByteArray := prog_13_method_54_code
def yX11_ash : MethodName := ⟨RX11, "ash", "(II)I"⟩
abbrev cX11_stoke : ByteArray := prog_13_method_55_code
def yX11_stoke : MethodName := ⟨RX11, "stoke", "(III)I"⟩
abbrev cX11_add : ByteArray := prog_13_method_56_code
def yX11_add : MethodName := ⟨RX11, "add", "(II)I"⟩
abbrev cX11_dig : ByteArray := prog_13_method_57_code
def yX11_dig : MethodName := ⟨RX11, "dig", "(II)I"⟩
abbrev cX11_turn : ByteArray := prog_13_method_58_code
def yX11_turn : MethodName := ⟨RX11, "turn", "(I)I"⟩
abbrev cX11_wrap : ByteArray := prog_13_method_59_code
def yX11_wrap : MethodName := ⟨RX11, "wrap", "(II)I"⟩
abbrev cX11_memo : ByteArray := prog_13_method_60_code
def yX11_memo : MethodName := ⟨RX11, "memo", "(II)I"⟩
abbrev cX11_rake : ByteArray := prog_13_method_61_code
def yX11_rake : MethodName := ⟨RX11, "rake", "(IZ)I"⟩
abbrev cX11_go : ByteArray := prog_13_method_62_code
def yX11_go : MethodName := ⟨RX11, "go", "(I)I"⟩
abbrev cX11_ahead : ByteArray := prog_13_method_63_code
def yX11_ahead : MethodName := ⟨RX11, "ahead", "(III)I"⟩
abbrev cX11_later : ByteArray := prog_13_method_64_code
def yX11_later : MethodName := ⟨RX11, "later", "(II)I"⟩
abbrev cX11_when : ByteArray := prog_13_method_65_code
def yX11_when : MethodName := ⟨RX11, "when", "(II)I"⟩
abbrev cX11_findGoods : ByteArray := prog_13_method_66_code
def yX11_findGoods : MethodName := ⟨RX11, "findGoods", "(I)V"⟩
abbrev cX11_bitsOf : ByteArray := prog_13_method_67_code
def yX11_bitsOf : MethodName := ⟨RX11, "bitsOf", "(I)I"⟩
abbrev cX11_mostFrom : ByteArray := prog_13_method_68_code
def yX11_mostFrom : MethodName := ⟨RX11, "mostFrom", "(II)I"⟩
abbrev cX11_placeOf : ByteArray := prog_13_method_69_code
def yX11_placeOf : MethodName := ⟨RX11, "placeOf", "(III)I"⟩
abbrev cX11_places : ByteArray := prog_13_method_70_code
def yX11_places : MethodName := ⟨RX11, "places", "(II)I"⟩
abbrev cX11_flip : ByteArray := prog_13_method_71_code
def yX11_flip : MethodName := ⟨RX11, "flip", "(II)I"⟩
abbrev cX11_least : ByteArray := prog_13_method_72_code
def yX11_least : MethodName := ⟨RX11, "least", "(II)I"⟩
abbrev cX11_best : ByteArray := prog_13_method_73_code
def yX11_best : MethodName := ⟨RX11, "best", "(I)I"⟩
abbrev cX11_feel : ByteArray := prog_13_method_74_code
def yX11_feel : MethodName := ⟨RX11, "feel", "(III)I"⟩
abbrev cX11_forget : ByteArray := prog_13_method_75_code
def yX11_forget : MethodName := ⟨RX11, "forget", "(I)I"⟩
abbrev cX11_isSo : ByteArray := prog_13_method_76_code
def yX11_isSo : MethodName := ⟨RX11, "isSo", "(II)Z"⟩
abbrev cX11_fits : ByteArray := prog_13_method_77_code
def yX11_fits : MethodName := ⟨RX11, "fits", "(I)I"⟩
abbrev cX11_weightOf : ByteArray := prog_13_method_78_code
def yX11_weightOf : MethodName := ⟨RX11, "weightOf", "(II)I"⟩
abbrev cX11_allOf : ByteArray := prog_13_method_79_code
def yX11_allOf : MethodName := ⟨RX11, "allOf", "(I)I"⟩
abbrev cX11_common : ByteArray := prog_13_method_80_code
def yX11_common : MethodName := ⟨RX11, "common", "(JJ)J"⟩
abbrev cX11_told : ByteArray := prog_13_method_81_code
def yX11_told : MethodName := ⟨RX11, "told", "(JJZ)J"⟩
abbrev cX11_lies : ByteArray := prog_13_method_82_code
def yX11_lies : MethodName := ⟨RX11, "lies", "(III)J"⟩
abbrev cX11_next_ : ByteArray := prog_13_method_83_code
def yX11_next_ : MethodName := ⟨RX11, "next", "(I)J"⟩
abbrev cX11_isBefore : ByteArray := prog_13_method_84_code
def yX11_isBefore : MethodName := ⟨RX11, "isBefore", "(II)Z"⟩
abbrev cX11_takes : ByteArray := prog_13_method_85_code
def yX11_takes : MethodName := ⟨RX11, "takes", "(I)I"⟩
abbrev cX11_morning : ByteArray := prog_13_method_86_code
def yX11_morning : MethodName := ⟨RX11, "morning", "(I)J"⟩
abbrev cX11_drift : ByteArray := prog_13_method_87_code
def yX11_drift : MethodName := ⟨RX11, "drift", "(III)I"⟩
abbrev cX11_copies : ByteArray := prog_13_method_88_code
def yX11_copies : MethodName := ⟨RX11, "copies", "(II)V"⟩
abbrev cX11_keep : ByteArray := prog_13_method_89_code
def yX11_keep : MethodName := ⟨RX11, "keep", "(I)I"⟩
abbrev cX11_back : ByteArray := prog_13_method_90_code
def yX11_back : MethodName := ⟨RX11, "back", "(I)I"⟩
abbrev cX11_isSheet : ByteArray := prog_13_method_91_code
def yX11_isSheet : MethodName := ⟨RX11, "isSheet", "(II)Z"⟩
abbrev cX11_sheet : ByteArray := prog_13_method_92_code
def yX11_sheet : MethodName := ⟨RX11, "sheet", "(III)I"⟩
abbrev cX11_lay : ByteArray := prog_13_method_93_code
def yX11_lay : MethodName := ⟨RX11, "lay", "(III)I"⟩
abbrev cX11_read : ByteArray := prog_13_method_94_code
def yX11_read : MethodName := ⟨RX11, "read", "(IIII)I"⟩
abbrev cX11_torn : ByteArray := prog_13_method_95_code
def yX11_torn : MethodName := ⟨RX11, "torn", "()I"⟩
abbrev cX11_count : ByteArray := prog_13_method_96_code
def yX11_count : MethodName := ⟨RX11, "count", "(I)I"⟩
def RJx145de : String := "java/io/Serializable"
def TJx145de : u_T := fun k => match k with
  | _ => ("", "", "", false)
def tyJx145de : Nat → FieldType := fun k => match k with
  | _ => .int
theorem nmJx145de : ∀ a, a < 0 → ∀ b, b < 0 → a ≠ b → (TJx145de a).2.1 ≠ (TJx145de b).2.1 := by decide +kernel
theorem tyJx145de_ok : ∀ k, k < 0 → parseFieldDescriptor (TJx145de k).2.2.1 = some (tyJx145de k) := by decide +kernel
def RJx9f9b0 : String := "java/lang/CharSequence"
def TJx9f9b0 : u_T := fun k => match k with
  | _ => ("", "", "", false)
def tyJx9f9b0 : Nat → FieldType := fun k => match k with
  | _ => .int
theorem nmJx9f9b0 : ∀ a, a < 0 → ∀ b, b < 0 → a ≠ b → (TJx9f9b0 a).2.1 ≠ (TJx9f9b0 b).2.1 := by decide +kernel
theorem tyJx9f9b0_ok : ∀ k, k < 0 → parseFieldDescriptor (TJx9f9b0 k).2.2.1 = some (tyJx9f9b0 k) := by decide +kernel
def RJxb160c : String := "java/lang/Comparable"
def TJxb160c : u_T := fun k => match k with
  | _ => ("", "", "", false)
def tyJxb160c : Nat → FieldType := fun k => match k with
  | _ => .int
theorem nmJxb160c : ∀ a, a < 0 → ∀ b, b < 0 → a ≠ b → (TJxb160c a).2.1 ≠ (TJxb160c b).2.1 := by decide +kernel
theorem tyJxb160c_ok : ∀ k, k < 0 → parseFieldDescriptor (TJxb160c k).2.2.1 = some (tyJxb160c k) := by decide +kernel
def RJ6 : String := "java/lang/Integer"
def TJ6 : u_T := fun k => match k with
  | _ => ("", "", "", false)
def tyJ6 : Nat → FieldType := fun k => match k with
  | _ => .int
theorem nmJ6 : ∀ a, a < 0 → ∀ b, b < 0 → a ≠ b → (TJ6 a).2.1 ≠ (TJ6 b).2.1 := by decide +kernel
theorem tyJ6_ok : ∀ k, k < 0 → parseFieldDescriptor (TJ6 k).2.2.1 = some (tyJ6 k) := by decide +kernel
abbrev cJ6_bitCount_0f7a4 : ByteArray := prog_14_method_49_code
def yJ6_bitCount_0f7a4 : MethodName := ⟨RJ6, "bitCount", "(I)I"⟩
def RJ9 : String := "java/lang/Math"
def TJ9 : u_T := fun k => match k with
  | _ => ("", "", "", false)
def tyJ9 : Nat → FieldType := fun k => match k with
  | _ => .int
theorem nmJ9 : ∀ a, a < 0 → ∀ b, b < 0 → a ≠ b → (TJ9 a).2.1 ≠ (TJ9 b).2.1 := by decide +kernel
theorem tyJ9_ok : ∀ k, k < 0 → parseFieldDescriptor (TJ9 k).2.2.1 = some (tyJ9 k) := by decide +kernel
abbrev cJ9_abs_0f7a4 : ByteArray := prog_15_method_59_code
def yJ9_abs_0f7a4 : MethodName := ⟨RJ9, "abs", "(I)I"⟩
abbrev cJ9_max_7cf53 : ByteArray := prog_15_method_65_code
def yJ9_max_7cf53 : MethodName := ⟨RJ9, "max", "(II)I"⟩
abbrev cJ9_min_7cf53 : ByteArray := prog_15_method_69_code
def yJ9_min_7cf53 : MethodName := ⟨RJ9, "min", "(II)I"⟩
def RJ0 : String := "java/lang/String"
def TJ0 : u_T := fun k => match k with
  | _ => ("", "", "", false)
def tyJ0 : Nat → FieldType := fun k => match k with
  | _ => .int
theorem nmJ0 : ∀ a, a < 0 → ∀ b, b < 0 → a ≠ b → (TJ0 a).2.1 ≠ (TJ0 b).2.1 := by decide +kernel
theorem tyJ0_ok : ∀ k, k < 0 → parseFieldDescriptor (TJ0 k).2.2.1 = some (tyJ0 k) := by decide +kernel
abbrev cJ0_length_8abf5 : ByteArray := prog_16_method_54_code
def yJ0_length_8abf5 : MethodName := ⟨RJ0, "length", "()I"⟩
abbrev cJ0_charAt_5068e : ByteArray := prog_16_method_56_code
def yJ0_charAt_5068e : MethodName := ⟨RJ0, "charAt", "(I)C"⟩
abbrev cJ0_coder_7d493 : ByteArray := prog_16_method_152_code
def yJ0_coder_7d493 : MethodName := ⟨RJ0, "coder", "()B"⟩
abbrev cJ0_isLatin1_aae02 : ByteArray := prog_16_method_154_code
def yJ0_isLatin1_aae02 : MethodName := ⟨RJ0, "isLatin1", "()Z"⟩
abbrev cJ0_checkIndex_df160 : ByteArray := prog_16_method_155_code
def yJ0_checkIndex_df160 : MethodName := ⟨RJ0, "checkIndex", "(II)V"⟩
def RJ1 : String := "java/lang/StringLatin1"
def TJ1 : u_T := fun k => match k with
  | _ => ("", "", "", false)
def tyJ1 : Nat → FieldType := fun k => match k with
  | _ => .int
theorem nmJ1 : ∀ a, a < 0 → ∀ b, b < 0 → a ≠ b → (TJ1 a).2.1 ≠ (TJ1 b).2.1 := by decide +kernel
theorem tyJ1_ok : ∀ k, k < 0 → parseFieldDescriptor (TJ1 k).2.2.1 = some (tyJ1 k) := by decide +kernel
abbrev cJ1_charAt_3b067 : ByteArray := prog_17_method_2_code
def yJ1_charAt_3b067 : MethodName := ⟨RJ1, "charAt", "([BI)C"⟩
def RJ2 : String := "java/lang/StringUTF16"
def TJ2 : u_T := fun k => match k with
  | _ => ("", "", "", false)
def tyJ2 : Nat → FieldType := fun k => match k with
  | _ => .int
theorem nmJ2 : ∀ a, a < 0 → ∀ b, b < 0 → a ≠ b → (TJ2 a).2.1 ≠ (TJ2 b).2.1 := by decide +kernel
theorem tyJ2_ok : ∀ k, k < 0 → parseFieldDescriptor (TJ2 k).2.2.1 = some (tyJ2 k) := by decide +kernel
abbrev cJ2_getChar_3b067 : ByteArray := prog_18_method_5_code
def yJ2_getChar_3b067 : MethodName := ⟨RJ2, "getChar", "([BI)C"⟩
abbrev cJ2_length_9d52b : ByteArray := prog_18_method_6_code
def yJ2_length_9d52b : MethodName := ⟨RJ2, "length", "([B)I"⟩
abbrev cJ2_charAt_3b067 : ByteArray := prog_18_method_83_code
def yJ2_charAt_3b067 : MethodName := ⟨RJ2, "charAt", "([BI)C"⟩
abbrev cJ2_checkIndex_2214a : ByteArray := prog_18_method_91_code
def yJ2_checkIndex_2214a : MethodName := ⟨RJ2, "checkIndex", "(I[B)V"⟩
def RJ10 : String := "java/lang/System"
def TJ10 : u_T := fun k => match k with
  | _ => ("", "", "", false)
def tyJ10 : Nat → FieldType := fun k => match k with
  | _ => .int
theorem nmJ10 : ∀ a, a < 0 → ∀ b, b < 0 → a ≠ b → (TJ10 a).2.1 ≠ (TJ10 b).2.1 := by decide +kernel
theorem tyJ10_ok : ∀ k, k < 0 → parseFieldDescriptor (TJ10 k).2.2.1 = some (tyJ10 k) := by decide +kernel
def RJxfd54e : String := "java/lang/constant/Constable"
def TJxfd54e : u_T := fun k => match k with
  | _ => ("", "", "", false)
def tyJxfd54e : Nat → FieldType := fun k => match k with
  | _ => .int
theorem nmJxfd54e : ∀ a, a < 0 → ∀ b, b < 0 → a ≠ b → (TJxfd54e a).2.1 ≠ (TJxfd54e b).2.1 := by decide +kernel
theorem tyJxfd54e_ok : ∀ k, k < 0 → parseFieldDescriptor (TJxfd54e k).2.2.1 = some (tyJxfd54e k) := by decide +kernel
def RJx3cf43 : String := "java/lang/constant/ConstantDesc"
def TJx3cf43 : u_T := fun k => match k with
  | _ => ("", "", "", false)
def tyJx3cf43 : Nat → FieldType := fun k => match k with
  | _ => .int
theorem nmJx3cf43 : ∀ a, a < 0 → ∀ b, b < 0 → a ≠ b → (TJx3cf43 a).2.1 ≠ (TJx3cf43 b).2.1 := by decide +kernel
theorem tyJx3cf43_ok : ∀ k, k < 0 → parseFieldDescriptor (TJx3cf43 k).2.2.1 = some (tyJx3cf43 k) := by decide +kernel
def RJ7 : String := "java/util/Arrays"
def TJ7 : u_T := fun k => match k with
  | _ => ("", "", "", false)
def tyJ7 : Nat → FieldType := fun k => match k with
  | _ => .int
theorem nmJ7 : ∀ a, a < 0 → ∀ b, b < 0 → a ≠ b → (TJ7 a).2.1 ≠ (TJ7 b).2.1 := by decide +kernel
theorem tyJ7_ok : ∀ k, k < 0 → parseFieldDescriptor (TJ7 k).2.2.1 = some (tyJ7 k) := by decide +kernel
abbrev cJ7_fill_53178 : ByteArray := prog_20_method_103_code
def yJ7_fill_53178 : MethodName := ⟨RJ7, "fill", "([II)V"⟩
def RJ3 : String := "jdk/internal/util/Preconditions"
def TJ3 : u_T := fun k => match k with
  | _ => ("", "", "", false)
def tyJ3 : Nat → FieldType := fun k => match k with
  | _ => .int
theorem nmJ3 : ∀ a, a < 0 → ∀ b, b < 0 → a ≠ b → (TJ3 a).2.1 ≠ (TJ3 b).2.1 := by decide +kernel
theorem tyJ3_ok : ∀ k, k < 0 → parseFieldDescriptor (TJ3 k).2.2.1 = some (tyJ3 k) := by decide +kernel
abbrev cJ3_checkIndex_8e157 : ByteArray := prog_21_method_11_code
def yJ3_checkIndex_8e157 : MethodName := ⟨RJ3, "checkIndex", "(IILjava/util/function/BiFunction;)I"⟩
def RL : String := "EmberSpudsLaw"
abbrev cL_law : ByteArray := code
def yL_law : MethodName := ⟨RL, "law", "([I)Z"⟩
abbrev vwCl : List vw_C := [(RX0, TX0, 9), (RX1, TX1, 5), (RX2, TX2, 8), (RX3, TX3, 5), (RX4, TX4, 3), (RX5, TX5, 9), (RX6, TX6, 3), (RX7, TX7, 7), (RX8, TX8, 7), (RX9, TX9, 2), (RX10, TX10, 12), (RX11, TX11, 27)]
end
section
theorem dX0_init_0 : decode cX0_init 0 = .ok (.aload_n 0, 1) := by decide +kernel
theorem dX0_init_1 : decode cX0_init 1 = .ok (.invokespecial 3, 3) := by decide +kernel
theorem dX0_init_4 : decode cX0_init 4 = .ok (.aload_n 0, 1) := by decide +kernel
theorem dX0_init_5 : decode cX0_init 5 = .ok (.new 9, 3) := by decide +kernel
theorem dX0_init_8 : decode cX0_init 8 = .ok (.dup, 1) := by decide +kernel
theorem dX0_init_9 : decode cX0_init 9 = .ok (.invokespecial 11, 3) := by decide +kernel
theorem dX0_init_12 : decode cX0_init 12 = .ok (.putfield 12, 3) := by decide +kernel
theorem dX0_init_15 : decode cX0_init 15 = .ok (.aload_n 0, 1) := by decide +kernel
theorem dX0_init_16 : decode cX0_init 16 = .ok (.bipush 6, 2) := by decide +kernel
theorem dX0_init_18 : decode cX0_init 18 = .ok (.anewarray 18, 3) := by decide +kernel
theorem dX0_init_21 : decode cX0_init 21 = .ok (.putfield 20, 3) := by decide +kernel
theorem dX0_init_24 : decode cX0_init 24 = .ok (.aload_n 0, 1) := by decide +kernel
theorem dX0_init_25 : decode cX0_init 25 = .ok (.bipush 6, 2) := by decide +kernel
theorem dX0_init_27 : decode cX0_init 27 = .ok (.newarray .int, 2) := by decide +kernel
theorem dX0_init_29 : decode cX0_init 29 = .ok (.putfield 24, 3) := by decide +kernel
theorem dX0_init_32 : decode cX0_init 32 = .ok (.aload_n 0, 1) := by decide +kernel
theorem dX0_init_33 : decode cX0_init 33 = .ok (.bipush 6, 2) := by decide +kernel
theorem dX0_init_35 : decode cX0_init 35 = .ok (.newarray .int, 2) := by decide +kernel
theorem dX0_init_37 : decode cX0_init 37 = .ok (.putfield 28, 3) := by decide +kernel
theorem dX0_init_40 : decode cX0_init 40 = .ok (.aload_n 0, 1) := by decide +kernel
theorem dX0_init_41 : decode cX0_init 41 = .ok (.bipush 6, 2) := by decide +kernel
theorem dX0_init_43 : decode cX0_init 43 = .ok (.newarray .int, 2) := by decide +kernel
theorem dX0_init_45 : decode cX0_init 45 = .ok (.putfield 31, 3) := by decide +kernel
theorem dX0_init_48 : decode cX0_init 48 = .ok (.iconst 0, 1) := by decide +kernel
theorem dX0_init_49 : decode cX0_init 49 = .ok (.istore_n 1, 1) := by decide +kernel
theorem dX0_init_50 : decode cX0_init 50 = .ok (.iload_n 1, 1) := by decide +kernel
theorem dX0_init_51 : decode cX0_init 51 = .ok (.bipush 6, 2) := by decide +kernel
theorem dX0_init_53 : decode cX0_init 53 = .ok (.if_icmp .ge 22, 3) := by decide +kernel
theorem dX0_init_56 : decode cX0_init 56 = .ok (.aload_n 0, 1) := by decide +kernel
theorem dX0_init_57 : decode cX0_init 57 = .ok (.getfield 20, 3) := by decide +kernel
theorem dX0_init_60 : decode cX0_init 60 = .ok (.iload_n 1, 1) := by decide +kernel
theorem dX0_init_61 : decode cX0_init 61 = .ok (.new 18, 3) := by decide +kernel
theorem dX0_init_64 : decode cX0_init 64 = .ok (.dup, 1) := by decide +kernel
theorem dX0_init_65 : decode cX0_init 65 = .ok (.invokespecial 34, 3) := by decide +kernel
theorem dX0_init_68 : decode cX0_init 68 = .ok (.aastore, 1) := by decide +kernel
theorem dX0_init_69 : decode cX0_init 69 = .ok (.iinc 1 1, 3) := by decide +kernel
theorem dX0_init_72 : decode cX0_init 72 = .ok (.goto (-22), 3) := by decide +kernel
theorem dX0_init_75 : decode cX0_init 75 = .ok (.aload_n 0, 1) := by decide +kernel
theorem dX0_init_76 : decode cX0_init 76 = .ok (.getfield 12, 3) := by decide +kernel
theorem dX0_init_79 : decode cX0_init 79 = .ok (.invokevirtual 35, 3) := by decide +kernel
theorem dX0_init_82 : decode cX0_init 82 = .ok (.return_, 1) := by decide +kernel
theorem dX0_startAnew_0 : decode cX0_startAnew 0 = .ok (.aload_n 0, 1) := by decide +kernel
theorem dX0_startAnew_1 : decode cX0_startAnew 1 = .ok (.getfield 12, 3) := by decide +kernel
theorem dX0_startAnew_4 : decode cX0_startAnew 4 = .ok (.invokevirtual 35, 3) := by decide +kernel
theorem dX0_startAnew_7 : decode cX0_startAnew 7 = .ok (.aload_n 0, 1) := by decide +kernel
theorem dX0_startAnew_8 : decode cX0_startAnew 8 = .ok (.iconst 0, 1) := by decide +kernel
theorem dX0_startAnew_9 : decode cX0_startAnew 9 = .ok (.putfield 38, 3) := by decide +kernel
theorem dX0_startAnew_12 : decode cX0_startAnew 12 = .ok (.aload_n 0, 1) := by decide +kernel
theorem dX0_startAnew_13 : decode cX0_startAnew 13 = .ok (.iconst 0, 1) := by decide +kernel
theorem dX0_startAnew_14 : decode cX0_startAnew 14 = .ok (.putfield 42, 3) := by decide +kernel
theorem dX0_startAnew_17 : decode cX0_startAnew 17 = .ok (.aload_n 0, 1) := by decide +kernel
theorem dX0_startAnew_18 : decode cX0_startAnew 18 = .ok (.iconst 0, 1) := by decide +kernel
theorem dX0_startAnew_19 : decode cX0_startAnew 19 = .ok (.putfield 45, 3) := by decide +kernel
theorem dX0_startAnew_22 : decode cX0_startAnew 22 = .ok (.aload_n 0, 1) := by decide +kernel
theorem dX0_startAnew_23 : decode cX0_startAnew 23 = .ok (.iconst 0, 1) := by decide +kernel
theorem dX0_startAnew_24 : decode cX0_startAnew 24 = .ok (.putfield 48, 3) := by decide +kernel
theorem dX0_startAnew_27 : decode cX0_startAnew 27 = .ok (.return_, 1) := by decide +kernel
theorem dX0_copyFrom_0 : decode cX0_copyFrom 0 = .ok (.aload_n 0, 1) := by decide +kernel
theorem dX0_copyFrom_1 : decode cX0_copyFrom 1 = .ok (.getfield 12, 3) := by decide +kernel
theorem dX0_copyFrom_4 : decode cX0_copyFrom 4 = .ok (.aload_n 1, 1) := by decide +kernel
theorem dX0_copyFrom_5 : decode cX0_copyFrom 5 = .ok (.getfield 12, 3) := by decide +kernel
theorem dX0_copyFrom_8 : decode cX0_copyFrom 8 = .ok (.invokevirtual 51, 3) := by decide +kernel
theorem dX0_copyFrom_11 : decode cX0_copyFrom 11 = .ok (.iconst 0, 1) := by decide +kernel
theorem dX0_copyFrom_12 : decode cX0_copyFrom 12 = .ok (.istore_n 2, 1) := by decide +kernel
theorem dX0_copyFrom_13 : decode cX0_copyFrom 13 = .ok (.iload_n 2, 1) := by decide +kernel
theorem dX0_copyFrom_14 : decode cX0_copyFrom 14 = .ok (.aload_n 1, 1) := by decide +kernel
theorem dX0_copyFrom_15 : decode cX0_copyFrom 15 = .ok (.getfield 38, 3) := by decide +kernel
theorem dX0_copyFrom_18 : decode cX0_copyFrom 18 = .ok (.if_icmp .ge 24, 3) := by decide +kernel
theorem dX0_copyFrom_21 : decode cX0_copyFrom 21 = .ok (.aload_n 0, 1) := by decide +kernel
theorem dX0_copyFrom_22 : decode cX0_copyFrom 22 = .ok (.getfield 20, 3) := by decide +kernel
theorem dX0_copyFrom_25 : decode cX0_copyFrom 25 = .ok (.iload_n 2, 1) := by decide +kernel
theorem dX0_copyFrom_26 : decode cX0_copyFrom 26 = .ok (.aaload, 1) := by decide +kernel
theorem dX0_copyFrom_27 : decode cX0_copyFrom 27 = .ok (.aload_n 1, 1) := by decide +kernel
theorem dX0_copyFrom_28 : decode cX0_copyFrom 28 = .ok (.getfield 20, 3) := by decide +kernel
theorem dX0_copyFrom_31 : decode cX0_copyFrom 31 = .ok (.iload_n 2, 1) := by decide +kernel
theorem dX0_copyFrom_32 : decode cX0_copyFrom 32 = .ok (.aaload, 1) := by decide +kernel
theorem dX0_copyFrom_33 : decode cX0_copyFrom 33 = .ok (.invokevirtual 55, 3) := by decide +kernel
theorem dX0_copyFrom_36 : decode cX0_copyFrom 36 = .ok (.iinc 2 1, 3) := by decide +kernel
theorem dX0_copyFrom_39 : decode cX0_copyFrom 39 = .ok (.goto (-26), 3) := by decide +kernel
theorem dX0_copyFrom_42 : decode cX0_copyFrom 42 = .ok (.aload_n 0, 1) := by decide +kernel
theorem dX0_copyFrom_43 : decode cX0_copyFrom 43 = .ok (.aload_n 1, 1) := by decide +kernel
theorem dX0_copyFrom_44 : decode cX0_copyFrom 44 = .ok (.getfield 38, 3) := by decide +kernel
theorem dX0_copyFrom_47 : decode cX0_copyFrom 47 = .ok (.putfield 38, 3) := by decide +kernel
theorem dX0_copyFrom_50 : decode cX0_copyFrom 50 = .ok (.aload_n 0, 1) := by decide +kernel
theorem dX0_copyFrom_51 : decode cX0_copyFrom 51 = .ok (.aload_n 1, 1) := by decide +kernel
theorem dX0_copyFrom_52 : decode cX0_copyFrom 52 = .ok (.getfield 42, 3) := by decide +kernel
theorem dX0_copyFrom_55 : decode cX0_copyFrom 55 = .ok (.putfield 42, 3) := by decide +kernel
theorem dX0_copyFrom_58 : decode cX0_copyFrom 58 = .ok (.aload_n 0, 1) := by decide +kernel
theorem dX0_copyFrom_59 : decode cX0_copyFrom 59 = .ok (.aload_n 1, 1) := by decide +kernel
theorem dX0_copyFrom_60 : decode cX0_copyFrom 60 = .ok (.getfield 45, 3) := by decide +kernel
theorem dX0_copyFrom_63 : decode cX0_copyFrom 63 = .ok (.putfield 45, 3) := by decide +kernel
theorem dX0_copyFrom_66 : decode cX0_copyFrom 66 = .ok (.aload_n 0, 1) := by decide +kernel
theorem dX0_copyFrom_67 : decode cX0_copyFrom 67 = .ok (.aload_n 1, 1) := by decide +kernel
theorem dX0_copyFrom_68 : decode cX0_copyFrom 68 = .ok (.getfield 48, 3) := by decide +kernel
theorem dX0_copyFrom_71 : decode cX0_copyFrom 71 = .ok (.putfield 48, 3) := by decide +kernel
theorem dX0_copyFrom_74 : decode cX0_copyFrom 74 = .ok (.aload_n 1, 1) := by decide +kernel
theorem dX0_copyFrom_75 : decode cX0_copyFrom 75 = .ok (.getfield 24, 3) := by decide +kernel
theorem dX0_copyFrom_78 : decode cX0_copyFrom 78 = .ok (.iconst 0, 1) := by decide +kernel
theorem dX0_copyFrom_79 : decode cX0_copyFrom 79 = .ok (.aload_n 0, 1) := by decide +kernel
theorem dX0_copyFrom_80 : decode cX0_copyFrom 80 = .ok (.getfield 24, 3) := by decide +kernel
theorem dX0_copyFrom_83 : decode cX0_copyFrom 83 = .ok (.iconst 0, 1) := by decide +kernel
theorem dX0_copyFrom_84 : decode cX0_copyFrom 84 = .ok (.bipush 6, 2) := by decide +kernel
theorem dX0_copyFrom_86 : decode cX0_copyFrom 86 = .ok (.invokestatic 58, 3) := by decide +kernel
theorem dX0_copyFrom_89 : decode cX0_copyFrom 89 = .ok (.aload_n 1, 1) := by decide +kernel
theorem dX0_copyFrom_90 : decode cX0_copyFrom 90 = .ok (.getfield 28, 3) := by decide +kernel
theorem dX0_copyFrom_93 : decode cX0_copyFrom 93 = .ok (.iconst 0, 1) := by decide +kernel
theorem dX0_copyFrom_94 : decode cX0_copyFrom 94 = .ok (.aload_n 0, 1) := by decide +kernel
theorem dX0_copyFrom_95 : decode cX0_copyFrom 95 = .ok (.getfield 28, 3) := by decide +kernel
theorem dX0_copyFrom_98 : decode cX0_copyFrom 98 = .ok (.iconst 0, 1) := by decide +kernel
theorem dX0_copyFrom_99 : decode cX0_copyFrom 99 = .ok (.bipush 6, 2) := by decide +kernel
theorem dX0_copyFrom_101 : decode cX0_copyFrom 101 = .ok (.invokestatic 58, 3) := by decide +kernel
theorem dX0_copyFrom_104 : decode cX0_copyFrom 104 = .ok (.aload_n 1, 1) := by decide +kernel
theorem dX0_copyFrom_105 : decode cX0_copyFrom 105 = .ok (.getfield 31, 3) := by decide +kernel
theorem dX0_copyFrom_108 : decode cX0_copyFrom 108 = .ok (.iconst 0, 1) := by decide +kernel
theorem dX0_copyFrom_109 : decode cX0_copyFrom 109 = .ok (.aload_n 0, 1) := by decide +kernel
theorem dX0_copyFrom_110 : decode cX0_copyFrom 110 = .ok (.getfield 31, 3) := by decide +kernel
theorem dX0_copyFrom_113 : decode cX0_copyFrom 113 = .ok (.iconst 0, 1) := by decide +kernel
theorem dX0_copyFrom_114 : decode cX0_copyFrom 114 = .ok (.bipush 6, 2) := by decide +kernel
theorem dX0_copyFrom_116 : decode cX0_copyFrom 116 = .ok (.invokestatic 58, 3) := by decide +kernel
theorem dX0_copyFrom_119 : decode cX0_copyFrom 119 = .ok (.return_, 1) := by decide +kernel
theorem dX0_hasSpud_0 : decode cX0_hasSpud 0 = .ok (.iload_n 1, 1) := by decide +kernel
theorem dX0_hasSpud_1 : decode cX0_hasSpud 1 = .ok (.ifCond .lt 15, 3) := by decide +kernel
theorem dX0_hasSpud_4 : decode cX0_hasSpud 4 = .ok (.iload_n 1, 1) := by decide +kernel
theorem dX0_hasSpud_5 : decode cX0_hasSpud 5 = .ok (.aload_n 0, 1) := by decide +kernel
theorem dX0_hasSpud_6 : decode cX0_hasSpud 6 = .ok (.getfield 38, 3) := by decide +kernel
theorem dX0_hasSpud_9 : decode cX0_hasSpud 9 = .ok (.if_icmp .ge 7, 3) := by decide +kernel
theorem dX0_hasSpud_12 : decode cX0_hasSpud 12 = .ok (.iconst 1, 1) := by decide +kernel
theorem dX0_hasSpud_13 : decode cX0_hasSpud 13 = .ok (.goto 4, 3) := by decide +kernel
theorem dX0_hasSpud_16 : decode cX0_hasSpud 16 = .ok (.iconst 0, 1) := by decide +kernel
theorem dX0_hasSpud_17 : decode cX0_hasSpud 17 = .ok (.ireturn, 1) := by decide +kernel
theorem dX0_bring_0 : decode cX0_bring 0 = .ok (.aload_n 0, 1) := by decide +kernel
theorem dX0_bring_1 : decode cX0_bring 1 = .ok (.getfield 38, 3) := by decide +kernel
theorem dX0_bring_4 : decode cX0_bring 4 = .ok (.bipush 6, 2) := by decide +kernel
theorem dX0_bring_6 : decode cX0_bring 6 = .ok (.if_icmp .lt 5, 3) := by decide +kernel
theorem dX0_bring_9 : decode cX0_bring 9 = .ok (.iconst 0, 1) := by decide +kernel
theorem dX0_bring_10 : decode cX0_bring 10 = .ok (.ireturn, 1) := by decide +kernel
theorem dX0_bring_11 : decode cX0_bring 11 = .ok (.aload_n 0, 1) := by decide +kernel
theorem dX0_bring_12 : decode cX0_bring 12 = .ok (.getfield 20, 3) := by decide +kernel
theorem dX0_bring_15 : decode cX0_bring 15 = .ok (.aload_n 0, 1) := by decide +kernel
theorem dX0_bring_16 : decode cX0_bring 16 = .ok (.getfield 38, 3) := by decide +kernel
theorem dX0_bring_19 : decode cX0_bring 19 = .ok (.aaload, 1) := by decide +kernel
theorem dX0_bring_20 : decode cX0_bring 20 = .ok (.iload_n 1, 1) := by decide +kernel
theorem dX0_bring_21 : decode cX0_bring 21 = .ok (.iload_n 2, 1) := by decide +kernel
theorem dX0_bring_22 : decode cX0_bring 22 = .ok (.invokevirtual 64, 3) := by decide +kernel
theorem dX0_bring_25 : decode cX0_bring 25 = .ok (.aload_n 0, 1) := by decide +kernel
theorem dX0_bring_26 : decode cX0_bring 26 = .ok (.dup, 1) := by decide +kernel
theorem dX0_bring_27 : decode cX0_bring 27 = .ok (.getfield 38, 3) := by decide +kernel
theorem dX0_bring_30 : decode cX0_bring 30 = .ok (.iconst 1, 1) := by decide +kernel
theorem dX0_bring_31 : decode cX0_bring 31 = .ok (.iadd, 1) := by decide +kernel
theorem dX0_bring_32 : decode cX0_bring 32 = .ok (.putfield 38, 3) := by decide +kernel
theorem dX0_bring_35 : decode cX0_bring 35 = .ok (.iconst 1, 1) := by decide +kernel
theorem dX0_bring_36 : decode cX0_bring 36 = .ok (.ireturn, 1) := by decide +kernel
theorem dX0_whoLiesIn_0 : decode cX0_whoLiesIn 0 = .ok (.iconst 0, 1) := by decide +kernel
theorem dX0_whoLiesIn_1 : decode cX0_whoLiesIn 1 = .ok (.istore_n 2, 1) := by decide +kernel
theorem dX0_whoLiesIn_2 : decode cX0_whoLiesIn 2 = .ok (.iload_n 2, 1) := by decide +kernel
theorem dX0_whoLiesIn_3 : decode cX0_whoLiesIn 3 = .ok (.aload_n 0, 1) := by decide +kernel
theorem dX0_whoLiesIn_4 : decode cX0_whoLiesIn 4 = .ok (.getfield 38, 3) := by decide +kernel
theorem dX0_whoLiesIn_7 : decode cX0_whoLiesIn 7 = .ok (.if_icmp .ge 24, 3) := by decide +kernel
theorem dX0_whoLiesIn_10 : decode cX0_whoLiesIn 10 = .ok (.aload_n 0, 1) := by decide +kernel
theorem dX0_whoLiesIn_11 : decode cX0_whoLiesIn 11 = .ok (.getfield 20, 3) := by decide +kernel
theorem dX0_whoLiesIn_14 : decode cX0_whoLiesIn 14 = .ok (.iload_n 2, 1) := by decide +kernel
theorem dX0_whoLiesIn_15 : decode cX0_whoLiesIn 15 = .ok (.aaload, 1) := by decide +kernel
theorem dX0_whoLiesIn_16 : decode cX0_whoLiesIn 16 = .ok (.getfield 68, 3) := by decide +kernel
theorem dX0_whoLiesIn_19 : decode cX0_whoLiesIn 19 = .ok (.iload_n 1, 1) := by decide +kernel
theorem dX0_whoLiesIn_20 : decode cX0_whoLiesIn 20 = .ok (.if_icmp .ne 5, 3) := by decide +kernel
theorem dX0_whoLiesIn_23 : decode cX0_whoLiesIn 23 = .ok (.iload_n 2, 1) := by decide +kernel
theorem dX0_whoLiesIn_24 : decode cX0_whoLiesIn 24 = .ok (.ireturn, 1) := by decide +kernel
theorem dX0_whoLiesIn_25 : decode cX0_whoLiesIn 25 = .ok (.iinc 2 1, 3) := by decide +kernel
theorem dX0_whoLiesIn_28 : decode cX0_whoLiesIn 28 = .ok (.goto (-26), 3) := by decide +kernel
theorem dX0_whoLiesIn_31 : decode cX0_whoLiesIn 31 = .ok (.bipush (-4), 2) := by decide +kernel
theorem dX0_whoLiesIn_33 : decode cX0_whoLiesIn 33 = .ok (.ireturn, 1) := by decide +kernel
theorem dX0_noteFelt_0 : decode cX0_noteFelt 0 = .ok (.aload_n 0, 1) := by decide +kernel
theorem dX0_noteFelt_1 : decode cX0_noteFelt 1 = .ok (.getfield 48, 3) := by decide +kernel
theorem dX0_noteFelt_4 : decode cX0_noteFelt 4 = .ok (.bipush 6, 2) := by decide +kernel
theorem dX0_noteFelt_6 : decode cX0_noteFelt 6 = .ok (.if_icmp .lt 5, 3) := by decide +kernel
theorem dX0_noteFelt_9 : decode cX0_noteFelt 9 = .ok (.iconst 0, 1) := by decide +kernel
theorem dX0_noteFelt_10 : decode cX0_noteFelt 10 = .ok (.ireturn, 1) := by decide +kernel
theorem dX0_noteFelt_11 : decode cX0_noteFelt 11 = .ok (.aload_n 0, 1) := by decide +kernel
theorem dX0_noteFelt_12 : decode cX0_noteFelt 12 = .ok (.getfield 24, 3) := by decide +kernel
theorem dX0_noteFelt_15 : decode cX0_noteFelt 15 = .ok (.aload_n 0, 1) := by decide +kernel
theorem dX0_noteFelt_16 : decode cX0_noteFelt 16 = .ok (.getfield 48, 3) := by decide +kernel
theorem dX0_noteFelt_19 : decode cX0_noteFelt 19 = .ok (.iload_n 1, 1) := by decide +kernel
theorem dX0_noteFelt_20 : decode cX0_noteFelt 20 = .ok (.iastore, 1) := by decide +kernel
theorem dX0_noteFelt_21 : decode cX0_noteFelt 21 = .ok (.aload_n 0, 1) := by decide +kernel
theorem dX0_noteFelt_22 : decode cX0_noteFelt 22 = .ok (.getfield 28, 3) := by decide +kernel
theorem dX0_noteFelt_25 : decode cX0_noteFelt 25 = .ok (.aload_n 0, 1) := by decide +kernel
theorem dX0_noteFelt_26 : decode cX0_noteFelt 26 = .ok (.getfield 48, 3) := by decide +kernel
theorem dX0_noteFelt_29 : decode cX0_noteFelt 29 = .ok (.iload_n 2, 1) := by decide +kernel
theorem dX0_noteFelt_30 : decode cX0_noteFelt 30 = .ok (.iastore, 1) := by decide +kernel
theorem dX0_noteFelt_31 : decode cX0_noteFelt 31 = .ok (.aload_n 0, 1) := by decide +kernel
theorem dX0_noteFelt_32 : decode cX0_noteFelt 32 = .ok (.getfield 31, 3) := by decide +kernel
theorem dX0_noteFelt_35 : decode cX0_noteFelt 35 = .ok (.aload_n 0, 1) := by decide +kernel
theorem dX0_noteFelt_36 : decode cX0_noteFelt 36 = .ok (.getfield 48, 3) := by decide +kernel
theorem dX0_noteFelt_39 : decode cX0_noteFelt 39 = .ok (.iload_n 3, 1) := by decide +kernel
theorem dX0_noteFelt_40 : decode cX0_noteFelt 40 = .ok (.iastore, 1) := by decide +kernel
theorem dX0_noteFelt_41 : decode cX0_noteFelt 41 = .ok (.aload_n 0, 1) := by decide +kernel
theorem dX0_noteFelt_42 : decode cX0_noteFelt 42 = .ok (.dup, 1) := by decide +kernel
theorem dX0_noteFelt_43 : decode cX0_noteFelt 43 = .ok (.getfield 48, 3) := by decide +kernel
theorem dX0_noteFelt_46 : decode cX0_noteFelt 46 = .ok (.iconst 1, 1) := by decide +kernel
theorem dX0_noteFelt_47 : decode cX0_noteFelt 47 = .ok (.iadd, 1) := by decide +kernel
theorem dX0_noteFelt_48 : decode cX0_noteFelt 48 = .ok (.putfield 48, 3) := by decide +kernel
theorem dX0_noteFelt_51 : decode cX0_noteFelt 51 = .ok (.iconst 1, 1) := by decide +kernel
theorem dX0_noteFelt_52 : decode cX0_noteFelt 52 = .ok (.ireturn, 1) := by decide +kernel
theorem dX0_passRound_0 : decode cX0_passRound 0 = .ok (.iconst 0, 1) := by decide +kernel
theorem dX0_passRound_1 : decode cX0_passRound 1 = .ok (.istore_n 1, 1) := by decide +kernel
theorem dX0_passRound_2 : decode cX0_passRound 2 = .ok (.iload_n 1, 1) := by decide +kernel
theorem dX0_passRound_3 : decode cX0_passRound 3 = .ok (.aload_n 0, 1) := by decide +kernel
theorem dX0_passRound_4 : decode cX0_passRound 4 = .ok (.getfield 38, 3) := by decide +kernel
theorem dX0_passRound_7 : decode cX0_passRound 7 = .ok (.if_icmp .ge 48, 3) := by decide +kernel
theorem dX0_passRound_10 : decode cX0_passRound 10 = .ok (.aload_n 0, 1) := by decide +kernel
theorem dX0_passRound_11 : decode cX0_passRound 11 = .ok (.getfield 20, 3) := by decide +kernel
theorem dX0_passRound_14 : decode cX0_passRound 14 = .ok (.iload_n 1, 1) := by decide +kernel
theorem dX0_passRound_15 : decode cX0_passRound 15 = .ok (.aaload, 1) := by decide +kernel
theorem dX0_passRound_16 : decode cX0_passRound 16 = .ok (.getfield 68, 3) := by decide +kernel
theorem dX0_passRound_19 : decode cX0_passRound 19 = .ok (.bipush (-4), 2) := by decide +kernel
theorem dX0_passRound_21 : decode cX0_passRound 21 = .ok (.if_icmp .eq 28, 3) := by decide +kernel
theorem dX0_passRound_24 : decode cX0_passRound 24 = .ok (.aload_n 0, 1) := by decide +kernel
theorem dX0_passRound_25 : decode cX0_passRound 25 = .ok (.getfield 20, 3) := by decide +kernel
theorem dX0_passRound_28 : decode cX0_passRound 28 = .ok (.iload_n 1, 1) := by decide +kernel
theorem dX0_passRound_29 : decode cX0_passRound 29 = .ok (.aaload, 1) := by decide +kernel
theorem dX0_passRound_30 : decode cX0_passRound 30 = .ok (.aload_n 0, 1) := by decide +kernel
theorem dX0_passRound_31 : decode cX0_passRound 31 = .ok (.getfield 12, 3) := by decide +kernel
theorem dX0_passRound_34 : decode cX0_passRound 34 = .ok (.aload_n 0, 1) := by decide +kernel
theorem dX0_passRound_35 : decode cX0_passRound 35 = .ok (.getfield 20, 3) := by decide +kernel
theorem dX0_passRound_38 : decode cX0_passRound 38 = .ok (.iload_n 1, 1) := by decide +kernel
theorem dX0_passRound_39 : decode cX0_passRound 39 = .ok (.aaload, 1) := by decide +kernel
theorem dX0_passRound_40 : decode cX0_passRound 40 = .ok (.getfield 68, 3) := by decide +kernel
theorem dX0_passRound_43 : decode cX0_passRound 43 = .ok (.invokevirtual 71, 3) := by decide +kernel
theorem dX0_passRound_46 : decode cX0_passRound 46 = .ok (.invokevirtual 75, 3) := by decide +kernel
theorem dX0_passRound_49 : decode cX0_passRound 49 = .ok (.iinc 1 1, 3) := by decide +kernel
theorem dX0_passRound_52 : decode cX0_passRound 52 = .ok (.goto (-50), 3) := by decide +kernel
theorem dX0_passRound_55 : decode cX0_passRound 55 = .ok (.aload_n 0, 1) := by decide +kernel
theorem dX0_passRound_56 : decode cX0_passRound 56 = .ok (.getfield 12, 3) := by decide +kernel
theorem dX0_passRound_59 : decode cX0_passRound 59 = .ok (.invokevirtual 79, 3) := by decide +kernel
theorem dX0_passRound_62 : decode cX0_passRound 62 = .ok (.aload_n 0, 1) := by decide +kernel
theorem dX0_passRound_63 : decode cX0_passRound 63 = .ok (.getfield 12, 3) := by decide +kernel
theorem dX0_passRound_66 : decode cX0_passRound 66 = .ok (.invokevirtual 82, 3) := by decide +kernel
theorem dX0_passRound_69 : decode cX0_passRound 69 = .ok (.aload_n 0, 1) := by decide +kernel
theorem dX0_passRound_70 : decode cX0_passRound 70 = .ok (.dup, 1) := by decide +kernel
theorem dX0_passRound_71 : decode cX0_passRound 71 = .ok (.getfield 42, 3) := by decide +kernel
theorem dX0_passRound_74 : decode cX0_passRound 74 = .ok (.iconst 1, 1) := by decide +kernel
theorem dX0_passRound_75 : decode cX0_passRound 75 = .ok (.iadd, 1) := by decide +kernel
theorem dX0_passRound_76 : decode cX0_passRound 76 = .ok (.putfield 42, 3) := by decide +kernel
theorem dX0_passRound_79 : decode cX0_passRound 79 = .ok (.return_, 1) := by decide +kernel
theorem dX0_passRounds_0 : decode cX0_passRounds 0 = .ok (.iconst 0, 1) := by decide +kernel
theorem dX0_passRounds_1 : decode cX0_passRounds 1 = .ok (.istore_n 2, 1) := by decide +kernel
theorem dX0_passRounds_2 : decode cX0_passRounds 2 = .ok (.iload_n 2, 1) := by decide +kernel
theorem dX0_passRounds_3 : decode cX0_passRounds 3 = .ok (.iload_n 1, 1) := by decide +kernel
theorem dX0_passRounds_4 : decode cX0_passRounds 4 = .ok (.if_icmp .ge 13, 3) := by decide +kernel
theorem dX0_passRounds_7 : decode cX0_passRounds 7 = .ok (.aload_n 0, 1) := by decide +kernel
theorem dX0_passRounds_8 : decode cX0_passRounds 8 = .ok (.invokevirtual 85, 3) := by decide +kernel
theorem dX0_passRounds_11 : decode cX0_passRounds 11 = .ok (.iinc 2 1, 3) := by decide +kernel
theorem dX0_passRounds_14 : decode cX0_passRounds 14 = .ok (.goto (-12), 3) := by decide +kernel
theorem dX0_passRounds_17 : decode cX0_passRounds 17 = .ok (.return_, 1) := by decide +kernel
theorem dX0_meddle_0 : decode cX0_meddle 0 = .ok (.aload_n 0, 1) := by decide +kernel
theorem dX0_meddle_1 : decode cX0_meddle 1 = .ok (.iload_n 1, 1) := by decide +kernel
theorem dX0_meddle_2 : decode cX0_meddle 2 = .ok (.invokevirtual 88, 3) := by decide +kernel
theorem dX0_meddle_5 : decode cX0_meddle 5 = .ok (.ifCond .ne 4, 3) := by decide +kernel
theorem dX0_meddle_8 : decode cX0_meddle 8 = .ok (.return_, 1) := by decide +kernel
theorem dX0_meddle_9 : decode cX0_meddle 9 = .ok (.iload_n 2, 1) := by decide +kernel
theorem dX0_meddle_10 : decode cX0_meddle 10 = .ok (.ifCond .ne 15, 3) := by decide +kernel
theorem dX0_meddle_13 : decode cX0_meddle 13 = .ok (.aload_n 0, 1) := by decide +kernel
theorem dX0_meddle_14 : decode cX0_meddle 14 = .ok (.getfield 20, 3) := by decide +kernel
theorem dX0_meddle_17 : decode cX0_meddle 17 = .ok (.iload_n 1, 1) := by decide +kernel
theorem dX0_meddle_18 : decode cX0_meddle 18 = .ok (.aaload, 1) := by decide +kernel
theorem dX0_meddle_19 : decode cX0_meddle 19 = .ok (.invokevirtual 92, 3) := by decide +kernel
theorem dX0_meddle_22 : decode cX0_meddle 22 = .ok (.goto 31, 3) := by decide +kernel
theorem dX0_meddle_25 : decode cX0_meddle 25 = .ok (.iload_n 2, 1) := by decide +kernel
theorem dX0_meddle_26 : decode cX0_meddle 26 = .ok (.iconst 1, 1) := by decide +kernel
theorem dX0_meddle_27 : decode cX0_meddle 27 = .ok (.if_icmp .ne 26, 3) := by decide +kernel
theorem dX0_meddle_30 : decode cX0_meddle 30 = .ok (.aload_n 0, 1) := by decide +kernel
theorem dX0_meddle_31 : decode cX0_meddle 31 = .ok (.getfield 20, 3) := by decide +kernel
theorem dX0_meddle_34 : decode cX0_meddle 34 = .ok (.iload_n 1, 1) := by decide +kernel
theorem dX0_meddle_35 : decode cX0_meddle 35 = .ok (.aaload, 1) := by decide +kernel
theorem dX0_meddle_36 : decode cX0_meddle 36 = .ok (.invokevirtual 95, 3) := by decide +kernel
theorem dX0_meddle_39 : decode cX0_meddle 39 = .ok (.ifCond .eq 14, 3) := by decide +kernel
theorem dX0_meddle_42 : decode cX0_meddle 42 = .ok (.aload_n 0, 1) := by decide +kernel
theorem dX0_meddle_43 : decode cX0_meddle 43 = .ok (.getfield 20, 3) := by decide +kernel
theorem dX0_meddle_46 : decode cX0_meddle 46 = .ok (.iload_n 1, 1) := by decide +kernel
theorem dX0_meddle_47 : decode cX0_meddle 47 = .ok (.aaload, 1) := by decide +kernel
theorem dX0_meddle_48 : decode cX0_meddle 48 = .ok (.bipush (-4), 2) := by decide +kernel
theorem dX0_meddle_50 : decode cX0_meddle 50 = .ok (.putfield 68, 3) := by decide +kernel
theorem dX0_meddle_53 : decode cX0_meddle 53 = .ok (.return_, 1) := by decide +kernel
theorem dX0_tally_0 : decode cX0_tally 0 = .ok (.iconst 0, 1) := by decide +kernel
theorem dX0_tally_1 : decode cX0_tally 1 = .ok (.istore_n 2, 1) := by decide +kernel
theorem dX0_tally_2 : decode cX0_tally 2 = .ok (.iconst 0, 1) := by decide +kernel
theorem dX0_tally_3 : decode cX0_tally 3 = .ok (.istore_n 3, 1) := by decide +kernel
theorem dX0_tally_4 : decode cX0_tally 4 = .ok (.iload_n 3, 1) := by decide +kernel
theorem dX0_tally_5 : decode cX0_tally 5 = .ok (.aload_n 0, 1) := by decide +kernel
theorem dX0_tally_6 : decode cX0_tally 6 = .ok (.getfield 38, 3) := by decide +kernel
theorem dX0_tally_9 : decode cX0_tally 9 = .ok (.if_icmp .ge 25, 3) := by decide +kernel
theorem dX0_tally_12 : decode cX0_tally 12 = .ok (.aload_n 0, 1) := by decide +kernel
theorem dX0_tally_13 : decode cX0_tally 13 = .ok (.getfield 20, 3) := by decide +kernel
theorem dX0_tally_16 : decode cX0_tally 16 = .ok (.iload_n 3, 1) := by decide +kernel
theorem dX0_tally_17 : decode cX0_tally 17 = .ok (.aaload, 1) := by decide +kernel
theorem dX0_tally_18 : decode cX0_tally 18 = .ok (.iload_n 1, 1) := by decide +kernel
theorem dX0_tally_19 : decode cX0_tally 19 = .ok (.invokestatic 99, 3) := by decide +kernel
theorem dX0_tally_22 : decode cX0_tally 22 = .ok (.ifCond .eq 6, 3) := by decide +kernel
theorem dX0_tally_25 : decode cX0_tally 25 = .ok (.iinc 2 1, 3) := by decide +kernel
theorem dX0_tally_28 : decode cX0_tally 28 = .ok (.iinc 3 1, 3) := by decide +kernel
theorem dX0_tally_31 : decode cX0_tally 31 = .ok (.goto (-27), 3) := by decide +kernel
theorem dX0_tally_34 : decode cX0_tally 34 = .ok (.iload_n 2, 1) := by decide +kernel
theorem dX0_tally_35 : decode cX0_tally 35 = .ok (.ireturn, 1) := by decide +kernel
theorem dX0_isOfKind_0 : decode cX0_isOfKind 0 = .ok (.iload_n 1, 1) := by decide +kernel
theorem dX0_isOfKind_1 : decode cX0_isOfKind 1 = .ok (.tableswitch 42 0 2 #[27, 32, 37], 27) := by decide +kernel
theorem dX0_isOfKind_28 : decode cX0_isOfKind 28 = .ok (.aload_n 0, 1) := by decide +kernel
theorem dX0_isOfKind_29 : decode cX0_isOfKind 29 = .ok (.invokevirtual 95, 3) := by decide +kernel
theorem dX0_isOfKind_32 : decode cX0_isOfKind 32 = .ok (.ireturn, 1) := by decide +kernel
theorem dX0_isOfKind_33 : decode cX0_isOfKind 33 = .ok (.aload_n 0, 1) := by decide +kernel
theorem dX0_isOfKind_34 : decode cX0_isOfKind 34 = .ok (.invokevirtual 103, 3) := by decide +kernel
theorem dX0_isOfKind_37 : decode cX0_isOfKind 37 = .ok (.ireturn, 1) := by decide +kernel
theorem dX0_isOfKind_38 : decode cX0_isOfKind 38 = .ok (.aload_n 0, 1) := by decide +kernel
theorem dX0_isOfKind_39 : decode cX0_isOfKind 39 = .ok (.invokevirtual 106, 3) := by decide +kernel
theorem dX0_isOfKind_42 : decode cX0_isOfKind 42 = .ok (.ireturn, 1) := by decide +kernel
theorem dX0_isOfKind_43 : decode cX0_isOfKind 43 = .ok (.aload_n 0, 1) := by decide +kernel
theorem dX0_isOfKind_44 : decode cX0_isOfKind 44 = .ok (.getfield 68, 3) := by decide +kernel
theorem dX0_isOfKind_47 : decode cX0_isOfKind 47 = .ok (.bipush (-4), 2) := by decide +kernel
theorem dX0_isOfKind_49 : decode cX0_isOfKind 49 = .ok (.if_icmp .ne 7, 3) := by decide +kernel
theorem dX0_isOfKind_52 : decode cX0_isOfKind 52 = .ok (.iconst 1, 1) := by decide +kernel
theorem dX0_isOfKind_53 : decode cX0_isOfKind 53 = .ok (.goto 4, 3) := by decide +kernel
theorem dX0_isOfKind_56 : decode cX0_isOfKind 56 = .ok (.iconst 0, 1) := by decide +kernel
theorem dX0_isOfKind_57 : decode cX0_isOfKind 57 = .ok (.ireturn, 1) := by decide +kernel
theorem dX0_mostWanted_0 : decode cX0_mostWanted 0 = .ok (.bipush (-4), 2) := by decide +kernel
theorem dX0_mostWanted_2 : decode cX0_mostWanted 2 = .ok (.istore_n 2, 1) := by decide +kernel
theorem dX0_mostWanted_3 : decode cX0_mostWanted 3 = .ok (.iconst (-1), 1) := by decide +kernel
theorem dX0_mostWanted_4 : decode cX0_mostWanted 4 = .ok (.istore_n 3, 1) := by decide +kernel
theorem dX0_mostWanted_5 : decode cX0_mostWanted 5 = .ok (.iconst 0, 1) := by decide +kernel
theorem dX0_mostWanted_6 : decode cX0_mostWanted 6 = .ok (.istore 4, 2) := by decide +kernel
theorem dX0_mostWanted_8 : decode cX0_mostWanted 8 = .ok (.iload 4, 2) := by decide +kernel
theorem dX0_mostWanted_10 : decode cX0_mostWanted 10 = .ok (.aload_n 0, 1) := by decide +kernel
theorem dX0_mostWanted_11 : decode cX0_mostWanted 11 = .ok (.getfield 38, 3) := by decide +kernel
theorem dX0_mostWanted_14 : decode cX0_mostWanted 14 = .ok (.if_icmp .ge 46, 3) := by decide +kernel
theorem dX0_mostWanted_17 : decode cX0_mostWanted 17 = .ok (.iload_n 1, 1) := by decide +kernel
theorem dX0_mostWanted_18 : decode cX0_mostWanted 18 = .ok (.iconst 1, 1) := by decide +kernel
theorem dX0_mostWanted_19 : decode cX0_mostWanted 19 = .ok (.iload 4, 2) := by decide +kernel
theorem dX0_mostWanted_21 : decode cX0_mostWanted 21 = .ok (.ishl, 1) := by decide +kernel
theorem dX0_mostWanted_22 : decode cX0_mostWanted 22 = .ok (.iand, 1) := by decide +kernel
theorem dX0_mostWanted_23 : decode cX0_mostWanted 23 = .ok (.ifCond .ne 31, 3) := by decide +kernel
theorem dX0_mostWanted_26 : decode cX0_mostWanted 26 = .ok (.aload_n 0, 1) := by decide +kernel
theorem dX0_mostWanted_27 : decode cX0_mostWanted 27 = .ok (.getfield 20, 3) := by decide +kernel
theorem dX0_mostWanted_30 : decode cX0_mostWanted 30 = .ok (.iload 4, 2) := by decide +kernel
theorem dX0_mostWanted_32 : decode cX0_mostWanted 32 = .ok (.aaload, 1) := by decide +kernel
theorem dX0_mostWanted_33 : decode cX0_mostWanted 33 = .ok (.invokevirtual 109, 3) := by decide +kernel
theorem dX0_mostWanted_36 : decode cX0_mostWanted 36 = .ok (.iload_n 3, 1) := by decide +kernel
theorem dX0_mostWanted_37 : decode cX0_mostWanted 37 = .ok (.if_icmp .le 17, 3) := by decide +kernel
theorem dX0_mostWanted_40 : decode cX0_mostWanted 40 = .ok (.iload 4, 2) := by decide +kernel
theorem dX0_mostWanted_42 : decode cX0_mostWanted 42 = .ok (.istore_n 2, 1) := by decide +kernel
theorem dX0_mostWanted_43 : decode cX0_mostWanted 43 = .ok (.aload_n 0, 1) := by decide +kernel
theorem dX0_mostWanted_44 : decode cX0_mostWanted 44 = .ok (.getfield 20, 3) := by decide +kernel
theorem dX0_mostWanted_47 : decode cX0_mostWanted 47 = .ok (.iload 4, 2) := by decide +kernel
theorem dX0_mostWanted_49 : decode cX0_mostWanted 49 = .ok (.aaload, 1) := by decide +kernel
theorem dX0_mostWanted_50 : decode cX0_mostWanted 50 = .ok (.invokevirtual 109, 3) := by decide +kernel
theorem dX0_mostWanted_53 : decode cX0_mostWanted 53 = .ok (.istore_n 3, 1) := by decide +kernel
theorem dX0_mostWanted_54 : decode cX0_mostWanted 54 = .ok (.iinc 4 1, 3) := by decide +kernel
theorem dX0_mostWanted_57 : decode cX0_mostWanted 57 = .ok (.goto (-49), 3) := by decide +kernel
theorem dX0_mostWanted_60 : decode cX0_mostWanted 60 = .ok (.iload_n 2, 1) := by decide +kernel
theorem dX0_mostWanted_61 : decode cX0_mostWanted 61 = .ok (.ireturn, 1) := by decide +kernel
theorem dX1_init_0 : decode cX1_init 0 = .ok (.aload_n 0, 1) := by decide +kernel
theorem dX1_init_1 : decode cX1_init 1 = .ok (.invokespecial 3, 3) := by decide +kernel
theorem dX1_init_4 : decode cX1_init 4 = .ok (.aload_n 0, 1) := by decide +kernel
theorem dX1_init_5 : decode cX1_init 5 = .ok (.bipush 100, 2) := by decide +kernel
theorem dX1_init_7 : decode cX1_init 7 = .ok (.newarray .boolean, 2) := by decide +kernel
theorem dX1_init_9 : decode cX1_init 9 = .ok (.putfield 9, 3) := by decide +kernel
theorem dX1_init_12 : decode cX1_init 12 = .ok (.aload_n 0, 1) := by decide +kernel
theorem dX1_init_13 : decode cX1_init 13 = .ok (.bipush 19, 2) := by decide +kernel
theorem dX1_init_15 : decode cX1_init 15 = .ok (.newarray .boolean, 2) := by decide +kernel
theorem dX1_init_17 : decode cX1_init 17 = .ok (.putfield 15, 3) := by decide +kernel
theorem dX1_init_20 : decode cX1_init 20 = .ok (.return_, 1) := by decide +kernel
theorem dX1_search_0 : decode cX1_search 0 = .ok (.iconst 0, 1) := by decide +kernel
theorem dX1_search_1 : decode cX1_search 1 = .ok (.istore_n 3, 1) := by decide +kernel
theorem dX1_search_2 : decode cX1_search 2 = .ok (.iload_n 3, 1) := by decide +kernel
theorem dX1_search_3 : decode cX1_search 3 = .ok (.aload_n 0, 1) := by decide +kernel
theorem dX1_search_4 : decode cX1_search 4 = .ok (.getfield 9, 3) := by decide +kernel
theorem dX1_search_7 : decode cX1_search 7 = .ok (.arraylength, 1) := by decide +kernel
theorem dX1_search_8 : decode cX1_search 8 = .ok (.if_icmp .ge 16, 3) := by decide +kernel
theorem dX1_search_11 : decode cX1_search 11 = .ok (.aload_n 0, 1) := by decide +kernel
theorem dX1_search_12 : decode cX1_search 12 = .ok (.getfield 9, 3) := by decide +kernel
theorem dX1_search_15 : decode cX1_search 15 = .ok (.iload_n 3, 1) := by decide +kernel
theorem dX1_search_16 : decode cX1_search 16 = .ok (.iconst 1, 1) := by decide +kernel
theorem dX1_search_17 : decode cX1_search 17 = .ok (.bastore, 1) := by decide +kernel
theorem dX1_search_18 : decode cX1_search 18 = .ok (.iinc 3 1, 3) := by decide +kernel
theorem dX1_search_21 : decode cX1_search 21 = .ok (.goto (-19), 3) := by decide +kernel
theorem dX1_search_24 : decode cX1_search 24 = .ok (.iconst 0, 1) := by decide +kernel
theorem dX1_search_25 : decode cX1_search 25 = .ok (.istore_n 3, 1) := by decide +kernel
theorem dX1_search_26 : decode cX1_search 26 = .ok (.iload_n 3, 1) := by decide +kernel
theorem dX1_search_27 : decode cX1_search 27 = .ok (.aload_n 1, 1) := by decide +kernel
theorem dX1_search_28 : decode cX1_search 28 = .ok (.getfield 18, 3) := by decide +kernel
theorem dX1_search_31 : decode cX1_search 31 = .ok (.if_icmp .ge 122, 3) := by decide +kernel
theorem dX1_search_34 : decode cX1_search 34 = .ok (.aload_n 1, 1) := by decide +kernel
theorem dX1_search_35 : decode cX1_search 35 = .ok (.getfield 24, 3) := by decide +kernel
theorem dX1_search_38 : decode cX1_search 38 = .ok (.iload_n 3, 1) := by decide +kernel
theorem dX1_search_39 : decode cX1_search 39 = .ok (.iaload, 1) := by decide +kernel
theorem dX1_search_40 : decode cX1_search 40 = .ok (.istore 4, 2) := by decide +kernel
theorem dX1_search_42 : decode cX1_search 42 = .ok (.bipush 20, 2) := by decide +kernel
theorem dX1_search_44 : decode cX1_search 44 = .ok (.aload_n 1, 1) := by decide +kernel
theorem dX1_search_45 : decode cX1_search 45 = .ok (.getfield 28, 3) := by decide +kernel
theorem dX1_search_48 : decode cX1_search 48 = .ok (.iload_n 3, 1) := by decide +kernel
theorem dX1_search_49 : decode cX1_search 49 = .ok (.iaload, 1) := by decide +kernel
theorem dX1_search_50 : decode cX1_search 50 = .ok (.invokestatic 31, 3) := by decide +kernel
theorem dX1_search_53 : decode cX1_search 53 = .ok (.istore 5, 2) := by decide +kernel
theorem dX1_search_55 : decode cX1_search 55 = .ok (.aload_n 2, 1) := by decide +kernel
theorem dX1_search_56 : decode cX1_search 56 = .ok (.aload_n 1, 1) := by decide +kernel
theorem dX1_search_57 : decode cX1_search 57 = .ok (.getfield 37, 3) := by decide +kernel
theorem dX1_search_60 : decode cX1_search 60 = .ok (.iload 4, 2) := by decide +kernel
theorem dX1_search_62 : decode cX1_search 62 = .ok (.invokevirtual 41, 3) := by decide +kernel
theorem dX1_search_65 : decode cX1_search 65 = .ok (.iconst 0, 1) := by decide +kernel
theorem dX1_search_66 : decode cX1_search 66 = .ok (.istore 6, 2) := by decide +kernel
theorem dX1_search_68 : decode cX1_search 68 = .ok (.iload 6, 2) := by decide +kernel
theorem dX1_search_70 : decode cX1_search 70 = .ok (.aload_n 0, 1) := by decide +kernel
theorem dX1_search_71 : decode cX1_search 71 = .ok (.getfield 15, 3) := by decide +kernel
theorem dX1_search_74 : decode cX1_search 74 = .ok (.arraylength, 1) := by decide +kernel
theorem dX1_search_75 : decode cX1_search 75 = .ok (.if_icmp .ge 59, 3) := by decide +kernel
theorem dX1_search_78 : decode cX1_search 78 = .ok (.aload_n 2, 1) := by decide +kernel
theorem dX1_search_79 : decode cX1_search 79 = .ok (.aload_n 1, 1) := by decide +kernel
theorem dX1_search_80 : decode cX1_search 80 = .ok (.getfield 37, 3) := by decide +kernel
theorem dX1_search_83 : decode cX1_search 83 = .ok (.iload 4, 2) := by decide +kernel
theorem dX1_search_85 : decode cX1_search 85 = .ok (.invokevirtual 47, 3) := by decide +kernel
theorem dX1_search_88 : decode cX1_search 88 = .ok (.iload 6, 2) := by decide +kernel
theorem dX1_search_90 : decode cX1_search 90 = .ok (.iload 5, 2) := by decide +kernel
theorem dX1_search_92 : decode cX1_search 92 = .ok (.invokevirtual 53, 3) := by decide +kernel
theorem dX1_search_95 : decode cX1_search 95 = .ok (.aload_n 0, 1) := by decide +kernel
theorem dX1_search_96 : decode cX1_search 96 = .ok (.getfield 15, 3) := by decide +kernel
theorem dX1_search_99 : decode cX1_search 99 = .ok (.iload 6, 2) := by decide +kernel
theorem dX1_search_101 : decode cX1_search 101 = .ok (.iload 5, 2) := by decide +kernel
theorem dX1_search_103 : decode cX1_search 103 = .ok (.ifCond .lt 23, 3) := by decide +kernel
theorem dX1_search_106 : decode cX1_search 106 = .ok (.aload_n 2, 1) := by decide +kernel
theorem dX1_search_107 : decode cX1_search 107 = .ok (.getfield 57, 3) := by decide +kernel
theorem dX1_search_110 : decode cX1_search 110 = .ok (.iload 5, 2) := by decide +kernel
theorem dX1_search_112 : decode cX1_search 112 = .ok (.iaload, 1) := by decide +kernel
theorem dX1_search_113 : decode cX1_search 113 = .ok (.aload_n 1, 1) := by decide +kernel
theorem dX1_search_114 : decode cX1_search 114 = .ok (.getfield 60, 3) := by decide +kernel
theorem dX1_search_117 : decode cX1_search 117 = .ok (.iload_n 3, 1) := by decide +kernel
theorem dX1_search_118 : decode cX1_search 118 = .ok (.iaload, 1) := by decide +kernel
theorem dX1_search_119 : decode cX1_search 119 = .ok (.if_icmp .ne 7, 3) := by decide +kernel
theorem dX1_search_122 : decode cX1_search 122 = .ok (.iconst 1, 1) := by decide +kernel
theorem dX1_search_123 : decode cX1_search 123 = .ok (.goto 4, 3) := by decide +kernel
theorem dX1_search_126 : decode cX1_search 126 = .ok (.iconst 0, 1) := by decide +kernel
theorem dX1_search_127 : decode cX1_search 127 = .ok (.bastore, 1) := by decide +kernel
theorem dX1_search_128 : decode cX1_search 128 = .ok (.iinc 6 1, 3) := by decide +kernel
theorem dX1_search_131 : decode cX1_search 131 = .ok (.goto (-63), 3) := by decide +kernel
theorem dX1_search_134 : decode cX1_search 134 = .ok (.aload_n 0, 1) := by decide +kernel
theorem dX1_search_135 : decode cX1_search 135 = .ok (.aload_n 1, 1) := by decide +kernel
theorem dX1_search_136 : decode cX1_search 136 = .ok (.getfield 37, 3) := by decide +kernel
theorem dX1_search_139 : decode cX1_search 139 = .ok (.iload 4, 2) := by decide +kernel
theorem dX1_search_141 : decode cX1_search 141 = .ok (.invokevirtual 63, 3) := by decide +kernel
theorem dX1_search_144 : decode cX1_search 144 = .ok (.invokevirtual 67, 3) := by decide +kernel
theorem dX1_search_147 : decode cX1_search 147 = .ok (.iinc 3 1, 3) := by decide +kernel
theorem dX1_search_150 : decode cX1_search 150 = .ok (.goto (-124), 3) := by decide +kernel
theorem dX1_search_153 : decode cX1_search 153 = .ok (.aload_n 0, 1) := by decide +kernel
theorem dX1_search_154 : decode cX1_search 154 = .ok (.invokevirtual 71, 3) := by decide +kernel
theorem dX1_search_157 : decode cX1_search 157 = .ok (.return_, 1) := by decide +kernel
theorem dX1_sift_0 : decode cX1_sift 0 = .ok (.iconst 0, 1) := by decide +kernel
theorem dX1_sift_1 : decode cX1_sift 1 = .ok (.istore_n 2, 1) := by decide +kernel
theorem dX1_sift_2 : decode cX1_sift 2 = .ok (.iload_n 2, 1) := by decide +kernel
theorem dX1_sift_3 : decode cX1_sift 3 = .ok (.aload_n 0, 1) := by decide +kernel
theorem dX1_sift_4 : decode cX1_sift 4 = .ok (.getfield 9, 3) := by decide +kernel
theorem dX1_sift_7 : decode cX1_sift 7 = .ok (.arraylength, 1) := by decide +kernel
theorem dX1_sift_8 : decode cX1_sift 8 = .ok (.if_icmp .ge 56, 3) := by decide +kernel
theorem dX1_sift_11 : decode cX1_sift 11 = .ok (.iload_n 2, 1) := by decide +kernel
theorem dX1_sift_12 : decode cX1_sift 12 = .ok (.bipush 10, 2) := by decide +kernel
theorem dX1_sift_14 : decode cX1_sift 14 = .ok (.idiv, 1) := by decide +kernel
theorem dX1_sift_15 : decode cX1_sift 15 = .ok (.iload_n 1, 1) := by decide +kernel
theorem dX1_sift_16 : decode cX1_sift 16 = .ok (.ifCond .eq 10, 3) := by decide +kernel
theorem dX1_sift_19 : decode cX1_sift 19 = .ok (.iload_n 2, 1) := by decide +kernel
theorem dX1_sift_20 : decode cX1_sift 20 = .ok (.bipush 10, 2) := by decide +kernel
theorem dX1_sift_22 : decode cX1_sift 22 = .ok (.irem, 1) := by decide +kernel
theorem dX1_sift_23 : decode cX1_sift 23 = .ok (.goto 4, 3) := by decide +kernel
theorem dX1_sift_26 : decode cX1_sift 26 = .ok (.iconst 0, 1) := by decide +kernel
theorem dX1_sift_27 : decode cX1_sift 27 = .ok (.iadd, 1) := by decide +kernel
theorem dX1_sift_28 : decode cX1_sift 28 = .ok (.istore_n 3, 1) := by decide +kernel
theorem dX1_sift_29 : decode cX1_sift 29 = .ok (.aload_n 0, 1) := by decide +kernel
theorem dX1_sift_30 : decode cX1_sift 30 = .ok (.getfield 9, 3) := by decide +kernel
theorem dX1_sift_33 : decode cX1_sift 33 = .ok (.iload_n 2, 1) := by decide +kernel
theorem dX1_sift_34 : decode cX1_sift 34 = .ok (.aload_n 0, 1) := by decide +kernel
theorem dX1_sift_35 : decode cX1_sift 35 = .ok (.getfield 9, 3) := by decide +kernel
theorem dX1_sift_38 : decode cX1_sift 38 = .ok (.iload_n 2, 1) := by decide +kernel
theorem dX1_sift_39 : decode cX1_sift 39 = .ok (.baload, 1) := by decide +kernel
theorem dX1_sift_40 : decode cX1_sift 40 = .ok (.ifCond .eq 16, 3) := by decide +kernel
theorem dX1_sift_43 : decode cX1_sift 43 = .ok (.aload_n 0, 1) := by decide +kernel
theorem dX1_sift_44 : decode cX1_sift 44 = .ok (.getfield 15, 3) := by decide +kernel
theorem dX1_sift_47 : decode cX1_sift 47 = .ok (.iload_n 3, 1) := by decide +kernel
theorem dX1_sift_48 : decode cX1_sift 48 = .ok (.baload, 1) := by decide +kernel
theorem dX1_sift_49 : decode cX1_sift 49 = .ok (.ifCond .eq 7, 3) := by decide +kernel
theorem dX1_sift_52 : decode cX1_sift 52 = .ok (.iconst 1, 1) := by decide +kernel
theorem dX1_sift_53 : decode cX1_sift 53 = .ok (.goto 4, 3) := by decide +kernel
theorem dX1_sift_56 : decode cX1_sift 56 = .ok (.iconst 0, 1) := by decide +kernel
theorem dX1_sift_57 : decode cX1_sift 57 = .ok (.bastore, 1) := by decide +kernel
theorem dX1_sift_58 : decode cX1_sift 58 = .ok (.iinc 2 1, 3) := by decide +kernel
theorem dX1_sift_61 : decode cX1_sift 61 = .ok (.goto (-59), 3) := by decide +kernel
theorem dX1_sift_64 : decode cX1_sift 64 = .ok (.return_, 1) := by decide +kernel
theorem dX1_sumUp_0 : decode cX1_sumUp 0 = .ok (.aload_n 0, 1) := by decide +kernel
theorem dX1_sumUp_1 : decode cX1_sumUp 1 = .ok (.iconst 0, 1) := by decide +kernel
theorem dX1_sumUp_2 : decode cX1_sumUp 2 = .ok (.putfield 74, 3) := by decide +kernel
theorem dX1_sumUp_5 : decode cX1_sumUp 5 = .ok (.aload_n 0, 1) := by decide +kernel
theorem dX1_sumUp_6 : decode cX1_sumUp 6 = .ok (.bipush (-4), 2) := by decide +kernel
theorem dX1_sumUp_8 : decode cX1_sumUp 8 = .ok (.putfield 77, 3) := by decide +kernel
theorem dX1_sumUp_11 : decode cX1_sumUp 11 = .ok (.aload_n 0, 1) := by decide +kernel
theorem dX1_sumUp_12 : decode cX1_sumUp 12 = .ok (.bipush (-4), 2) := by decide +kernel
theorem dX1_sumUp_14 : decode cX1_sumUp 14 = .ok (.putfield 80, 3) := by decide +kernel
theorem dX1_sumUp_17 : decode cX1_sumUp 17 = .ok (.iconst 0, 1) := by decide +kernel
theorem dX1_sumUp_18 : decode cX1_sumUp 18 = .ok (.istore_n 1, 1) := by decide +kernel
theorem dX1_sumUp_19 : decode cX1_sumUp 19 = .ok (.iload_n 1, 1) := by decide +kernel
theorem dX1_sumUp_20 : decode cX1_sumUp 20 = .ok (.aload_n 0, 1) := by decide +kernel
theorem dX1_sumUp_21 : decode cX1_sumUp 21 = .ok (.getfield 9, 3) := by decide +kernel
theorem dX1_sumUp_24 : decode cX1_sumUp 24 = .ok (.arraylength, 1) := by decide +kernel
theorem dX1_sumUp_25 : decode cX1_sumUp 25 = .ok (.if_icmp .ge 52, 3) := by decide +kernel
theorem dX1_sumUp_28 : decode cX1_sumUp 28 = .ok (.aload_n 0, 1) := by decide +kernel
theorem dX1_sumUp_29 : decode cX1_sumUp 29 = .ok (.getfield 9, 3) := by decide +kernel
theorem dX1_sumUp_32 : decode cX1_sumUp 32 = .ok (.iload_n 1, 1) := by decide +kernel
theorem dX1_sumUp_33 : decode cX1_sumUp 33 = .ok (.baload, 1) := by decide +kernel
theorem dX1_sumUp_34 : decode cX1_sumUp 34 = .ok (.ifCond .eq 37, 3) := by decide +kernel
theorem dX1_sumUp_37 : decode cX1_sumUp 37 = .ok (.aload_n 0, 1) := by decide +kernel
theorem dX1_sumUp_38 : decode cX1_sumUp 38 = .ok (.aload_n 0, 1) := by decide +kernel
theorem dX1_sumUp_39 : decode cX1_sumUp 39 = .ok (.getfield 74, 3) := by decide +kernel
theorem dX1_sumUp_42 : decode cX1_sumUp 42 = .ok (.ifCond .ne 7, 3) := by decide +kernel
theorem dX1_sumUp_45 : decode cX1_sumUp 45 = .ok (.iload_n 1, 1) := by decide +kernel
theorem dX1_sumUp_46 : decode cX1_sumUp 46 = .ok (.goto 7, 3) := by decide +kernel
theorem dX1_sumUp_49 : decode cX1_sumUp 49 = .ok (.aload_n 0, 1) := by decide +kernel
theorem dX1_sumUp_50 : decode cX1_sumUp 50 = .ok (.getfield 77, 3) := by decide +kernel
theorem dX1_sumUp_53 : decode cX1_sumUp 53 = .ok (.putfield 77, 3) := by decide +kernel
theorem dX1_sumUp_56 : decode cX1_sumUp 56 = .ok (.aload_n 0, 1) := by decide +kernel
theorem dX1_sumUp_57 : decode cX1_sumUp 57 = .ok (.iload_n 1, 1) := by decide +kernel
theorem dX1_sumUp_58 : decode cX1_sumUp 58 = .ok (.putfield 80, 3) := by decide +kernel
theorem dX1_sumUp_61 : decode cX1_sumUp 61 = .ok (.aload_n 0, 1) := by decide +kernel
theorem dX1_sumUp_62 : decode cX1_sumUp 62 = .ok (.dup, 1) := by decide +kernel
theorem dX1_sumUp_63 : decode cX1_sumUp 63 = .ok (.getfield 74, 3) := by decide +kernel
theorem dX1_sumUp_66 : decode cX1_sumUp 66 = .ok (.iconst 1, 1) := by decide +kernel
theorem dX1_sumUp_67 : decode cX1_sumUp 67 = .ok (.iadd, 1) := by decide +kernel
theorem dX1_sumUp_68 : decode cX1_sumUp 68 = .ok (.putfield 74, 3) := by decide +kernel
theorem dX1_sumUp_71 : decode cX1_sumUp 71 = .ok (.iinc 1 1, 3) := by decide +kernel
theorem dX1_sumUp_74 : decode cX1_sumUp 74 = .ok (.goto (-55), 3) := by decide +kernel
theorem dX1_sumUp_77 : decode cX1_sumUp 77 = .ok (.return_, 1) := by decide +kernel
theorem dX2_init_0 : decode cX2_init 0 = .ok (.aload_n 0, 1) := by decide +kernel
theorem dX2_init_1 : decode cX2_init 1 = .ok (.invokespecial 3, 3) := by decide +kernel
theorem dX2_init_4 : decode cX2_init 4 = .ok (.aload_n 0, 1) := by decide +kernel
theorem dX2_init_5 : decode cX2_init 5 = .ok (.bipush 24, 2) := by decide +kernel
theorem dX2_init_7 : decode cX2_init 7 = .ok (.newarray .int, 2) := by decide +kernel
theorem dX2_init_9 : decode cX2_init 9 = .ok (.putfield 9, 3) := by decide +kernel
theorem dX2_init_12 : decode cX2_init 12 = .ok (.aload_n 0, 1) := by decide +kernel
theorem dX2_init_13 : decode cX2_init 13 = .ok (.bipush 6, 2) := by decide +kernel
theorem dX2_init_15 : decode cX2_init 15 = .ok (.newarray .int, 2) := by decide +kernel
theorem dX2_init_17 : decode cX2_init 17 = .ok (.putfield 15, 3) := by decide +kernel
theorem dX2_init_20 : decode cX2_init 20 = .ok (.aload_n 0, 1) := by decide +kernel
theorem dX2_init_21 : decode cX2_init 21 = .ok (.bipush 6, 2) := by decide +kernel
theorem dX2_init_23 : decode cX2_init 23 = .ok (.newarray .int, 2) := by decide +kernel
theorem dX2_init_25 : decode cX2_init 25 = .ok (.putfield 18, 3) := by decide +kernel
theorem dX2_init_28 : decode cX2_init 28 = .ok (.aload_n 0, 1) := by decide +kernel
theorem dX2_init_29 : decode cX2_init 29 = .ok (.bipush 6, 2) := by decide +kernel
theorem dX2_init_31 : decode cX2_init 31 = .ok (.newarray .int, 2) := by decide +kernel
theorem dX2_init_33 : decode cX2_init 33 = .ok (.putfield 21, 3) := by decide +kernel
theorem dX2_init_36 : decode cX2_init 36 = .ok (.return_, 1) := by decide +kernel
theorem dX2_becomeCold_0 : decode cX2_becomeCold 0 = .ok (.aload_n 0, 1) := by decide +kernel
theorem dX2_becomeCold_1 : decode cX2_becomeCold 1 = .ok (.iconst 3, 1) := by decide +kernel
theorem dX2_becomeCold_2 : decode cX2_becomeCold 2 = .ok (.putfield 24, 3) := by decide +kernel
theorem dX2_becomeCold_5 : decode cX2_becomeCold 5 = .ok (.aload_n 0, 1) := by decide +kernel
theorem dX2_becomeCold_6 : decode cX2_becomeCold 6 = .ok (.iconst 1, 1) := by decide +kernel
theorem dX2_becomeCold_7 : decode cX2_becomeCold 7 = .ok (.putfield 28, 3) := by decide +kernel
theorem dX2_becomeCold_10 : decode cX2_becomeCold 10 = .ok (.aload_n 0, 1) := by decide +kernel
theorem dX2_becomeCold_11 : decode cX2_becomeCold 11 = .ok (.iconst 1, 1) := by decide +kernel
theorem dX2_becomeCold_12 : decode cX2_becomeCold 12 = .ok (.putfield 31, 3) := by decide +kernel
theorem dX2_becomeCold_15 : decode cX2_becomeCold 15 = .ok (.aload_n 0, 1) := by decide +kernel
theorem dX2_becomeCold_16 : decode cX2_becomeCold 16 = .ok (.iconst 0, 1) := by decide +kernel
theorem dX2_becomeCold_17 : decode cX2_becomeCold 17 = .ok (.putfield 34, 3) := by decide +kernel
theorem dX2_becomeCold_20 : decode cX2_becomeCold 20 = .ok (.aload_n 0, 1) := by decide +kernel
theorem dX2_becomeCold_21 : decode cX2_becomeCold 21 = .ok (.getfield 9, 3) := by decide +kernel
theorem dX2_becomeCold_24 : decode cX2_becomeCold 24 = .ok (.iconst 0, 1) := by decide +kernel
theorem dX2_becomeCold_25 : decode cX2_becomeCold 25 = .ok (.invokestatic 37, 3) := by decide +kernel
theorem dX2_becomeCold_28 : decode cX2_becomeCold 28 = .ok (.return_, 1) := by decide +kernel
theorem dX2_copyFrom_0 : decode cX2_copyFrom 0 = .ok (.aload_n 0, 1) := by decide +kernel
theorem dX2_copyFrom_1 : decode cX2_copyFrom 1 = .ok (.aload_n 1, 1) := by decide +kernel
theorem dX2_copyFrom_2 : decode cX2_copyFrom 2 = .ok (.getfield 24, 3) := by decide +kernel
theorem dX2_copyFrom_5 : decode cX2_copyFrom 5 = .ok (.putfield 24, 3) := by decide +kernel
theorem dX2_copyFrom_8 : decode cX2_copyFrom 8 = .ok (.aload_n 0, 1) := by decide +kernel
theorem dX2_copyFrom_9 : decode cX2_copyFrom 9 = .ok (.aload_n 1, 1) := by decide +kernel
theorem dX2_copyFrom_10 : decode cX2_copyFrom 10 = .ok (.getfield 28, 3) := by decide +kernel
theorem dX2_copyFrom_13 : decode cX2_copyFrom 13 = .ok (.putfield 28, 3) := by decide +kernel
theorem dX2_copyFrom_16 : decode cX2_copyFrom 16 = .ok (.aload_n 0, 1) := by decide +kernel
theorem dX2_copyFrom_17 : decode cX2_copyFrom 17 = .ok (.aload_n 1, 1) := by decide +kernel
theorem dX2_copyFrom_18 : decode cX2_copyFrom 18 = .ok (.getfield 31, 3) := by decide +kernel
theorem dX2_copyFrom_21 : decode cX2_copyFrom 21 = .ok (.putfield 31, 3) := by decide +kernel
theorem dX2_copyFrom_24 : decode cX2_copyFrom 24 = .ok (.aload_n 0, 1) := by decide +kernel
theorem dX2_copyFrom_25 : decode cX2_copyFrom 25 = .ok (.aload_n 1, 1) := by decide +kernel
theorem dX2_copyFrom_26 : decode cX2_copyFrom 26 = .ok (.getfield 34, 3) := by decide +kernel
theorem dX2_copyFrom_29 : decode cX2_copyFrom 29 = .ok (.putfield 34, 3) := by decide +kernel
theorem dX2_copyFrom_32 : decode cX2_copyFrom 32 = .ok (.aload_n 1, 1) := by decide +kernel
theorem dX2_copyFrom_33 : decode cX2_copyFrom 33 = .ok (.getfield 9, 3) := by decide +kernel
theorem dX2_copyFrom_36 : decode cX2_copyFrom 36 = .ok (.iconst 0, 1) := by decide +kernel
theorem dX2_copyFrom_37 : decode cX2_copyFrom 37 = .ok (.aload_n 0, 1) := by decide +kernel
theorem dX2_copyFrom_38 : decode cX2_copyFrom 38 = .ok (.getfield 9, 3) := by decide +kernel
theorem dX2_copyFrom_41 : decode cX2_copyFrom 41 = .ok (.iconst 0, 1) := by decide +kernel
theorem dX2_copyFrom_42 : decode cX2_copyFrom 42 = .ok (.bipush 24, 2) := by decide +kernel
theorem dX2_copyFrom_44 : decode cX2_copyFrom 44 = .ok (.invokestatic 43, 3) := by decide +kernel
theorem dX2_copyFrom_47 : decode cX2_copyFrom 47 = .ok (.aload_n 1, 1) := by decide +kernel
theorem dX2_copyFrom_48 : decode cX2_copyFrom 48 = .ok (.getfield 15, 3) := by decide +kernel
theorem dX2_copyFrom_51 : decode cX2_copyFrom 51 = .ok (.iconst 0, 1) := by decide +kernel
theorem dX2_copyFrom_52 : decode cX2_copyFrom 52 = .ok (.aload_n 0, 1) := by decide +kernel
theorem dX2_copyFrom_53 : decode cX2_copyFrom 53 = .ok (.getfield 15, 3) := by decide +kernel
theorem dX2_copyFrom_56 : decode cX2_copyFrom 56 = .ok (.iconst 0, 1) := by decide +kernel
theorem dX2_copyFrom_57 : decode cX2_copyFrom 57 = .ok (.bipush 6, 2) := by decide +kernel
theorem dX2_copyFrom_59 : decode cX2_copyFrom 59 = .ok (.invokestatic 43, 3) := by decide +kernel
theorem dX2_copyFrom_62 : decode cX2_copyFrom 62 = .ok (.aload_n 1, 1) := by decide +kernel
theorem dX2_copyFrom_63 : decode cX2_copyFrom 63 = .ok (.getfield 18, 3) := by decide +kernel
theorem dX2_copyFrom_66 : decode cX2_copyFrom 66 = .ok (.iconst 0, 1) := by decide +kernel
theorem dX2_copyFrom_67 : decode cX2_copyFrom 67 = .ok (.aload_n 0, 1) := by decide +kernel
theorem dX2_copyFrom_68 : decode cX2_copyFrom 68 = .ok (.getfield 18, 3) := by decide +kernel
theorem dX2_copyFrom_71 : decode cX2_copyFrom 71 = .ok (.iconst 0, 1) := by decide +kernel
theorem dX2_copyFrom_72 : decode cX2_copyFrom 72 = .ok (.bipush 6, 2) := by decide +kernel
theorem dX2_copyFrom_74 : decode cX2_copyFrom 74 = .ok (.invokestatic 43, 3) := by decide +kernel
theorem dX2_copyFrom_77 : decode cX2_copyFrom 77 = .ok (.aload_n 1, 1) := by decide +kernel
theorem dX2_copyFrom_78 : decode cX2_copyFrom 78 = .ok (.getfield 21, 3) := by decide +kernel
theorem dX2_copyFrom_81 : decode cX2_copyFrom 81 = .ok (.iconst 0, 1) := by decide +kernel
theorem dX2_copyFrom_82 : decode cX2_copyFrom 82 = .ok (.aload_n 0, 1) := by decide +kernel
theorem dX2_copyFrom_83 : decode cX2_copyFrom 83 = .ok (.getfield 21, 3) := by decide +kernel
theorem dX2_copyFrom_86 : decode cX2_copyFrom 86 = .ok (.iconst 0, 1) := by decide +kernel
theorem dX2_copyFrom_87 : decode cX2_copyFrom 87 = .ok (.bipush 6, 2) := by decide +kernel
theorem dX2_copyFrom_89 : decode cX2_copyFrom 89 = .ok (.invokestatic 43, 3) := by decide +kernel
theorem dX2_copyFrom_92 : decode cX2_copyFrom 92 = .ok (.return_, 1) := by decide +kernel
theorem dX2_placeCount_0 : decode cX2_placeCount 0 = .ok (.iconst 3, 1) := by decide +kernel
theorem dX2_placeCount_1 : decode cX2_placeCount 1 = .ok (.aload_n 0, 1) := by decide +kernel
theorem dX2_placeCount_2 : decode cX2_placeCount 2 = .ok (.getfield 24, 3) := by decide +kernel
theorem dX2_placeCount_5 : decode cX2_placeCount 5 = .ok (.imul, 1) := by decide +kernel
theorem dX2_placeCount_6 : decode cX2_placeCount 6 = .ok (.ireturn, 1) := by decide +kernel
theorem dX2_hasCell_0 : decode cX2_hasCell 0 = .ok (.iload_n 1, 1) := by decide +kernel
theorem dX2_hasCell_1 : decode cX2_hasCell 1 = .ok (.ifCond .lt 15, 3) := by decide +kernel
theorem dX2_hasCell_4 : decode cX2_hasCell 4 = .ok (.iload_n 1, 1) := by decide +kernel
theorem dX2_hasCell_5 : decode cX2_hasCell 5 = .ok (.aload_n 0, 1) := by decide +kernel
theorem dX2_hasCell_6 : decode cX2_hasCell 6 = .ok (.getfield 24, 3) := by decide +kernel
theorem dX2_hasCell_9 : decode cX2_hasCell 9 = .ok (.if_icmp .ge 7, 3) := by decide +kernel
theorem dX2_hasCell_12 : decode cX2_hasCell 12 = .ok (.iconst 1, 1) := by decide +kernel
theorem dX2_hasCell_13 : decode cX2_hasCell 13 = .ok (.goto 4, 3) := by decide +kernel
theorem dX2_hasCell_16 : decode cX2_hasCell 16 = .ok (.iconst 0, 1) := by decide +kernel
theorem dX2_hasCell_17 : decode cX2_hasCell 17 = .ok (.ireturn, 1) := by decide +kernel
theorem dX2_hasPlace_0 : decode cX2_hasPlace 0 = .ok (.iload_n 1, 1) := by decide +kernel
theorem dX2_hasPlace_1 : decode cX2_hasPlace 1 = .ok (.ifCond .lt 15, 3) := by decide +kernel
theorem dX2_hasPlace_4 : decode cX2_hasPlace 4 = .ok (.iload_n 1, 1) := by decide +kernel
theorem dX2_hasPlace_5 : decode cX2_hasPlace 5 = .ok (.aload_n 0, 1) := by decide +kernel
theorem dX2_hasPlace_6 : decode cX2_hasPlace 6 = .ok (.invokevirtual 49, 3) := by decide +kernel
theorem dX2_hasPlace_9 : decode cX2_hasPlace 9 = .ok (.if_icmp .ge 7, 3) := by decide +kernel
theorem dX2_hasPlace_12 : decode cX2_hasPlace 12 = .ok (.iconst 1, 1) := by decide +kernel
theorem dX2_hasPlace_13 : decode cX2_hasPlace 13 = .ok (.goto 4, 3) := by decide +kernel
theorem dX2_hasPlace_16 : decode cX2_hasPlace 16 = .ok (.iconst 0, 1) := by decide +kernel
theorem dX2_hasPlace_17 : decode cX2_hasPlace 17 = .ok (.ireturn, 1) := by decide +kernel
theorem dX2_heatAt_0 : decode cX2_heatAt 0 = .ok (.aload_n 0, 1) := by decide +kernel
theorem dX2_heatAt_1 : decode cX2_heatAt 1 = .ok (.iload_n 1, 1) := by decide +kernel
theorem dX2_heatAt_2 : decode cX2_heatAt 2 = .ok (.invokevirtual 53, 3) := by decide +kernel
theorem dX2_heatAt_5 : decode cX2_heatAt 5 = .ok (.ifCond .eq 12, 3) := by decide +kernel
theorem dX2_heatAt_8 : decode cX2_heatAt 8 = .ok (.aload_n 0, 1) := by decide +kernel
theorem dX2_heatAt_9 : decode cX2_heatAt 9 = .ok (.getfield 9, 3) := by decide +kernel
theorem dX2_heatAt_12 : decode cX2_heatAt 12 = .ok (.iload_n 1, 1) := by decide +kernel
theorem dX2_heatAt_13 : decode cX2_heatAt 13 = .ok (.iaload, 1) := by decide +kernel
theorem dX2_heatAt_14 : decode cX2_heatAt 14 = .ok (.goto 4, 3) := by decide +kernel
theorem dX2_heatAt_17 : decode cX2_heatAt 17 = .ok (.iconst 0, 1) := by decide +kernel
theorem dX2_heatAt_18 : decode cX2_heatAt 18 = .ok (.ireturn, 1) := by decide +kernel
theorem dX2_isRimPlace_0 : decode cX2_isRimPlace 0 = .ok (.iload_n 1, 1) := by decide +kernel
theorem dX2_isRimPlace_1 : decode cX2_isRimPlace 1 = .ok (.iconst 3, 1) := by decide +kernel
theorem dX2_isRimPlace_2 : decode cX2_isRimPlace 2 = .ok (.idiv, 1) := by decide +kernel
theorem dX2_isRimPlace_3 : decode cX2_isRimPlace 3 = .ok (.ifCond .eq 15, 3) := by decide +kernel
theorem dX2_isRimPlace_6 : decode cX2_isRimPlace 6 = .ok (.iload_n 1, 1) := by decide +kernel
theorem dX2_isRimPlace_7 : decode cX2_isRimPlace 7 = .ok (.iconst 3, 1) := by decide +kernel
theorem dX2_isRimPlace_8 : decode cX2_isRimPlace 8 = .ok (.idiv, 1) := by decide +kernel
theorem dX2_isRimPlace_9 : decode cX2_isRimPlace 9 = .ok (.aload_n 0, 1) := by decide +kernel
theorem dX2_isRimPlace_10 : decode cX2_isRimPlace 10 = .ok (.getfield 24, 3) := by decide +kernel
theorem dX2_isRimPlace_13 : decode cX2_isRimPlace 13 = .ok (.iconst 1, 1) := by decide +kernel
theorem dX2_isRimPlace_14 : decode cX2_isRimPlace 14 = .ok (.isub, 1) := by decide +kernel
theorem dX2_isRimPlace_15 : decode cX2_isRimPlace 15 = .ok (.if_icmp .ne 7, 3) := by decide +kernel
theorem dX2_isRimPlace_18 : decode cX2_isRimPlace 18 = .ok (.iconst 1, 1) := by decide +kernel
theorem dX2_isRimPlace_19 : decode cX2_isRimPlace 19 = .ok (.goto 4, 3) := by decide +kernel
theorem dX2_isRimPlace_22 : decode cX2_isRimPlace 22 = .ok (.iconst 0, 1) := by decide +kernel
theorem dX2_isRimPlace_23 : decode cX2_isRimPlace 23 = .ok (.ireturn, 1) := by decide +kernel
theorem dX2_lossAt_0 : decode cX2_lossAt 0 = .ok (.aload_n 0, 1) := by decide +kernel
theorem dX2_lossAt_1 : decode cX2_lossAt 1 = .ok (.iload_n 1, 1) := by decide +kernel
theorem dX2_lossAt_2 : decode cX2_lossAt 2 = .ok (.invokevirtual 57, 3) := by decide +kernel
theorem dX2_lossAt_5 : decode cX2_lossAt 5 = .ok (.ifCond .eq 15, 3) := by decide +kernel
theorem dX2_lossAt_8 : decode cX2_lossAt 8 = .ok (.aload_n 0, 1) := by decide +kernel
theorem dX2_lossAt_9 : decode cX2_lossAt 9 = .ok (.getfield 28, 3) := by decide +kernel
theorem dX2_lossAt_12 : decode cX2_lossAt 12 = .ok (.aload_n 0, 1) := by decide +kernel
theorem dX2_lossAt_13 : decode cX2_lossAt 13 = .ok (.getfield 31, 3) := by decide +kernel
theorem dX2_lossAt_16 : decode cX2_lossAt 16 = .ok (.iadd, 1) := by decide +kernel
theorem dX2_lossAt_17 : decode cX2_lossAt 17 = .ok (.goto 7, 3) := by decide +kernel
theorem dX2_lossAt_20 : decode cX2_lossAt 20 = .ok (.aload_n 0, 1) := by decide +kernel
theorem dX2_lossAt_21 : decode cX2_lossAt 21 = .ok (.getfield 28, 3) := by decide +kernel
theorem dX2_lossAt_24 : decode cX2_lossAt 24 = .ok (.ireturn, 1) := by decide +kernel
theorem dX2_layWood_0 : decode cX2_layWood 0 = .ok (.aload_n 0, 1) := by decide +kernel
theorem dX2_layWood_1 : decode cX2_layWood 1 = .ok (.getfield 34, 3) := by decide +kernel
theorem dX2_layWood_4 : decode cX2_layWood 4 = .ok (.bipush 6, 2) := by decide +kernel
theorem dX2_layWood_6 : decode cX2_layWood 6 = .ok (.if_icmp .lt 5, 3) := by decide +kernel
theorem dX2_layWood_9 : decode cX2_layWood 9 = .ok (.iconst 0, 1) := by decide +kernel
theorem dX2_layWood_10 : decode cX2_layWood 10 = .ok (.ireturn, 1) := by decide +kernel
theorem dX2_layWood_11 : decode cX2_layWood 11 = .ok (.aload_n 0, 1) := by decide +kernel
theorem dX2_layWood_12 : decode cX2_layWood 12 = .ok (.getfield 15, 3) := by decide +kernel
theorem dX2_layWood_15 : decode cX2_layWood 15 = .ok (.aload_n 0, 1) := by decide +kernel
theorem dX2_layWood_16 : decode cX2_layWood 16 = .ok (.getfield 34, 3) := by decide +kernel
theorem dX2_layWood_19 : decode cX2_layWood 19 = .ok (.iload_n 1, 1) := by decide +kernel
theorem dX2_layWood_20 : decode cX2_layWood 20 = .ok (.iastore, 1) := by decide +kernel
theorem dX2_layWood_21 : decode cX2_layWood 21 = .ok (.aload_n 0, 1) := by decide +kernel
theorem dX2_layWood_22 : decode cX2_layWood 22 = .ok (.getfield 18, 3) := by decide +kernel
theorem dX2_layWood_25 : decode cX2_layWood 25 = .ok (.aload_n 0, 1) := by decide +kernel
theorem dX2_layWood_26 : decode cX2_layWood 26 = .ok (.getfield 34, 3) := by decide +kernel
theorem dX2_layWood_29 : decode cX2_layWood 29 = .ok (.iload_n 2, 1) := by decide +kernel
theorem dX2_layWood_30 : decode cX2_layWood 30 = .ok (.iastore, 1) := by decide +kernel
theorem dX2_layWood_31 : decode cX2_layWood 31 = .ok (.aload_n 0, 1) := by decide +kernel
theorem dX2_layWood_32 : decode cX2_layWood 32 = .ok (.getfield 21, 3) := by decide +kernel
theorem dX2_layWood_35 : decode cX2_layWood 35 = .ok (.aload_n 0, 1) := by decide +kernel
theorem dX2_layWood_36 : decode cX2_layWood 36 = .ok (.getfield 34, 3) := by decide +kernel
theorem dX2_layWood_39 : decode cX2_layWood 39 = .ok (.iload_n 3, 1) := by decide +kernel
theorem dX2_layWood_40 : decode cX2_layWood 40 = .ok (.iastore, 1) := by decide +kernel
theorem dX2_layWood_41 : decode cX2_layWood 41 = .ok (.aload_n 0, 1) := by decide +kernel
theorem dX2_layWood_42 : decode cX2_layWood 42 = .ok (.dup, 1) := by decide +kernel
theorem dX2_layWood_43 : decode cX2_layWood 43 = .ok (.getfield 34, 3) := by decide +kernel
theorem dX2_layWood_46 : decode cX2_layWood 46 = .ok (.iconst 1, 1) := by decide +kernel
theorem dX2_layWood_47 : decode cX2_layWood 47 = .ok (.iadd, 1) := by decide +kernel
theorem dX2_layWood_48 : decode cX2_layWood 48 = .ok (.putfield 34, 3) := by decide +kernel
theorem dX2_layWood_51 : decode cX2_layWood 51 = .ok (.iconst 1, 1) := by decide +kernel
theorem dX2_layWood_52 : decode cX2_layWood 52 = .ok (.ireturn, 1) := by decide +kernel
theorem dX2_burnWood_0 : decode cX2_burnWood 0 = .ok (.iconst 0, 1) := by decide +kernel
theorem dX2_burnWood_1 : decode cX2_burnWood 1 = .ok (.istore_n 1, 1) := by decide +kernel
theorem dX2_burnWood_2 : decode cX2_burnWood 2 = .ok (.iconst 0, 1) := by decide +kernel
theorem dX2_burnWood_3 : decode cX2_burnWood 3 = .ok (.istore_n 2, 1) := by decide +kernel
theorem dX2_burnWood_4 : decode cX2_burnWood 4 = .ok (.iload_n 2, 1) := by decide +kernel
theorem dX2_burnWood_5 : decode cX2_burnWood 5 = .ok (.aload_n 0, 1) := by decide +kernel
theorem dX2_burnWood_6 : decode cX2_burnWood 6 = .ok (.getfield 34, 3) := by decide +kernel
theorem dX2_burnWood_9 : decode cX2_burnWood 9 = .ok (.if_icmp .ge 79, 3) := by decide +kernel
theorem dX2_burnWood_12 : decode cX2_burnWood 12 = .ok (.aload_n 0, 1) := by decide +kernel
theorem dX2_burnWood_13 : decode cX2_burnWood 13 = .ok (.getfield 21, 3) := by decide +kernel
theorem dX2_burnWood_16 : decode cX2_burnWood 16 = .ok (.iload_n 2, 1) := by decide +kernel
theorem dX2_burnWood_17 : decode cX2_burnWood 17 = .ok (.iaload, 1) := by decide +kernel
theorem dX2_burnWood_18 : decode cX2_burnWood 18 = .ok (.iconst 1, 1) := by decide +kernel
theorem dX2_burnWood_19 : decode cX2_burnWood 19 = .ok (.if_icmp .gt 22, 3) := by decide +kernel
theorem dX2_burnWood_22 : decode cX2_burnWood 22 = .ok (.aload_n 0, 1) := by decide +kernel
theorem dX2_burnWood_23 : decode cX2_burnWood 23 = .ok (.aload_n 0, 1) := by decide +kernel
theorem dX2_burnWood_24 : decode cX2_burnWood 24 = .ok (.getfield 15, 3) := by decide +kernel
theorem dX2_burnWood_27 : decode cX2_burnWood 27 = .ok (.iload_n 2, 1) := by decide +kernel
theorem dX2_burnWood_28 : decode cX2_burnWood 28 = .ok (.iaload, 1) := by decide +kernel
theorem dX2_burnWood_29 : decode cX2_burnWood 29 = .ok (.aload_n 0, 1) := by decide +kernel
theorem dX2_burnWood_30 : decode cX2_burnWood 30 = .ok (.getfield 18, 3) := by decide +kernel
theorem dX2_burnWood_33 : decode cX2_burnWood 33 = .ok (.iload_n 2, 1) := by decide +kernel
theorem dX2_burnWood_34 : decode cX2_burnWood 34 = .ok (.iaload, 1) := by decide +kernel
theorem dX2_burnWood_35 : decode cX2_burnWood 35 = .ok (.invokevirtual 60, 3) := by decide +kernel
theorem dX2_burnWood_38 : decode cX2_burnWood 38 = .ok (.goto 44, 3) := by decide +kernel
theorem dX2_burnWood_41 : decode cX2_burnWood 41 = .ok (.aload_n 0, 1) := by decide +kernel
theorem dX2_burnWood_42 : decode cX2_burnWood 42 = .ok (.getfield 15, 3) := by decide +kernel
theorem dX2_burnWood_45 : decode cX2_burnWood 45 = .ok (.iload_n 1, 1) := by decide +kernel
theorem dX2_burnWood_46 : decode cX2_burnWood 46 = .ok (.aload_n 0, 1) := by decide +kernel
theorem dX2_burnWood_47 : decode cX2_burnWood 47 = .ok (.getfield 15, 3) := by decide +kernel
theorem dX2_burnWood_50 : decode cX2_burnWood 50 = .ok (.iload_n 2, 1) := by decide +kernel
theorem dX2_burnWood_51 : decode cX2_burnWood 51 = .ok (.iaload, 1) := by decide +kernel
theorem dX2_burnWood_52 : decode cX2_burnWood 52 = .ok (.iastore, 1) := by decide +kernel
theorem dX2_burnWood_53 : decode cX2_burnWood 53 = .ok (.aload_n 0, 1) := by decide +kernel
theorem dX2_burnWood_54 : decode cX2_burnWood 54 = .ok (.getfield 18, 3) := by decide +kernel
theorem dX2_burnWood_57 : decode cX2_burnWood 57 = .ok (.iload_n 1, 1) := by decide +kernel
theorem dX2_burnWood_58 : decode cX2_burnWood 58 = .ok (.aload_n 0, 1) := by decide +kernel
theorem dX2_burnWood_59 : decode cX2_burnWood 59 = .ok (.getfield 18, 3) := by decide +kernel
theorem dX2_burnWood_62 : decode cX2_burnWood 62 = .ok (.iload_n 2, 1) := by decide +kernel
theorem dX2_burnWood_63 : decode cX2_burnWood 63 = .ok (.iaload, 1) := by decide +kernel
theorem dX2_burnWood_64 : decode cX2_burnWood 64 = .ok (.iastore, 1) := by decide +kernel
theorem dX2_burnWood_65 : decode cX2_burnWood 65 = .ok (.aload_n 0, 1) := by decide +kernel
theorem dX2_burnWood_66 : decode cX2_burnWood 66 = .ok (.getfield 21, 3) := by decide +kernel
theorem dX2_burnWood_69 : decode cX2_burnWood 69 = .ok (.iload_n 1, 1) := by decide +kernel
theorem dX2_burnWood_70 : decode cX2_burnWood 70 = .ok (.aload_n 0, 1) := by decide +kernel
theorem dX2_burnWood_71 : decode cX2_burnWood 71 = .ok (.getfield 21, 3) := by decide +kernel
theorem dX2_burnWood_74 : decode cX2_burnWood 74 = .ok (.iload_n 2, 1) := by decide +kernel
theorem dX2_burnWood_75 : decode cX2_burnWood 75 = .ok (.iaload, 1) := by decide +kernel
theorem dX2_burnWood_76 : decode cX2_burnWood 76 = .ok (.iconst 1, 1) := by decide +kernel
theorem dX2_burnWood_77 : decode cX2_burnWood 77 = .ok (.isub, 1) := by decide +kernel
theorem dX2_burnWood_78 : decode cX2_burnWood 78 = .ok (.iastore, 1) := by decide +kernel
theorem dX2_burnWood_79 : decode cX2_burnWood 79 = .ok (.iinc 1 1, 3) := by decide +kernel
theorem dX2_burnWood_82 : decode cX2_burnWood 82 = .ok (.iinc 2 1, 3) := by decide +kernel
theorem dX2_burnWood_85 : decode cX2_burnWood 85 = .ok (.goto (-81), 3) := by decide +kernel
theorem dX2_burnWood_88 : decode cX2_burnWood 88 = .ok (.aload_n 0, 1) := by decide +kernel
theorem dX2_burnWood_89 : decode cX2_burnWood 89 = .ok (.iload_n 1, 1) := by decide +kernel
theorem dX2_burnWood_90 : decode cX2_burnWood 90 = .ok (.putfield 34, 3) := by decide +kernel
theorem dX2_burnWood_93 : decode cX2_burnWood 93 = .ok (.return_, 1) := by decide +kernel
theorem dX2_becomeEmber_0 : decode cX2_becomeEmber 0 = .ok (.iconst 0, 1) := by decide +kernel
theorem dX2_becomeEmber_1 : decode cX2_becomeEmber 1 = .ok (.istore_n 3, 1) := by decide +kernel
theorem dX2_becomeEmber_2 : decode cX2_becomeEmber 2 = .ok (.iload_n 3, 1) := by decide +kernel
theorem dX2_becomeEmber_3 : decode cX2_becomeEmber 3 = .ok (.iconst 3, 1) := by decide +kernel
theorem dX2_becomeEmber_4 : decode cX2_becomeEmber 4 = .ok (.if_icmp .ge 50, 3) := by decide +kernel
theorem dX2_becomeEmber_7 : decode cX2_becomeEmber 7 = .ok (.iconst 3, 1) := by decide +kernel
theorem dX2_becomeEmber_8 : decode cX2_becomeEmber 8 = .ok (.iload_n 1, 1) := by decide +kernel
theorem dX2_becomeEmber_9 : decode cX2_becomeEmber 9 = .ok (.imul, 1) := by decide +kernel
theorem dX2_becomeEmber_10 : decode cX2_becomeEmber 10 = .ok (.iload_n 3, 1) := by decide +kernel
theorem dX2_becomeEmber_11 : decode cX2_becomeEmber 11 = .ok (.iadd, 1) := by decide +kernel
theorem dX2_becomeEmber_12 : decode cX2_becomeEmber 12 = .ok (.istore 4, 2) := by decide +kernel
theorem dX2_becomeEmber_14 : decode cX2_becomeEmber 14 = .ok (.aload_n 0, 1) := by decide +kernel
theorem dX2_becomeEmber_15 : decode cX2_becomeEmber 15 = .ok (.iload 4, 2) := by decide +kernel
theorem dX2_becomeEmber_17 : decode cX2_becomeEmber 17 = .ok (.invokevirtual 53, 3) := by decide +kernel
theorem dX2_becomeEmber_20 : decode cX2_becomeEmber 20 = .ok (.ifCond .eq 28, 3) := by decide +kernel
theorem dX2_becomeEmber_23 : decode cX2_becomeEmber 23 = .ok (.aload_n 0, 1) := by decide +kernel
theorem dX2_becomeEmber_24 : decode cX2_becomeEmber 24 = .ok (.getfield 9, 3) := by decide +kernel
theorem dX2_becomeEmber_27 : decode cX2_becomeEmber 27 = .ok (.iload 4, 2) := by decide +kernel
theorem dX2_becomeEmber_29 : decode cX2_becomeEmber 29 = .ok (.bipush 99, 2) := by decide +kernel
theorem dX2_becomeEmber_31 : decode cX2_becomeEmber 31 = .ok (.aload_n 0, 1) := by decide +kernel
theorem dX2_becomeEmber_32 : decode cX2_becomeEmber 32 = .ok (.getfield 9, 3) := by decide +kernel
theorem dX2_becomeEmber_35 : decode cX2_becomeEmber 35 = .ok (.iload 4, 2) := by decide +kernel
theorem dX2_becomeEmber_37 : decode cX2_becomeEmber 37 = .ok (.iaload, 1) := by decide +kernel
theorem dX2_becomeEmber_38 : decode cX2_becomeEmber 38 = .ok (.iload_n 2, 1) := by decide +kernel
theorem dX2_becomeEmber_39 : decode cX2_becomeEmber 39 = .ok (.iload_n 3, 1) := by decide +kernel
theorem dX2_becomeEmber_40 : decode cX2_becomeEmber 40 = .ok (.invokestatic 64, 3) := by decide +kernel
theorem dX2_becomeEmber_43 : decode cX2_becomeEmber 43 = .ok (.iadd, 1) := by decide +kernel
theorem dX2_becomeEmber_44 : decode cX2_becomeEmber 44 = .ok (.invokestatic 68, 3) := by decide +kernel
theorem dX2_becomeEmber_47 : decode cX2_becomeEmber 47 = .ok (.iastore, 1) := by decide +kernel
theorem dX2_becomeEmber_48 : decode cX2_becomeEmber 48 = .ok (.iinc 3 1, 3) := by decide +kernel
theorem dX2_becomeEmber_51 : decode cX2_becomeEmber 51 = .ok (.goto (-49), 3) := by decide +kernel
theorem dX2_becomeEmber_54 : decode cX2_becomeEmber 54 = .ok (.return_, 1) := by decide +kernel
theorem dX2_coolDown_0 : decode cX2_coolDown 0 = .ok (.iconst 0, 1) := by decide +kernel
theorem dX2_coolDown_1 : decode cX2_coolDown 1 = .ok (.istore_n 1, 1) := by decide +kernel
theorem dX2_coolDown_2 : decode cX2_coolDown 2 = .ok (.iload_n 1, 1) := by decide +kernel
theorem dX2_coolDown_3 : decode cX2_coolDown 3 = .ok (.aload_n 0, 1) := by decide +kernel
theorem dX2_coolDown_4 : decode cX2_coolDown 4 = .ok (.invokevirtual 49, 3) := by decide +kernel
theorem dX2_coolDown_7 : decode cX2_coolDown 7 = .ok (.if_icmp .ge 31, 3) := by decide +kernel
theorem dX2_coolDown_10 : decode cX2_coolDown 10 = .ok (.aload_n 0, 1) := by decide +kernel
theorem dX2_coolDown_11 : decode cX2_coolDown 11 = .ok (.getfield 9, 3) := by decide +kernel
theorem dX2_coolDown_14 : decode cX2_coolDown 14 = .ok (.iload_n 1, 1) := by decide +kernel
theorem dX2_coolDown_15 : decode cX2_coolDown 15 = .ok (.iconst 0, 1) := by decide +kernel
theorem dX2_coolDown_16 : decode cX2_coolDown 16 = .ok (.aload_n 0, 1) := by decide +kernel
theorem dX2_coolDown_17 : decode cX2_coolDown 17 = .ok (.getfield 9, 3) := by decide +kernel
theorem dX2_coolDown_20 : decode cX2_coolDown 20 = .ok (.iload_n 1, 1) := by decide +kernel
theorem dX2_coolDown_21 : decode cX2_coolDown 21 = .ok (.iaload, 1) := by decide +kernel
theorem dX2_coolDown_22 : decode cX2_coolDown 22 = .ok (.aload_n 0, 1) := by decide +kernel
theorem dX2_coolDown_23 : decode cX2_coolDown 23 = .ok (.iload_n 1, 1) := by decide +kernel
theorem dX2_coolDown_24 : decode cX2_coolDown 24 = .ok (.invokevirtual 73, 3) := by decide +kernel
theorem dX2_coolDown_27 : decode cX2_coolDown 27 = .ok (.isub, 1) := by decide +kernel
theorem dX2_coolDown_28 : decode cX2_coolDown 28 = .ok (.invokestatic 77, 3) := by decide +kernel
theorem dX2_coolDown_31 : decode cX2_coolDown 31 = .ok (.iastore, 1) := by decide +kernel
theorem dX2_coolDown_32 : decode cX2_coolDown 32 = .ok (.iinc 1 1, 3) := by decide +kernel
theorem dX2_coolDown_35 : decode cX2_coolDown 35 = .ok (.goto (-33), 3) := by decide +kernel
theorem dX2_coolDown_38 : decode cX2_coolDown 38 = .ok (.return_, 1) := by decide +kernel
theorem dX2_allHeat_0 : decode cX2_allHeat 0 = .ok (.iconst 0, 1) := by decide +kernel
theorem dX2_allHeat_1 : decode cX2_allHeat 1 = .ok (.istore_n 1, 1) := by decide +kernel
theorem dX2_allHeat_2 : decode cX2_allHeat 2 = .ok (.iconst 0, 1) := by decide +kernel
theorem dX2_allHeat_3 : decode cX2_allHeat 3 = .ok (.istore_n 2, 1) := by decide +kernel
theorem dX2_allHeat_4 : decode cX2_allHeat 4 = .ok (.iload_n 2, 1) := by decide +kernel
theorem dX2_allHeat_5 : decode cX2_allHeat 5 = .ok (.aload_n 0, 1) := by decide +kernel
theorem dX2_allHeat_6 : decode cX2_allHeat 6 = .ok (.invokevirtual 49, 3) := by decide +kernel
theorem dX2_allHeat_9 : decode cX2_allHeat 9 = .ok (.if_icmp .ge 18, 3) := by decide +kernel
theorem dX2_allHeat_12 : decode cX2_allHeat 12 = .ok (.iload_n 1, 1) := by decide +kernel
theorem dX2_allHeat_13 : decode cX2_allHeat 13 = .ok (.aload_n 0, 1) := by decide +kernel
theorem dX2_allHeat_14 : decode cX2_allHeat 14 = .ok (.getfield 9, 3) := by decide +kernel
theorem dX2_allHeat_17 : decode cX2_allHeat 17 = .ok (.iload_n 2, 1) := by decide +kernel
theorem dX2_allHeat_18 : decode cX2_allHeat 18 = .ok (.iaload, 1) := by decide +kernel
theorem dX2_allHeat_19 : decode cX2_allHeat 19 = .ok (.iadd, 1) := by decide +kernel
theorem dX2_allHeat_20 : decode cX2_allHeat 20 = .ok (.istore_n 1, 1) := by decide +kernel
theorem dX2_allHeat_21 : decode cX2_allHeat 21 = .ok (.iinc 2 1, 3) := by decide +kernel
theorem dX2_allHeat_24 : decode cX2_allHeat 24 = .ok (.goto (-20), 3) := by decide +kernel
theorem dX2_allHeat_27 : decode cX2_allHeat 27 = .ok (.iload_n 1, 1) := by decide +kernel
theorem dX2_allHeat_28 : decode cX2_allHeat 28 = .ok (.ireturn, 1) := by decide +kernel
theorem dX2_emberShare_0 : decode cX2_emberShare 0 = .ok (.iload_n 0, 1) := by decide +kernel
theorem dX2_emberShare_1 : decode cX2_emberShare 1 = .ok (.iload_n 1, 1) := by decide +kernel
theorem dX2_emberShare_2 : decode cX2_emberShare 2 = .ok (.ishr, 1) := by decide +kernel
theorem dX2_emberShare_3 : decode cX2_emberShare 3 = .ok (.ireturn, 1) := by decide +kernel
theorem dX3_init_0 : decode cX3_init 0 = .ok (.aload_n 0, 1) := by decide +kernel
theorem dX3_init_1 : decode cX3_init 1 = .ok (.invokespecial 3, 3) := by decide +kernel
theorem dX3_init_4 : decode cX3_init 4 = .ok (.aload_n 0, 1) := by decide +kernel
theorem dX3_init_5 : decode cX3_init 5 = .ok (.bipush 6, 2) := by decide +kernel
theorem dX3_init_7 : decode cX3_init 7 = .ok (.newarray .int, 2) := by decide +kernel
theorem dX3_init_9 : decode cX3_init 9 = .ok (.putfield 9, 3) := by decide +kernel
theorem dX3_init_12 : decode cX3_init 12 = .ok (.aload_n 0, 1) := by decide +kernel
theorem dX3_init_13 : decode cX3_init 13 = .ok (.bipush 6, 2) := by decide +kernel
theorem dX3_init_15 : decode cX3_init 15 = .ok (.newarray .boolean, 2) := by decide +kernel
theorem dX3_init_17 : decode cX3_init 17 = .ok (.putfield 15, 3) := by decide +kernel
theorem dX3_init_20 : decode cX3_init 20 = .ok (.aload_n 0, 1) := by decide +kernel
theorem dX3_init_21 : decode cX3_init 21 = .ok (.bipush 6, 2) := by decide +kernel
theorem dX3_init_23 : decode cX3_init 23 = .ok (.newarray .int, 2) := by decide +kernel
theorem dX3_init_25 : decode cX3_init 25 = .ok (.putfield 19, 3) := by decide +kernel
theorem dX3_init_28 : decode cX3_init 28 = .ok (.aload_n 0, 1) := by decide +kernel
theorem dX3_init_29 : decode cX3_init 29 = .ok (.bipush 64, 2) := by decide +kernel
theorem dX3_init_31 : decode cX3_init 31 = .ok (.newarray .int, 2) := by decide +kernel
theorem dX3_init_33 : decode cX3_init 33 = .ok (.putfield 22, 3) := by decide +kernel
theorem dX3_init_36 : decode cX3_init 36 = .ok (.return_, 1) := by decide +kernel
theorem dX3_survey_0 : decode cX3_survey 0 = .ok (.aload_n 0, 1) := by decide +kernel
theorem dX3_survey_1 : decode cX3_survey 1 = .ok (.aload_n 1, 1) := by decide +kernel
theorem dX3_survey_2 : decode cX3_survey 2 = .ok (.getfield 25, 3) := by decide +kernel
theorem dX3_survey_5 : decode cX3_survey 5 = .ok (.putfield 31, 3) := by decide +kernel
theorem dX3_survey_8 : decode cX3_survey 8 = .ok (.iconst 0, 1) := by decide +kernel
theorem dX3_survey_9 : decode cX3_survey 9 = .ok (.istore 4, 2) := by decide +kernel
theorem dX3_survey_11 : decode cX3_survey 11 = .ok (.iload 4, 2) := by decide +kernel
theorem dX3_survey_13 : decode cX3_survey 13 = .ok (.aload_n 0, 1) := by decide +kernel
theorem dX3_survey_14 : decode cX3_survey 14 = .ok (.getfield 31, 3) := by decide +kernel
theorem dX3_survey_17 : decode cX3_survey 17 = .ok (.if_icmp .ge 34, 3) := by decide +kernel
theorem dX3_survey_20 : decode cX3_survey 20 = .ok (.aload_n 0, 1) := by decide +kernel
theorem dX3_survey_21 : decode cX3_survey 21 = .ok (.getfield 9, 3) := by decide +kernel
theorem dX3_survey_24 : decode cX3_survey 24 = .ok (.iload 4, 2) := by decide +kernel
theorem dX3_survey_26 : decode cX3_survey 26 = .ok (.iconst 0, 1) := by decide +kernel
theorem dX3_survey_27 : decode cX3_survey 27 = .ok (.iastore, 1) := by decide +kernel
theorem dX3_survey_28 : decode cX3_survey 28 = .ok (.aload_n 0, 1) := by decide +kernel
theorem dX3_survey_29 : decode cX3_survey 29 = .ok (.getfield 15, 3) := by decide +kernel
theorem dX3_survey_32 : decode cX3_survey 32 = .ok (.iload 4, 2) := by decide +kernel
theorem dX3_survey_34 : decode cX3_survey 34 = .ok (.aload_n 1, 1) := by decide +kernel
theorem dX3_survey_35 : decode cX3_survey 35 = .ok (.getfield 32, 3) := by decide +kernel
theorem dX3_survey_38 : decode cX3_survey 38 = .ok (.iload 4, 2) := by decide +kernel
theorem dX3_survey_40 : decode cX3_survey 40 = .ok (.aaload, 1) := by decide +kernel
theorem dX3_survey_41 : decode cX3_survey 41 = .ok (.invokevirtual 36, 3) := by decide +kernel
theorem dX3_survey_44 : decode cX3_survey 44 = .ok (.bastore, 1) := by decide +kernel
theorem dX3_survey_45 : decode cX3_survey 45 = .ok (.iinc 4 1, 3) := by decide +kernel
theorem dX3_survey_48 : decode cX3_survey 48 = .ok (.goto (-37), 3) := by decide +kernel
theorem dX3_survey_51 : decode cX3_survey 51 = .ok (.iconst 0, 1) := by decide +kernel
theorem dX3_survey_52 : decode cX3_survey 52 = .ok (.istore 4, 2) := by decide +kernel
theorem dX3_survey_54 : decode cX3_survey 54 = .ok (.iload 4, 2) := by decide +kernel
theorem dX3_survey_56 : decode cX3_survey 56 = .ok (.aload_n 1, 1) := by decide +kernel
theorem dX3_survey_57 : decode cX3_survey 57 = .ok (.getfield 42, 3) := by decide +kernel
theorem dX3_survey_60 : decode cX3_survey 60 = .ok (.invokevirtual 46, 3) := by decide +kernel
theorem dX3_survey_63 : decode cX3_survey 63 = .ok (.if_icmp .ge 59, 3) := by decide +kernel
theorem dX3_survey_66 : decode cX3_survey 66 = .ok (.aload_n 2, 1) := by decide +kernel
theorem dX3_survey_67 : decode cX3_survey 67 = .ok (.aload_n 1, 1) := by decide +kernel
theorem dX3_survey_68 : decode cX3_survey 68 = .ok (.getfield 42, 3) := by decide +kernel
theorem dX3_survey_71 : decode cX3_survey 71 = .ok (.iload 4, 2) := by decide +kernel
theorem dX3_survey_73 : decode cX3_survey 73 = .ok (.iload_n 3, 1) := by decide +kernel
theorem dX3_survey_74 : decode cX3_survey 74 = .ok (.invokevirtual 52, 3) := by decide +kernel
theorem dX3_survey_77 : decode cX3_survey 77 = .ok (.iconst 0, 1) := by decide +kernel
theorem dX3_survey_78 : decode cX3_survey 78 = .ok (.istore 5, 2) := by decide +kernel
theorem dX3_survey_80 : decode cX3_survey 80 = .ok (.iload 5, 2) := by decide +kernel
theorem dX3_survey_82 : decode cX3_survey 82 = .ok (.iconst 2, 1) := by decide +kernel
theorem dX3_survey_83 : decode cX3_survey 83 = .ok (.if_icmp .gt 33, 3) := by decide +kernel
theorem dX3_survey_86 : decode cX3_survey 86 = .ok (.aload_n 0, 1) := by decide +kernel
theorem dX3_survey_87 : decode cX3_survey 87 = .ok (.aload_n 1, 1) := by decide +kernel
theorem dX3_survey_88 : decode cX3_survey 88 = .ok (.iload 4, 2) := by decide +kernel
theorem dX3_survey_90 : decode cX3_survey 90 = .ok (.iload 5, 2) := by decide +kernel
theorem dX3_survey_92 : decode cX3_survey 92 = .ok (.aload_n 2, 1) := by decide +kernel
theorem dX3_survey_93 : decode cX3_survey 93 = .ok (.iload 5, 2) := by decide +kernel
theorem dX3_survey_95 : decode cX3_survey 95 = .ok (.iload_n 3, 1) := by decide +kernel
theorem dX3_survey_96 : decode cX3_survey 96 = .ok (.invokevirtual 58, 3) := by decide +kernel
theorem dX3_survey_99 : decode cX3_survey 99 = .ok (.aload_n 2, 1) := by decide +kernel
theorem dX3_survey_100 : decode cX3_survey 100 = .ok (.iload 5, 2) := by decide +kernel
theorem dX3_survey_102 : decode cX3_survey 102 = .ok (.iconst 0, 1) := by decide +kernel
theorem dX3_survey_103 : decode cX3_survey 103 = .ok (.iload_n 3, 1) := by decide +kernel
theorem dX3_survey_104 : decode cX3_survey 104 = .ok (.invokevirtual 62, 3) := by decide +kernel
theorem dX3_survey_107 : decode cX3_survey 107 = .ok (.invokevirtual 66, 3) := by decide +kernel
theorem dX3_survey_110 : decode cX3_survey 110 = .ok (.iinc 5 1, 3) := by decide +kernel
theorem dX3_survey_113 : decode cX3_survey 113 = .ok (.goto (-33), 3) := by decide +kernel
theorem dX3_survey_116 : decode cX3_survey 116 = .ok (.iinc 4 1, 3) := by decide +kernel
theorem dX3_survey_119 : decode cX3_survey 119 = .ok (.goto (-65), 3) := by decide +kernel
theorem dX3_survey_122 : decode cX3_survey 122 = .ok (.aload_n 0, 1) := by decide +kernel
theorem dX3_survey_123 : decode cX3_survey 123 = .ok (.invokevirtual 70, 3) := by decide +kernel
theorem dX3_survey_126 : decode cX3_survey 126 = .ok (.return_, 1) := by decide +kernel
theorem dX3_surveyWrap_0 : decode cX3_surveyWrap 0 = .ok (.iconst 0, 1) := by decide +kernel
theorem dX3_surveyWrap_1 : decode cX3_surveyWrap 1 = .ok (.istore 6, 2) := by decide +kernel
theorem dX3_surveyWrap_3 : decode cX3_surveyWrap 3 = .ok (.iload 6, 2) := by decide +kernel
theorem dX3_surveyWrap_5 : decode cX3_surveyWrap 5 = .ok (.aload_n 0, 1) := by decide +kernel
theorem dX3_surveyWrap_6 : decode cX3_surveyWrap 6 = .ok (.getfield 31, 3) := by decide +kernel
theorem dX3_surveyWrap_9 : decode cX3_surveyWrap 9 = .ok (.if_icmp .ge 53, 3) := by decide +kernel
theorem dX3_surveyWrap_12 : decode cX3_surveyWrap 12 = .ok (.aload_n 1, 1) := by decide +kernel
theorem dX3_surveyWrap_13 : decode cX3_surveyWrap 13 = .ok (.getfield 32, 3) := by decide +kernel
theorem dX3_surveyWrap_16 : decode cX3_surveyWrap 16 = .ok (.iload 6, 2) := by decide +kernel
theorem dX3_surveyWrap_18 : decode cX3_surveyWrap 18 = .ok (.aaload, 1) := by decide +kernel
theorem dX3_surveyWrap_19 : decode cX3_surveyWrap 19 = .ok (.astore 7, 2) := by decide +kernel
theorem dX3_surveyWrap_21 : decode cX3_surveyWrap 21 = .ok (.aload 7, 2) := by decide +kernel
theorem dX3_surveyWrap_23 : decode cX3_surveyWrap 23 = .ok (.getfield 73, 3) := by decide +kernel
theorem dX3_surveyWrap_26 : decode cX3_surveyWrap 26 = .ok (.iload_n 3, 1) := by decide +kernel
theorem dX3_surveyWrap_27 : decode cX3_surveyWrap 27 = .ok (.if_icmp .ne 29, 3) := by decide +kernel
theorem dX3_surveyWrap_30 : decode cX3_surveyWrap 30 = .ok (.aload 7, 2) := by decide +kernel
theorem dX3_surveyWrap_32 : decode cX3_surveyWrap 32 = .ok (.iload 4, 2) := by decide +kernel
theorem dX3_surveyWrap_34 : decode cX3_surveyWrap 34 = .ok (.iload 5, 2) := by decide +kernel
theorem dX3_surveyWrap_36 : decode cX3_surveyWrap 36 = .ok (.iconst 0, 1) := by decide +kernel
theorem dX3_surveyWrap_37 : decode cX3_surveyWrap 37 = .ok (.invokevirtual 76, 3) := by decide +kernel
theorem dX3_surveyWrap_40 : decode cX3_surveyWrap 40 = .ok (.ifCond .eq 16, 3) := by decide +kernel
theorem dX3_surveyWrap_43 : decode cX3_surveyWrap 43 = .ok (.aload_n 0, 1) := by decide +kernel
theorem dX3_surveyWrap_44 : decode cX3_surveyWrap 44 = .ok (.getfield 9, 3) := by decide +kernel
theorem dX3_surveyWrap_47 : decode cX3_surveyWrap 47 = .ok (.iload 6, 2) := by decide +kernel
theorem dX3_surveyWrap_49 : decode cX3_surveyWrap 49 = .ok (.dup2, 1) := by decide +kernel
theorem dX3_surveyWrap_50 : decode cX3_surveyWrap 50 = .ok (.iaload, 1) := by decide +kernel
theorem dX3_surveyWrap_51 : decode cX3_surveyWrap 51 = .ok (.iconst 1, 1) := by decide +kernel
theorem dX3_surveyWrap_52 : decode cX3_surveyWrap 52 = .ok (.iload_n 2, 1) := by decide +kernel
theorem dX3_surveyWrap_53 : decode cX3_surveyWrap 53 = .ok (.ishl, 1) := by decide +kernel
theorem dX3_surveyWrap_54 : decode cX3_surveyWrap 54 = .ok (.ior, 1) := by decide +kernel
theorem dX3_surveyWrap_55 : decode cX3_surveyWrap 55 = .ok (.iastore, 1) := by decide +kernel
theorem dX3_surveyWrap_56 : decode cX3_surveyWrap 56 = .ok (.iinc 6 1, 3) := by decide +kernel
theorem dX3_surveyWrap_59 : decode cX3_surveyWrap 59 = .ok (.goto (-56), 3) := by decide +kernel
theorem dX3_surveyWrap_62 : decode cX3_surveyWrap 62 = .ok (.return_, 1) := by decide +kernel
theorem dX3_uniteReached_0 : decode cX3_uniteReached 0 = .ok (.iconst 0, 1) := by decide +kernel
theorem dX3_uniteReached_1 : decode cX3_uniteReached 1 = .ok (.istore_n 1, 1) := by decide +kernel
theorem dX3_uniteReached_2 : decode cX3_uniteReached 2 = .ok (.iload_n 1, 1) := by decide +kernel
theorem dX3_uniteReached_3 : decode cX3_uniteReached 3 = .ok (.aload_n 0, 1) := by decide +kernel
theorem dX3_uniteReached_4 : decode cX3_uniteReached 4 = .ok (.getfield 31, 3) := by decide +kernel
theorem dX3_uniteReached_7 : decode cX3_uniteReached 7 = .ok (.if_icmp .ge 47, 3) := by decide +kernel
theorem dX3_uniteReached_10 : decode cX3_uniteReached 10 = .ok (.iconst 0, 1) := by decide +kernel
theorem dX3_uniteReached_11 : decode cX3_uniteReached 11 = .ok (.istore_n 2, 1) := by decide +kernel
theorem dX3_uniteReached_12 : decode cX3_uniteReached 12 = .ok (.iload_n 2, 1) := by decide +kernel
theorem dX3_uniteReached_13 : decode cX3_uniteReached 13 = .ok (.iconst 1, 1) := by decide +kernel
theorem dX3_uniteReached_14 : decode cX3_uniteReached 14 = .ok (.iload_n 1, 1) := by decide +kernel
theorem dX3_uniteReached_15 : decode cX3_uniteReached 15 = .ok (.ishl, 1) := by decide +kernel
theorem dX3_uniteReached_16 : decode cX3_uniteReached 16 = .ok (.if_icmp .ge 32, 3) := by decide +kernel
theorem dX3_uniteReached_19 : decode cX3_uniteReached 19 = .ok (.aload_n 0, 1) := by decide +kernel
theorem dX3_uniteReached_20 : decode cX3_uniteReached 20 = .ok (.getfield 22, 3) := by decide +kernel
theorem dX3_uniteReached_23 : decode cX3_uniteReached 23 = .ok (.iconst 1, 1) := by decide +kernel
theorem dX3_uniteReached_24 : decode cX3_uniteReached 24 = .ok (.iload_n 1, 1) := by decide +kernel
theorem dX3_uniteReached_25 : decode cX3_uniteReached 25 = .ok (.ishl, 1) := by decide +kernel
theorem dX3_uniteReached_26 : decode cX3_uniteReached 26 = .ok (.iload_n 2, 1) := by decide +kernel
theorem dX3_uniteReached_27 : decode cX3_uniteReached 27 = .ok (.ior, 1) := by decide +kernel
theorem dX3_uniteReached_28 : decode cX3_uniteReached 28 = .ok (.aload_n 0, 1) := by decide +kernel
theorem dX3_uniteReached_29 : decode cX3_uniteReached 29 = .ok (.getfield 22, 3) := by decide +kernel
theorem dX3_uniteReached_32 : decode cX3_uniteReached 32 = .ok (.iload_n 2, 1) := by decide +kernel
theorem dX3_uniteReached_33 : decode cX3_uniteReached 33 = .ok (.iaload, 1) := by decide +kernel
theorem dX3_uniteReached_34 : decode cX3_uniteReached 34 = .ok (.aload_n 0, 1) := by decide +kernel
theorem dX3_uniteReached_35 : decode cX3_uniteReached 35 = .ok (.getfield 9, 3) := by decide +kernel
theorem dX3_uniteReached_38 : decode cX3_uniteReached 38 = .ok (.iload_n 1, 1) := by decide +kernel
theorem dX3_uniteReached_39 : decode cX3_uniteReached 39 = .ok (.iaload, 1) := by decide +kernel
theorem dX3_uniteReached_40 : decode cX3_uniteReached 40 = .ok (.ior, 1) := by decide +kernel
theorem dX3_uniteReached_41 : decode cX3_uniteReached 41 = .ok (.iastore, 1) := by decide +kernel
theorem dX3_uniteReached_42 : decode cX3_uniteReached 42 = .ok (.iinc 2 1, 3) := by decide +kernel
theorem dX3_uniteReached_45 : decode cX3_uniteReached 45 = .ok (.goto (-33), 3) := by decide +kernel
theorem dX3_uniteReached_48 : decode cX3_uniteReached 48 = .ok (.iinc 1 1, 3) := by decide +kernel
theorem dX3_uniteReached_51 : decode cX3_uniteReached 51 = .ok (.goto (-49), 3) := by decide +kernel
theorem dX3_uniteReached_54 : decode cX3_uniteReached 54 = .ok (.return_, 1) := by decide +kernel
theorem dX3_mostGood_0 : decode cX3_mostGood 0 = .ok (.iconst 0, 1) := by decide +kernel
theorem dX3_mostGood_1 : decode cX3_mostGood 1 = .ok (.istore_n 3, 1) := by decide +kernel
theorem dX3_mostGood_2 : decode cX3_mostGood 2 = .ok (.iload_n 1, 1) := by decide +kernel
theorem dX3_mostGood_3 : decode cX3_mostGood 3 = .ok (.istore 4, 2) := by decide +kernel
theorem dX3_mostGood_5 : decode cX3_mostGood 5 = .ok (.iload 4, 2) := by decide +kernel
theorem dX3_mostGood_7 : decode cX3_mostGood 7 = .ok (.aload_n 0, 1) := by decide +kernel
theorem dX3_mostGood_8 : decode cX3_mostGood 8 = .ok (.getfield 31, 3) := by decide +kernel
theorem dX3_mostGood_11 : decode cX3_mostGood 11 = .ok (.if_icmp .ge 26, 3) := by decide +kernel
theorem dX3_mostGood_14 : decode cX3_mostGood 14 = .ok (.aload_n 0, 1) := by decide +kernel
theorem dX3_mostGood_15 : decode cX3_mostGood 15 = .ok (.getfield 15, 3) := by decide +kernel
theorem dX3_mostGood_18 : decode cX3_mostGood 18 = .ok (.iload 4, 2) := by decide +kernel
theorem dX3_mostGood_20 : decode cX3_mostGood 20 = .ok (.baload, 1) := by decide +kernel
theorem dX3_mostGood_21 : decode cX3_mostGood 21 = .ok (.ifCond .ne 10, 3) := by decide +kernel
theorem dX3_mostGood_24 : decode cX3_mostGood 24 = .ok (.iload_n 3, 1) := by decide +kernel
theorem dX3_mostGood_25 : decode cX3_mostGood 25 = .ok (.iconst 1, 1) := by decide +kernel
theorem dX3_mostGood_26 : decode cX3_mostGood 26 = .ok (.iload 4, 2) := by decide +kernel
theorem dX3_mostGood_28 : decode cX3_mostGood 28 = .ok (.ishl, 1) := by decide +kernel
theorem dX3_mostGood_29 : decode cX3_mostGood 29 = .ok (.ior, 1) := by decide +kernel
theorem dX3_mostGood_30 : decode cX3_mostGood 30 = .ok (.istore_n 3, 1) := by decide +kernel
theorem dX3_mostGood_31 : decode cX3_mostGood 31 = .ok (.iinc 4 1, 3) := by decide +kernel
theorem dX3_mostGood_34 : decode cX3_mostGood 34 = .ok (.goto (-29), 3) := by decide +kernel
theorem dX3_mostGood_37 : decode cX3_mostGood 37 = .ok (.iconst 0, 1) := by decide +kernel
theorem dX3_mostGood_38 : decode cX3_mostGood 38 = .ok (.istore 4, 2) := by decide +kernel
theorem dX3_mostGood_40 : decode cX3_mostGood 40 = .ok (.iconst 0, 1) := by decide +kernel
theorem dX3_mostGood_41 : decode cX3_mostGood 41 = .ok (.istore 5, 2) := by decide +kernel
theorem dX3_mostGood_43 : decode cX3_mostGood 43 = .ok (.iload 5, 2) := by decide +kernel
theorem dX3_mostGood_45 : decode cX3_mostGood 45 = .ok (.iconst 1, 1) := by decide +kernel
theorem dX3_mostGood_46 : decode cX3_mostGood 46 = .ok (.aload_n 0, 1) := by decide +kernel
theorem dX3_mostGood_47 : decode cX3_mostGood 47 = .ok (.getfield 31, 3) := by decide +kernel
theorem dX3_mostGood_50 : decode cX3_mostGood 50 = .ok (.ishl, 1) := by decide +kernel
theorem dX3_mostGood_51 : decode cX3_mostGood 51 = .ok (.if_icmp .ge 54, 3) := by decide +kernel
theorem dX3_mostGood_54 : decode cX3_mostGood 54 = .ok (.iload 5, 2) := by decide +kernel
theorem dX3_mostGood_56 : decode cX3_mostGood 56 = .ok (.iload_n 3, 1) := by decide +kernel
theorem dX3_mostGood_57 : decode cX3_mostGood 57 = .ok (.iconst (-1), 1) := by decide +kernel
theorem dX3_mostGood_58 : decode cX3_mostGood 58 = .ok (.ixor, 1) := by decide +kernel
theorem dX3_mostGood_59 : decode cX3_mostGood 59 = .ok (.iand, 1) := by decide +kernel
theorem dX3_mostGood_60 : decode cX3_mostGood 60 = .ok (.ifCond .ne 34, 3) := by decide +kernel
theorem dX3_mostGood_63 : decode cX3_mostGood 63 = .ok (.iload 5, 2) := by decide +kernel
theorem dX3_mostGood_65 : decode cX3_mostGood 65 = .ok (.invokestatic 80, 3) := by decide +kernel
theorem dX3_mostGood_68 : decode cX3_mostGood 68 = .ok (.aload_n 0, 1) := by decide +kernel
theorem dX3_mostGood_69 : decode cX3_mostGood 69 = .ok (.getfield 22, 3) := by decide +kernel
theorem dX3_mostGood_72 : decode cX3_mostGood 72 = .ok (.iload 5, 2) := by decide +kernel
theorem dX3_mostGood_74 : decode cX3_mostGood 74 = .ok (.iaload, 1) := by decide +kernel
theorem dX3_mostGood_75 : decode cX3_mostGood 75 = .ok (.iload_n 2, 1) := by decide +kernel
theorem dX3_mostGood_76 : decode cX3_mostGood 76 = .ok (.iconst (-1), 1) := by decide +kernel
theorem dX3_mostGood_77 : decode cX3_mostGood 77 = .ok (.ixor, 1) := by decide +kernel
theorem dX3_mostGood_78 : decode cX3_mostGood 78 = .ok (.iand, 1) := by decide +kernel
theorem dX3_mostGood_79 : decode cX3_mostGood 79 = .ok (.invokestatic 80, 3) := by decide +kernel
theorem dX3_mostGood_82 : decode cX3_mostGood 82 = .ok (.isub, 1) := by decide +kernel
theorem dX3_mostGood_83 : decode cX3_mostGood 83 = .ok (.istore 6, 2) := by decide +kernel
theorem dX3_mostGood_85 : decode cX3_mostGood 85 = .ok (.iload 4, 2) := by decide +kernel
theorem dX3_mostGood_87 : decode cX3_mostGood 87 = .ok (.iload 6, 2) := by decide +kernel
theorem dX3_mostGood_89 : decode cX3_mostGood 89 = .ok (.invokestatic 86, 3) := by decide +kernel
theorem dX3_mostGood_92 : decode cX3_mostGood 92 = .ok (.istore 4, 2) := by decide +kernel
theorem dX3_mostGood_94 : decode cX3_mostGood 94 = .ok (.iload 5, 2) := by decide +kernel
theorem dX3_mostGood_96 : decode cX3_mostGood 96 = .ok (.iconst 1, 1) := by decide +kernel
theorem dX3_mostGood_97 : decode cX3_mostGood 97 = .ok (.iload_n 1, 1) := by decide +kernel
theorem dX3_mostGood_98 : decode cX3_mostGood 98 = .ok (.ishl, 1) := by decide +kernel
theorem dX3_mostGood_99 : decode cX3_mostGood 99 = .ok (.iadd, 1) := by decide +kernel
theorem dX3_mostGood_100 : decode cX3_mostGood 100 = .ok (.istore 5, 2) := by decide +kernel
theorem dX3_mostGood_102 : decode cX3_mostGood 102 = .ok (.goto (-59), 3) := by decide +kernel
theorem dX3_mostGood_105 : decode cX3_mostGood 105 = .ok (.aload_n 0, 1) := by decide +kernel
theorem dX3_mostGood_106 : decode cX3_mostGood 106 = .ok (.getfield 31, 3) := by decide +kernel
theorem dX3_mostGood_109 : decode cX3_mostGood 109 = .ok (.iload_n 1, 1) := by decide +kernel
theorem dX3_mostGood_110 : decode cX3_mostGood 110 = .ok (.isub, 1) := by decide +kernel
theorem dX3_mostGood_111 : decode cX3_mostGood 111 = .ok (.iload 4, 2) := by decide +kernel
theorem dX3_mostGood_113 : decode cX3_mostGood 113 = .ok (.isub, 1) := by decide +kernel
theorem dX3_mostGood_114 : decode cX3_mostGood 114 = .ok (.ireturn, 1) := by decide +kernel
theorem dX3_choose_0 : decode cX3_choose 0 = .ok (.aload_n 0, 1) := by decide +kernel
theorem dX3_choose_1 : decode cX3_choose 1 = .ok (.iconst 0, 1) := by decide +kernel
theorem dX3_choose_2 : decode cX3_choose 2 = .ok (.iconst 0, 1) := by decide +kernel
theorem dX3_choose_3 : decode cX3_choose 3 = .ok (.invokevirtual 91, 3) := by decide +kernel
theorem dX3_choose_6 : decode cX3_choose 6 = .ok (.istore_n 2, 1) := by decide +kernel
theorem dX3_choose_7 : decode cX3_choose 7 = .ok (.iconst 0, 1) := by decide +kernel
theorem dX3_choose_8 : decode cX3_choose 8 = .ok (.istore_n 3, 1) := by decide +kernel
theorem dX3_choose_9 : decode cX3_choose 9 = .ok (.iconst 0, 1) := by decide +kernel
theorem dX3_choose_10 : decode cX3_choose 10 = .ok (.istore 4, 2) := by decide +kernel
theorem dX3_choose_12 : decode cX3_choose 12 = .ok (.iload 4, 2) := by decide +kernel
theorem dX3_choose_14 : decode cX3_choose 14 = .ok (.aload_n 0, 1) := by decide +kernel
theorem dX3_choose_15 : decode cX3_choose 15 = .ok (.getfield 31, 3) := by decide +kernel
theorem dX3_choose_18 : decode cX3_choose 18 = .ok (.if_icmp .ge 86, 3) := by decide +kernel
theorem dX3_choose_21 : decode cX3_choose 21 = .ok (.aload_n 0, 1) := by decide +kernel
theorem dX3_choose_22 : decode cX3_choose 22 = .ok (.getfield 19, 3) := by decide +kernel
theorem dX3_choose_25 : decode cX3_choose 25 = .ok (.iload 4, 2) := by decide +kernel
theorem dX3_choose_27 : decode cX3_choose 27 = .ok (.aload_n 0, 1) := by decide +kernel
theorem dX3_choose_28 : decode cX3_choose 28 = .ok (.iload 4, 2) := by decide +kernel
theorem dX3_choose_30 : decode cX3_choose 30 = .ok (.iload_n 3, 1) := by decide +kernel
theorem dX3_choose_31 : decode cX3_choose 31 = .ok (.iload_n 2, 1) := by decide +kernel
theorem dX3_choose_32 : decode cX3_choose 32 = .ok (.iload_n 1, 1) := by decide +kernel
theorem dX3_choose_33 : decode cX3_choose 33 = .ok (.invokevirtual 94, 3) := by decide +kernel
theorem dX3_choose_36 : decode cX3_choose 36 = .ok (.iastore, 1) := by decide +kernel
theorem dX3_choose_37 : decode cX3_choose 37 = .ok (.aload_n 0, 1) := by decide +kernel
theorem dX3_choose_38 : decode cX3_choose 38 = .ok (.getfield 19, 3) := by decide +kernel
theorem dX3_choose_41 : decode cX3_choose 41 = .ok (.iload 4, 2) := by decide +kernel
theorem dX3_choose_43 : decode cX3_choose 43 = .ok (.iaload, 1) := by decide +kernel
theorem dX3_choose_44 : decode cX3_choose 44 = .ok (.bipush (-4), 2) := by decide +kernel
theorem dX3_choose_46 : decode cX3_choose 46 = .ok (.if_icmp .ne 24, 3) := by decide +kernel
theorem dX3_choose_49 : decode cX3_choose 49 = .ok (.iload_n 2, 1) := by decide +kernel
theorem dX3_choose_50 : decode cX3_choose 50 = .ok (.aload_n 0, 1) := by decide +kernel
theorem dX3_choose_51 : decode cX3_choose 51 = .ok (.getfield 15, 3) := by decide +kernel
theorem dX3_choose_54 : decode cX3_choose 54 = .ok (.iload 4, 2) := by decide +kernel
theorem dX3_choose_56 : decode cX3_choose 56 = .ok (.baload, 1) := by decide +kernel
theorem dX3_choose_57 : decode cX3_choose 57 = .ok (.ifCond .eq 7, 3) := by decide +kernel
theorem dX3_choose_60 : decode cX3_choose 60 = .ok (.iconst 1, 1) := by decide +kernel
theorem dX3_choose_61 : decode cX3_choose 61 = .ok (.goto 4, 3) := by decide +kernel
theorem dX3_choose_64 : decode cX3_choose 64 = .ok (.iconst 0, 1) := by decide +kernel
theorem dX3_choose_65 : decode cX3_choose 65 = .ok (.isub, 1) := by decide +kernel
theorem dX3_choose_66 : decode cX3_choose 66 = .ok (.istore_n 2, 1) := by decide +kernel
theorem dX3_choose_67 : decode cX3_choose 67 = .ok (.goto 31, 3) := by decide +kernel
theorem dX3_choose_70 : decode cX3_choose 70 = .ok (.iload_n 2, 1) := by decide +kernel
theorem dX3_choose_71 : decode cX3_choose 71 = .ok (.aload_n 0, 1) := by decide +kernel
theorem dX3_choose_72 : decode cX3_choose 72 = .ok (.iload 4, 2) := by decide +kernel
theorem dX3_choose_74 : decode cX3_choose 74 = .ok (.aload_n 0, 1) := by decide +kernel
theorem dX3_choose_75 : decode cX3_choose 75 = .ok (.getfield 19, 3) := by decide +kernel
theorem dX3_choose_78 : decode cX3_choose 78 = .ok (.iload 4, 2) := by decide +kernel
theorem dX3_choose_80 : decode cX3_choose 80 = .ok (.iaload, 1) := by decide +kernel
theorem dX3_choose_81 : decode cX3_choose 81 = .ok (.invokevirtual 98, 3) := by decide +kernel
theorem dX3_choose_84 : decode cX3_choose 84 = .ok (.isub, 1) := by decide +kernel
theorem dX3_choose_85 : decode cX3_choose 85 = .ok (.istore_n 2, 1) := by decide +kernel
theorem dX3_choose_86 : decode cX3_choose 86 = .ok (.iload_n 3, 1) := by decide +kernel
theorem dX3_choose_87 : decode cX3_choose 87 = .ok (.iconst 1, 1) := by decide +kernel
theorem dX3_choose_88 : decode cX3_choose 88 = .ok (.aload_n 0, 1) := by decide +kernel
theorem dX3_choose_89 : decode cX3_choose 89 = .ok (.getfield 19, 3) := by decide +kernel
theorem dX3_choose_92 : decode cX3_choose 92 = .ok (.iload 4, 2) := by decide +kernel
theorem dX3_choose_94 : decode cX3_choose 94 = .ok (.iaload, 1) := by decide +kernel
theorem dX3_choose_95 : decode cX3_choose 95 = .ok (.ishl, 1) := by decide +kernel
theorem dX3_choose_96 : decode cX3_choose 96 = .ok (.ior, 1) := by decide +kernel
theorem dX3_choose_97 : decode cX3_choose 97 = .ok (.istore_n 3, 1) := by decide +kernel
theorem dX3_choose_98 : decode cX3_choose 98 = .ok (.iinc 4 1, 3) := by decide +kernel
theorem dX3_choose_101 : decode cX3_choose 101 = .ok (.goto (-89), 3) := by decide +kernel
theorem dX3_choose_104 : decode cX3_choose 104 = .ok (.return_, 1) := by decide +kernel
theorem dX3_firstPlace_0 : decode cX3_firstPlace 0 = .ok (.iconst 0, 1) := by decide +kernel
theorem dX3_firstPlace_1 : decode cX3_firstPlace 1 = .ok (.istore 5, 2) := by decide +kernel
theorem dX3_firstPlace_3 : decode cX3_firstPlace 3 = .ok (.iload 5, 2) := by decide +kernel
theorem dX3_firstPlace_5 : decode cX3_firstPlace 5 = .ok (.iload 4, 2) := by decide +kernel
theorem dX3_firstPlace_7 : decode cX3_firstPlace 7 = .ok (.if_icmp .ge 58, 3) := by decide +kernel
theorem dX3_firstPlace_10 : decode cX3_firstPlace 10 = .ok (.iload_n 2, 1) := by decide +kernel
theorem dX3_firstPlace_11 : decode cX3_firstPlace 11 = .ok (.iconst 1, 1) := by decide +kernel
theorem dX3_firstPlace_12 : decode cX3_firstPlace 12 = .ok (.iload 5, 2) := by decide +kernel
theorem dX3_firstPlace_14 : decode cX3_firstPlace 14 = .ok (.ishl, 1) := by decide +kernel
theorem dX3_firstPlace_15 : decode cX3_firstPlace 15 = .ok (.iand, 1) := by decide +kernel
theorem dX3_firstPlace_16 : decode cX3_firstPlace 16 = .ok (.ifCond .ne 7, 3) := by decide +kernel
theorem dX3_firstPlace_19 : decode cX3_firstPlace 19 = .ok (.iconst 1, 1) := by decide +kernel
theorem dX3_firstPlace_20 : decode cX3_firstPlace 20 = .ok (.goto 4, 3) := by decide +kernel
theorem dX3_firstPlace_23 : decode cX3_firstPlace 23 = .ok (.iconst 0, 1) := by decide +kernel
theorem dX3_firstPlace_24 : decode cX3_firstPlace 24 = .ok (.istore 6, 2) := by decide +kernel
theorem dX3_firstPlace_26 : decode cX3_firstPlace 26 = .ok (.iload 6, 2) := by decide +kernel
theorem dX3_firstPlace_28 : decode cX3_firstPlace 28 = .ok (.ifCond .eq 31, 3) := by decide +kernel
theorem dX3_firstPlace_31 : decode cX3_firstPlace 31 = .ok (.aload_n 0, 1) := by decide +kernel
theorem dX3_firstPlace_32 : decode cX3_firstPlace 32 = .ok (.iload_n 1, 1) := by decide +kernel
theorem dX3_firstPlace_33 : decode cX3_firstPlace 33 = .ok (.iload 5, 2) := by decide +kernel
theorem dX3_firstPlace_35 : decode cX3_firstPlace 35 = .ok (.invokevirtual 98, 3) := by decide +kernel
theorem dX3_firstPlace_38 : decode cX3_firstPlace 38 = .ok (.aload_n 0, 1) := by decide +kernel
theorem dX3_firstPlace_39 : decode cX3_firstPlace 39 = .ok (.iload_n 1, 1) := by decide +kernel
theorem dX3_firstPlace_40 : decode cX3_firstPlace 40 = .ok (.iconst 1, 1) := by decide +kernel
theorem dX3_firstPlace_41 : decode cX3_firstPlace 41 = .ok (.iadd, 1) := by decide +kernel
theorem dX3_firstPlace_42 : decode cX3_firstPlace 42 = .ok (.iload_n 2, 1) := by decide +kernel
theorem dX3_firstPlace_43 : decode cX3_firstPlace 43 = .ok (.iconst 1, 1) := by decide +kernel
theorem dX3_firstPlace_44 : decode cX3_firstPlace 44 = .ok (.iload 5, 2) := by decide +kernel
theorem dX3_firstPlace_46 : decode cX3_firstPlace 46 = .ok (.ishl, 1) := by decide +kernel
theorem dX3_firstPlace_47 : decode cX3_firstPlace 47 = .ok (.ior, 1) := by decide +kernel
theorem dX3_firstPlace_48 : decode cX3_firstPlace 48 = .ok (.invokevirtual 91, 3) := by decide +kernel
theorem dX3_firstPlace_51 : decode cX3_firstPlace 51 = .ok (.iadd, 1) := by decide +kernel
theorem dX3_firstPlace_52 : decode cX3_firstPlace 52 = .ok (.iload_n 3, 1) := by decide +kernel
theorem dX3_firstPlace_53 : decode cX3_firstPlace 53 = .ok (.if_icmp .ne 6, 3) := by decide +kernel
theorem dX3_firstPlace_56 : decode cX3_firstPlace 56 = .ok (.iload 5, 2) := by decide +kernel
theorem dX3_firstPlace_58 : decode cX3_firstPlace 58 = .ok (.ireturn, 1) := by decide +kernel
theorem dX3_firstPlace_59 : decode cX3_firstPlace 59 = .ok (.iinc 5 1, 3) := by decide +kernel
theorem dX3_firstPlace_62 : decode cX3_firstPlace 62 = .ok (.goto (-59), 3) := by decide +kernel
theorem dX3_firstPlace_65 : decode cX3_firstPlace 65 = .ok (.bipush (-4), 2) := by decide +kernel
theorem dX3_firstPlace_67 : decode cX3_firstPlace 67 = .ok (.ireturn, 1) := by decide +kernel
theorem dX3_goodIn_0 : decode cX3_goodIn 0 = .ok (.aload_n 0, 1) := by decide +kernel
theorem dX3_goodIn_1 : decode cX3_goodIn 1 = .ok (.getfield 9, 3) := by decide +kernel
theorem dX3_goodIn_4 : decode cX3_goodIn 4 = .ok (.iload_n 1, 1) := by decide +kernel
theorem dX3_goodIn_5 : decode cX3_goodIn 5 = .ok (.iaload, 1) := by decide +kernel
theorem dX3_goodIn_6 : decode cX3_goodIn 6 = .ok (.iload_n 2, 1) := by decide +kernel
theorem dX3_goodIn_7 : decode cX3_goodIn 7 = .ok (.ishr, 1) := by decide +kernel
theorem dX3_goodIn_8 : decode cX3_goodIn 8 = .ok (.iconst 1, 1) := by decide +kernel
theorem dX3_goodIn_9 : decode cX3_goodIn 9 = .ok (.iand, 1) := by decide +kernel
theorem dX3_goodIn_10 : decode cX3_goodIn 10 = .ok (.ireturn, 1) := by decide +kernel
theorem dX4_init_0 : decode cX4_init 0 = .ok (.aload_n 0, 1) := by decide +kernel
theorem dX4_init_1 : decode cX4_init 1 = .ok (.invokespecial 3, 3) := by decide +kernel
theorem dX4_init_4 : decode cX4_init 4 = .ok (.aload_n 0, 1) := by decide +kernel
theorem dX4_init_5 : decode cX4_init 5 = .ok (.bipush 6, 2) := by decide +kernel
theorem dX4_init_7 : decode cX4_init 7 = .ok (.newarray .int, 2) := by decide +kernel
theorem dX4_init_9 : decode cX4_init 9 = .ok (.putfield 9, 3) := by decide +kernel
theorem dX4_init_12 : decode cX4_init 12 = .ok (.return_, 1) := by decide +kernel
theorem dX4_weight_0 : decode cX4_weight 0 = .ok (.aload_n 1, 1) := by decide +kernel
theorem dX4_weight_1 : decode cX4_weight 1 = .ok (.getfield 15, 3) := by decide +kernel
theorem dX4_weight_4 : decode cX4_weight 4 = .ok (.iconst 1, 1) := by decide +kernel
theorem dX4_weight_5 : decode cX4_weight 5 = .ok (.iload_n 3, 1) := by decide +kernel
theorem dX4_weight_6 : decode cX4_weight 6 = .ok (.ishl, 1) := by decide +kernel
theorem dX4_weight_7 : decode cX4_weight 7 = .ok (.iand, 1) := by decide +kernel
theorem dX4_weight_8 : decode cX4_weight 8 = .ok (.ifCond .eq 5, 3) := by decide +kernel
theorem dX4_weight_11 : decode cX4_weight 11 = .ok (.iconst 0, 1) := by decide +kernel
theorem dX4_weight_12 : decode cX4_weight 12 = .ok (.ireturn, 1) := by decide +kernel
theorem dX4_weight_13 : decode cX4_weight 13 = .ok (.iload_n 3, 1) := by decide +kernel
theorem dX4_weight_14 : decode cX4_weight 14 = .ok (.iconst 3, 1) := by decide +kernel
theorem dX4_weight_15 : decode cX4_weight 15 = .ok (.idiv, 1) := by decide +kernel
theorem dX4_weight_16 : decode cX4_weight 16 = .ok (.iload_n 2, 1) := by decide +kernel
theorem dX4_weight_17 : decode cX4_weight 17 = .ok (.isub, 1) := by decide +kernel
theorem dX4_weight_18 : decode cX4_weight 18 = .ok (.invokestatic 21, 3) := by decide +kernel
theorem dX4_weight_21 : decode cX4_weight 21 = .ok (.istore 4, 2) := by decide +kernel
theorem dX4_weight_23 : decode cX4_weight 23 = .ok (.iload 4, 2) := by decide +kernel
theorem dX4_weight_25 : decode cX4_weight 25 = .ok (.iconst 1, 1) := by decide +kernel
theorem dX4_weight_26 : decode cX4_weight 26 = .ok (.if_icmp .le 7, 3) := by decide +kernel
theorem dX4_weight_29 : decode cX4_weight 29 = .ok (.iconst 0, 1) := by decide +kernel
theorem dX4_weight_30 : decode cX4_weight 30 = .ok (.goto 7, 3) := by decide +kernel
theorem dX4_weight_33 : decode cX4_weight 33 = .ok (.iconst 2, 1) := by decide +kernel
theorem dX4_weight_34 : decode cX4_weight 34 = .ok (.iload 4, 2) := by decide +kernel
theorem dX4_weight_36 : decode cX4_weight 36 = .ok (.isub, 1) := by decide +kernel
theorem dX4_weight_37 : decode cX4_weight 37 = .ok (.ireturn, 1) := by decide +kernel
theorem dX4_allWeights_0 : decode cX4_allWeights 0 = .ok (.iconst 0, 1) := by decide +kernel
theorem dX4_allWeights_1 : decode cX4_allWeights 1 = .ok (.istore_n 3, 1) := by decide +kernel
theorem dX4_allWeights_2 : decode cX4_allWeights 2 = .ok (.iconst 0, 1) := by decide +kernel
theorem dX4_allWeights_3 : decode cX4_allWeights 3 = .ok (.istore 4, 2) := by decide +kernel
theorem dX4_allWeights_5 : decode cX4_allWeights 5 = .ok (.iload 4, 2) := by decide +kernel
theorem dX4_allWeights_7 : decode cX4_allWeights 7 = .ok (.aload_n 1, 1) := by decide +kernel
theorem dX4_allWeights_8 : decode cX4_allWeights 8 = .ok (.getfield 27, 3) := by decide +kernel
theorem dX4_allWeights_11 : decode cX4_allWeights 11 = .ok (.invokevirtual 31, 3) := by decide +kernel
theorem dX4_allWeights_14 : decode cX4_allWeights 14 = .ok (.if_icmp .ge 20, 3) := by decide +kernel
theorem dX4_allWeights_17 : decode cX4_allWeights 17 = .ok (.iload_n 3, 1) := by decide +kernel
theorem dX4_allWeights_18 : decode cX4_allWeights 18 = .ok (.aload_n 0, 1) := by decide +kernel
theorem dX4_allWeights_19 : decode cX4_allWeights 19 = .ok (.aload_n 1, 1) := by decide +kernel
theorem dX4_allWeights_20 : decode cX4_allWeights 20 = .ok (.iload_n 2, 1) := by decide +kernel
theorem dX4_allWeights_21 : decode cX4_allWeights 21 = .ok (.iload 4, 2) := by decide +kernel
theorem dX4_allWeights_23 : decode cX4_allWeights 23 = .ok (.invokevirtual 37, 3) := by decide +kernel
theorem dX4_allWeights_26 : decode cX4_allWeights 26 = .ok (.iadd, 1) := by decide +kernel
theorem dX4_allWeights_27 : decode cX4_allWeights 27 = .ok (.istore_n 3, 1) := by decide +kernel
theorem dX4_allWeights_28 : decode cX4_allWeights 28 = .ok (.iinc 4 1, 3) := by decide +kernel
theorem dX4_allWeights_31 : decode cX4_allWeights 31 = .ok (.goto (-26), 3) := by decide +kernel
theorem dX4_allWeights_34 : decode cX4_allWeights 34 = .ok (.iload_n 3, 1) := by decide +kernel
theorem dX4_allWeights_35 : decode cX4_allWeights 35 = .ok (.ireturn, 1) := by decide +kernel
theorem dX4_searchFullest_0 : decode cX4_searchFullest 0 = .ok (.iconst 0, 1) := by decide +kernel
theorem dX4_searchFullest_1 : decode cX4_searchFullest 1 = .ok (.istore_n 2, 1) := by decide +kernel
theorem dX4_searchFullest_2 : decode cX4_searchFullest 2 = .ok (.iload_n 2, 1) := by decide +kernel
theorem dX4_searchFullest_3 : decode cX4_searchFullest 3 = .ok (.aload_n 1, 1) := by decide +kernel
theorem dX4_searchFullest_4 : decode cX4_searchFullest 4 = .ok (.getfield 41, 3) := by decide +kernel
theorem dX4_searchFullest_7 : decode cX4_searchFullest 7 = .ok (.if_icmp .ge 41, 3) := by decide +kernel
theorem dX4_searchFullest_10 : decode cX4_searchFullest 10 = .ok (.aload_n 1, 1) := by decide +kernel
theorem dX4_searchFullest_11 : decode cX4_searchFullest 11 = .ok (.getfield 44, 3) := by decide +kernel
theorem dX4_searchFullest_14 : decode cX4_searchFullest 14 = .ok (.iload_n 2, 1) := by decide +kernel
theorem dX4_searchFullest_15 : decode cX4_searchFullest 15 = .ok (.aaload, 1) := by decide +kernel
theorem dX4_searchFullest_16 : decode cX4_searchFullest 16 = .ok (.getfield 48, 3) := by decide +kernel
theorem dX4_searchFullest_19 : decode cX4_searchFullest 19 = .ok (.istore_n 3, 1) := by decide +kernel
theorem dX4_searchFullest_20 : decode cX4_searchFullest 20 = .ok (.aload_n 0, 1) := by decide +kernel
theorem dX4_searchFullest_21 : decode cX4_searchFullest 21 = .ok (.getfield 9, 3) := by decide +kernel
theorem dX4_searchFullest_24 : decode cX4_searchFullest 24 = .ok (.iload_n 2, 1) := by decide +kernel
theorem dX4_searchFullest_25 : decode cX4_searchFullest 25 = .ok (.iload_n 3, 1) := by decide +kernel
theorem dX4_searchFullest_26 : decode cX4_searchFullest 26 = .ok (.bipush (-4), 2) := by decide +kernel
theorem dX4_searchFullest_28 : decode cX4_searchFullest 28 = .ok (.if_icmp .ne 7, 3) := by decide +kernel
theorem dX4_searchFullest_31 : decode cX4_searchFullest 31 = .ok (.iconst 0, 1) := by decide +kernel
theorem dX4_searchFullest_32 : decode cX4_searchFullest 32 = .ok (.goto 9, 3) := by decide +kernel
theorem dX4_searchFullest_35 : decode cX4_searchFullest 35 = .ok (.aload_n 0, 1) := by decide +kernel
theorem dX4_searchFullest_36 : decode cX4_searchFullest 36 = .ok (.aload_n 1, 1) := by decide +kernel
theorem dX4_searchFullest_37 : decode cX4_searchFullest 37 = .ok (.iload_n 3, 1) := by decide +kernel
theorem dX4_searchFullest_38 : decode cX4_searchFullest 38 = .ok (.invokevirtual 53, 3) := by decide +kernel
theorem dX4_searchFullest_41 : decode cX4_searchFullest 41 = .ok (.iastore, 1) := by decide +kernel
theorem dX4_searchFullest_42 : decode cX4_searchFullest 42 = .ok (.iinc 2 1, 3) := by decide +kernel
theorem dX4_searchFullest_45 : decode cX4_searchFullest 45 = .ok (.goto (-43), 3) := by decide +kernel
theorem dX4_searchFullest_48 : decode cX4_searchFullest 48 = .ok (.aload_n 0, 1) := by decide +kernel
theorem dX4_searchFullest_49 : decode cX4_searchFullest 49 = .ok (.bipush (-4), 2) := by decide +kernel
theorem dX4_searchFullest_51 : decode cX4_searchFullest 51 = .ok (.putfield 57, 3) := by decide +kernel
theorem dX4_searchFullest_54 : decode cX4_searchFullest 54 = .ok (.aload_n 0, 1) := by decide +kernel
theorem dX4_searchFullest_55 : decode cX4_searchFullest 55 = .ok (.iconst 0, 1) := by decide +kernel
theorem dX4_searchFullest_56 : decode cX4_searchFullest 56 = .ok (.putfield 60, 3) := by decide +kernel
theorem dX4_searchFullest_59 : decode cX4_searchFullest 59 = .ok (.iconst 0, 1) := by decide +kernel
theorem dX4_searchFullest_60 : decode cX4_searchFullest 60 = .ok (.istore_n 2, 1) := by decide +kernel
theorem dX4_searchFullest_61 : decode cX4_searchFullest 61 = .ok (.iload_n 2, 1) := by decide +kernel
theorem dX4_searchFullest_62 : decode cX4_searchFullest 62 = .ok (.aload_n 1, 1) := by decide +kernel
theorem dX4_searchFullest_63 : decode cX4_searchFullest 63 = .ok (.getfield 27, 3) := by decide +kernel
theorem dX4_searchFullest_66 : decode cX4_searchFullest 66 = .ok (.invokevirtual 31, 3) := by decide +kernel
theorem dX4_searchFullest_69 : decode cX4_searchFullest 69 = .ok (.if_icmp .ge 34, 3) := by decide +kernel
theorem dX4_searchFullest_72 : decode cX4_searchFullest 72 = .ok (.aload_n 0, 1) := by decide +kernel
theorem dX4_searchFullest_73 : decode cX4_searchFullest 73 = .ok (.aload_n 1, 1) := by decide +kernel
theorem dX4_searchFullest_74 : decode cX4_searchFullest 74 = .ok (.iload_n 2, 1) := by decide +kernel
theorem dX4_searchFullest_75 : decode cX4_searchFullest 75 = .ok (.invokevirtual 63, 3) := by decide +kernel
theorem dX4_searchFullest_78 : decode cX4_searchFullest 78 = .ok (.istore_n 3, 1) := by decide +kernel
theorem dX4_searchFullest_79 : decode cX4_searchFullest 79 = .ok (.iload_n 3, 1) := by decide +kernel
theorem dX4_searchFullest_80 : decode cX4_searchFullest 80 = .ok (.aload_n 0, 1) := by decide +kernel
theorem dX4_searchFullest_81 : decode cX4_searchFullest 81 = .ok (.getfield 60, 3) := by decide +kernel
theorem dX4_searchFullest_84 : decode cX4_searchFullest 84 = .ok (.if_icmp .le 13, 3) := by decide +kernel
theorem dX4_searchFullest_87 : decode cX4_searchFullest 87 = .ok (.aload_n 0, 1) := by decide +kernel
theorem dX4_searchFullest_88 : decode cX4_searchFullest 88 = .ok (.iload_n 3, 1) := by decide +kernel
theorem dX4_searchFullest_89 : decode cX4_searchFullest 89 = .ok (.putfield 60, 3) := by decide +kernel
theorem dX4_searchFullest_92 : decode cX4_searchFullest 92 = .ok (.aload_n 0, 1) := by decide +kernel
theorem dX4_searchFullest_93 : decode cX4_searchFullest 93 = .ok (.iload_n 2, 1) := by decide +kernel
theorem dX4_searchFullest_94 : decode cX4_searchFullest 94 = .ok (.putfield 57, 3) := by decide +kernel
theorem dX4_searchFullest_97 : decode cX4_searchFullest 97 = .ok (.iinc 2 1, 3) := by decide +kernel
theorem dX4_searchFullest_100 : decode cX4_searchFullest 100 = .ok (.goto (-39), 3) := by decide +kernel
theorem dX4_searchFullest_103 : decode cX4_searchFullest 103 = .ok (.return_, 1) := by decide +kernel
theorem dX4_meanIn_0 : decode cX4_meanIn 0 = .ok (.iconst 0, 1) := by decide +kernel
theorem dX4_meanIn_1 : decode cX4_meanIn 1 = .ok (.istore_n 3, 1) := by decide +kernel
theorem dX4_meanIn_2 : decode cX4_meanIn 2 = .ok (.iconst 0, 1) := by decide +kernel
theorem dX4_meanIn_3 : decode cX4_meanIn 3 = .ok (.istore 4, 2) := by decide +kernel
theorem dX4_meanIn_5 : decode cX4_meanIn 5 = .ok (.iload 4, 2) := by decide +kernel
theorem dX4_meanIn_7 : decode cX4_meanIn 7 = .ok (.aload_n 1, 1) := by decide +kernel
theorem dX4_meanIn_8 : decode cX4_meanIn 8 = .ok (.getfield 41, 3) := by decide +kernel
theorem dX4_meanIn_11 : decode cX4_meanIn 11 = .ok (.if_icmp .ge 50, 3) := by decide +kernel
theorem dX4_meanIn_14 : decode cX4_meanIn 14 = .ok (.aload_n 0, 1) := by decide +kernel
theorem dX4_meanIn_15 : decode cX4_meanIn 15 = .ok (.getfield 9, 3) := by decide +kernel
theorem dX4_meanIn_18 : decode cX4_meanIn 18 = .ok (.iload 4, 2) := by decide +kernel
theorem dX4_meanIn_20 : decode cX4_meanIn 20 = .ok (.iaload, 1) := by decide +kernel
theorem dX4_meanIn_21 : decode cX4_meanIn 21 = .ok (.ifCond .le 34, 3) := by decide +kernel
theorem dX4_meanIn_24 : decode cX4_meanIn 24 = .ok (.iload_n 3, 1) := by decide +kernel
theorem dX4_meanIn_25 : decode cX4_meanIn 25 = .ok (.aload_n 0, 1) := by decide +kernel
theorem dX4_meanIn_26 : decode cX4_meanIn 26 = .ok (.aload_n 1, 1) := by decide +kernel
theorem dX4_meanIn_27 : decode cX4_meanIn 27 = .ok (.aload_n 1, 1) := by decide +kernel
theorem dX4_meanIn_28 : decode cX4_meanIn 28 = .ok (.getfield 44, 3) := by decide +kernel
theorem dX4_meanIn_31 : decode cX4_meanIn 31 = .ok (.iload 4, 2) := by decide +kernel
theorem dX4_meanIn_33 : decode cX4_meanIn 33 = .ok (.aaload, 1) := by decide +kernel
theorem dX4_meanIn_34 : decode cX4_meanIn 34 = .ok (.getfield 48, 3) := by decide +kernel
theorem dX4_meanIn_37 : decode cX4_meanIn 37 = .ok (.iload_n 2, 1) := by decide +kernel
theorem dX4_meanIn_38 : decode cX4_meanIn 38 = .ok (.invokevirtual 37, 3) := by decide +kernel
theorem dX4_meanIn_41 : decode cX4_meanIn 41 = .ok (.sipush 27720, 3) := by decide +kernel
theorem dX4_meanIn_44 : decode cX4_meanIn 44 = .ok (.aload_n 0, 1) := by decide +kernel
theorem dX4_meanIn_45 : decode cX4_meanIn 45 = .ok (.getfield 9, 3) := by decide +kernel
theorem dX4_meanIn_48 : decode cX4_meanIn 48 = .ok (.iload 4, 2) := by decide +kernel
theorem dX4_meanIn_50 : decode cX4_meanIn 50 = .ok (.iaload, 1) := by decide +kernel
theorem dX4_meanIn_51 : decode cX4_meanIn 51 = .ok (.idiv, 1) := by decide +kernel
theorem dX4_meanIn_52 : decode cX4_meanIn 52 = .ok (.imul, 1) := by decide +kernel
theorem dX4_meanIn_53 : decode cX4_meanIn 53 = .ok (.iadd, 1) := by decide +kernel
theorem dX4_meanIn_54 : decode cX4_meanIn 54 = .ok (.istore_n 3, 1) := by decide +kernel
theorem dX4_meanIn_55 : decode cX4_meanIn 55 = .ok (.iinc 4 1, 3) := by decide +kernel
theorem dX4_meanIn_58 : decode cX4_meanIn 58 = .ok (.goto (-53), 3) := by decide +kernel
theorem dX4_meanIn_61 : decode cX4_meanIn 61 = .ok (.iload_n 3, 1) := by decide +kernel
theorem dX4_meanIn_62 : decode cX4_meanIn 62 = .ok (.ireturn, 1) := by decide +kernel
theorem dX5_init_0 : decode cX5_init 0 = .ok (.aload_n 0, 1) := by decide +kernel
theorem dX5_init_1 : decode cX5_init 1 = .ok (.invokespecial 3, 3) := by decide +kernel
theorem dX5_init_4 : decode cX5_init 4 = .ok (.aload_n 0, 1) := by decide +kernel
theorem dX5_init_5 : decode cX5_init 5 = .ok (.new 9, 3) := by decide +kernel
theorem dX5_init_8 : decode cX5_init 8 = .ok (.dup, 1) := by decide +kernel
theorem dX5_init_9 : decode cX5_init 9 = .ok (.invokespecial 11, 3) := by decide +kernel
theorem dX5_init_12 : decode cX5_init 12 = .ok (.putfield 12, 3) := by decide +kernel
theorem dX5_init_15 : decode cX5_init 15 = .ok (.aload_n 0, 1) := by decide +kernel
theorem dX5_init_16 : decode cX5_init 16 = .ok (.new 18, 3) := by decide +kernel
theorem dX5_init_19 : decode cX5_init 19 = .ok (.dup, 1) := by decide +kernel
theorem dX5_init_20 : decode cX5_init 20 = .ok (.invokespecial 20, 3) := by decide +kernel
theorem dX5_init_23 : decode cX5_init 23 = .ok (.putfield 21, 3) := by decide +kernel
theorem dX5_init_26 : decode cX5_init 26 = .ok (.aload_n 0, 1) := by decide +kernel
theorem dX5_init_27 : decode cX5_init 27 = .ok (.bipush 6, 2) := by decide +kernel
theorem dX5_init_29 : decode cX5_init 29 = .ok (.newarray .int, 2) := by decide +kernel
theorem dX5_init_31 : decode cX5_init 31 = .ok (.putfield 25, 3) := by decide +kernel
theorem dX5_init_34 : decode cX5_init 34 = .ok (.return_, 1) := by decide +kernel
theorem dX5_readAll_0 : decode cX5_readAll 0 = .ok (.aload_n 0, 1) := by decide +kernel
theorem dX5_readAll_1 : decode cX5_readAll 1 = .ok (.invokevirtual 29, 3) := by decide +kernel
theorem dX5_readAll_4 : decode cX5_readAll 4 = .ok (.iconst 0, 1) := by decide +kernel
theorem dX5_readAll_5 : decode cX5_readAll 5 = .ok (.istore_n 1, 1) := by decide +kernel
theorem dX5_readAll_6 : decode cX5_readAll 6 = .ok (.iload_n 1, 1) := by decide +kernel
theorem dX5_readAll_7 : decode cX5_readAll 7 = .ok (.sipush 160, 3) := by decide +kernel
theorem dX5_readAll_10 : decode cX5_readAll 10 = .ok (.if_icmp .gt 53, 3) := by decide +kernel
theorem dX5_readAll_13 : decode cX5_readAll 13 = .ok (.aload_n 0, 1) := by decide +kernel
theorem dX5_readAll_14 : decode cX5_readAll 14 = .ok (.getfield 12, 3) := by decide +kernel
theorem dX5_readAll_17 : decode cX5_readAll 17 = .ok (.invokevirtual 32, 3) := by decide +kernel
theorem dX5_readAll_20 : decode cX5_readAll 20 = .ok (.aload_n 0, 1) := by decide +kernel
theorem dX5_readAll_21 : decode cX5_readAll 21 = .ok (.getfield 12, 3) := by decide +kernel
theorem dX5_readAll_24 : decode cX5_readAll 24 = .ok (.invokevirtual 35, 3) := by decide +kernel
theorem dX5_readAll_27 : decode cX5_readAll 27 = .ok (.ifCond .eq 36, 3) := by decide +kernel
theorem dX5_readAll_30 : decode cX5_readAll 30 = .ok (.aload_n 0, 1) := by decide +kernel
theorem dX5_readAll_31 : decode cX5_readAll 31 = .ok (.getfield 12, 3) := by decide +kernel
theorem dX5_readAll_34 : decode cX5_readAll 34 = .ok (.getfield 39, 3) := by decide +kernel
theorem dX5_readAll_37 : decode cX5_readAll 37 = .ok (.ifCond .ne 6, 3) := by decide +kernel
theorem dX5_readAll_40 : decode cX5_readAll 40 = .ok (.goto 23, 3) := by decide +kernel
theorem dX5_readAll_43 : decode cX5_readAll 43 = .ok (.aload_n 0, 1) := by decide +kernel
theorem dX5_readAll_44 : decode cX5_readAll 44 = .ok (.invokevirtual 43, 3) := by decide +kernel
theorem dX5_readAll_47 : decode cX5_readAll 47 = .ok (.aload_n 0, 1) := by decide +kernel
theorem dX5_readAll_48 : decode cX5_readAll 48 = .ok (.dup, 1) := by decide +kernel
theorem dX5_readAll_49 : decode cX5_readAll 49 = .ok (.getfield 46, 3) := by decide +kernel
theorem dX5_readAll_52 : decode cX5_readAll 52 = .ok (.iconst 1, 1) := by decide +kernel
theorem dX5_readAll_53 : decode cX5_readAll 53 = .ok (.iadd, 1) := by decide +kernel
theorem dX5_readAll_54 : decode cX5_readAll 54 = .ok (.putfield 46, 3) := by decide +kernel
theorem dX5_readAll_57 : decode cX5_readAll 57 = .ok (.iinc 1 1, 3) := by decide +kernel
theorem dX5_readAll_60 : decode cX5_readAll 60 = .ok (.goto (-54), 3) := by decide +kernel
theorem dX5_readAll_63 : decode cX5_readAll 63 = .ok (.aload_n 0, 1) := by decide +kernel
theorem dX5_readAll_64 : decode cX5_readAll 64 = .ok (.invokevirtual 49, 3) := by decide +kernel
theorem dX5_readAll_67 : decode cX5_readAll 67 = .ok (.ifCond .ne 19, 3) := by decide +kernel
theorem dX5_readAll_70 : decode cX5_readAll 70 = .ok (.aload_n 0, 1) := by decide +kernel
theorem dX5_readAll_71 : decode cX5_readAll 71 = .ok (.getfield 12, 3) := by decide +kernel
theorem dX5_readAll_74 : decode cX5_readAll 74 = .ok (.aload_n 0, 1) := by decide +kernel
theorem dX5_readAll_75 : decode cX5_readAll 75 = .ok (.getfield 12, 3) := by decide +kernel
theorem dX5_readAll_78 : decode cX5_readAll 78 = .ok (.getfield 52, 3) := by decide +kernel
theorem dX5_readAll_81 : decode cX5_readAll 81 = .ok (.bipush 6, 2) := by decide +kernel
theorem dX5_readAll_83 : decode cX5_readAll 83 = .ok (.invokevirtual 55, 3) := by decide +kernel
theorem dX5_readAll_86 : decode cX5_readAll 86 = .ok (.aload_n 0, 1) := by decide +kernel
theorem dX5_readAll_87 : decode cX5_readAll 87 = .ok (.invokevirtual 59, 3) := by decide +kernel
theorem dX5_readAll_90 : decode cX5_readAll 90 = .ok (.return_, 1) := by decide +kernel
theorem dX5_startAnew_0 : decode cX5_startAnew 0 = .ok (.aload_n 0, 1) := by decide +kernel
theorem dX5_startAnew_1 : decode cX5_startAnew 1 = .ok (.getfield 12, 3) := by decide +kernel
theorem dX5_startAnew_4 : decode cX5_startAnew 4 = .ok (.invokevirtual 62, 3) := by decide +kernel
theorem dX5_startAnew_7 : decode cX5_startAnew 7 = .ok (.aload_n 0, 1) := by decide +kernel
theorem dX5_startAnew_8 : decode cX5_startAnew 8 = .ok (.getfield 21, 3) := by decide +kernel
theorem dX5_startAnew_11 : decode cX5_startAnew 11 = .ok (.invokevirtual 65, 3) := by decide +kernel
theorem dX5_startAnew_14 : decode cX5_startAnew 14 = .ok (.aload_n 0, 1) := by decide +kernel
theorem dX5_startAnew_15 : decode cX5_startAnew 15 = .ok (.getfield 25, 3) := by decide +kernel
theorem dX5_startAnew_18 : decode cX5_startAnew 18 = .ok (.bipush (-4), 2) := by decide +kernel
theorem dX5_startAnew_20 : decode cX5_startAnew 20 = .ok (.invokestatic 66, 3) := by decide +kernel
theorem dX5_startAnew_23 : decode cX5_startAnew 23 = .ok (.aload_n 0, 1) := by decide +kernel
theorem dX5_startAnew_24 : decode cX5_startAnew 24 = .ok (.iconst 0, 1) := by decide +kernel
theorem dX5_startAnew_25 : decode cX5_startAnew 25 = .ok (.putfield 46, 3) := by decide +kernel
theorem dX5_startAnew_28 : decode cX5_startAnew 28 = .ok (.aload_n 0, 1) := by decide +kernel
theorem dX5_startAnew_29 : decode cX5_startAnew 29 = .ok (.iconst 0, 1) := by decide +kernel
theorem dX5_startAnew_30 : decode cX5_startAnew 30 = .ok (.putfield 72, 3) := by decide +kernel
theorem dX5_startAnew_33 : decode cX5_startAnew 33 = .ok (.aload_n 0, 1) := by decide +kernel
theorem dX5_startAnew_34 : decode cX5_startAnew 34 = .ok (.iconst 0, 1) := by decide +kernel
theorem dX5_startAnew_35 : decode cX5_startAnew 35 = .ok (.putfield 75, 3) := by decide +kernel
theorem dX5_startAnew_38 : decode cX5_startAnew 38 = .ok (.aload_n 0, 1) := by decide +kernel
theorem dX5_startAnew_39 : decode cX5_startAnew 39 = .ok (.iconst 0, 1) := by decide +kernel
theorem dX5_startAnew_40 : decode cX5_startAnew 40 = .ok (.putfield 78, 3) := by decide +kernel
theorem dX5_startAnew_43 : decode cX5_startAnew 43 = .ok (.aload_n 0, 1) := by decide +kernel
theorem dX5_startAnew_44 : decode cX5_startAnew 44 = .ok (.bipush (-4), 2) := by decide +kernel
theorem dX5_startAnew_46 : decode cX5_startAnew 46 = .ok (.putfield 81, 3) := by decide +kernel
theorem dX5_startAnew_49 : decode cX5_startAnew 49 = .ok (.aload_n 0, 1) := by decide +kernel
theorem dX5_startAnew_50 : decode cX5_startAnew 50 = .ok (.iconst 0, 1) := by decide +kernel
theorem dX5_startAnew_51 : decode cX5_startAnew 51 = .ok (.putfield 84, 3) := by decide +kernel
theorem dX5_startAnew_54 : decode cX5_startAnew 54 = .ok (.return_, 1) := by decide +kernel
theorem dX5_allIsThere_0 : decode cX5_allIsThere 0 = .ok (.aload_n 0, 1) := by decide +kernel
theorem dX5_allIsThere_1 : decode cX5_allIsThere 1 = .ok (.getfield 21, 3) := by decide +kernel
theorem dX5_allIsThere_4 : decode cX5_allIsThere 4 = .ok (.getfield 88, 3) := by decide +kernel
theorem dX5_allIsThere_7 : decode cX5_allIsThere 7 = .ok (.aload_n 0, 1) := by decide +kernel
theorem dX5_allIsThere_8 : decode cX5_allIsThere 8 = .ok (.getfield 75, 3) := by decide +kernel
theorem dX5_allIsThere_11 : decode cX5_allIsThere 11 = .ok (.invokevirtual 92, 3) := by decide +kernel
theorem dX5_allIsThere_14 : decode cX5_allIsThere 14 = .ok (.ifCond .eq 38, 3) := by decide +kernel
theorem dX5_allIsThere_17 : decode cX5_allIsThere 17 = .ok (.aload_n 0, 1) := by decide +kernel
theorem dX5_allIsThere_18 : decode cX5_allIsThere 18 = .ok (.getfield 21, 3) := by decide +kernel
theorem dX5_allIsThere_21 : decode cX5_allIsThere 21 = .ok (.getfield 88, 3) := by decide +kernel
theorem dX5_allIsThere_24 : decode cX5_allIsThere 24 = .ok (.aload_n 0, 1) := by decide +kernel
theorem dX5_allIsThere_25 : decode cX5_allIsThere 25 = .ok (.getfield 78, 3) := by decide +kernel
theorem dX5_allIsThere_28 : decode cX5_allIsThere 28 = .ok (.invokevirtual 98, 3) := by decide +kernel
theorem dX5_allIsThere_31 : decode cX5_allIsThere 31 = .ok (.ifCond .eq 21, 3) := by decide +kernel
theorem dX5_allIsThere_34 : decode cX5_allIsThere 34 = .ok (.aload_n 0, 1) := by decide +kernel
theorem dX5_allIsThere_35 : decode cX5_allIsThere 35 = .ok (.getfield 81, 3) := by decide +kernel
theorem dX5_allIsThere_38 : decode cX5_allIsThere 38 = .ok (.aload_n 0, 1) := by decide +kernel
theorem dX5_allIsThere_39 : decode cX5_allIsThere 39 = .ok (.getfield 21, 3) := by decide +kernel
theorem dX5_allIsThere_42 : decode cX5_allIsThere 42 = .ok (.getfield 101, 3) := by decide +kernel
theorem dX5_allIsThere_45 : decode cX5_allIsThere 45 = .ok (.if_icmp .ge 7, 3) := by decide +kernel
theorem dX5_allIsThere_48 : decode cX5_allIsThere 48 = .ok (.iconst 1, 1) := by decide +kernel
theorem dX5_allIsThere_49 : decode cX5_allIsThere 49 = .ok (.goto 4, 3) := by decide +kernel
theorem dX5_allIsThere_52 : decode cX5_allIsThere 52 = .ok (.iconst 0, 1) := by decide +kernel
theorem dX5_allIsThere_53 : decode cX5_allIsThere 53 = .ok (.ireturn, 1) := by decide +kernel
theorem dX5_rememberCells_0 : decode cX5_rememberCells 0 = .ok (.iconst 0, 1) := by decide +kernel
theorem dX5_rememberCells_1 : decode cX5_rememberCells 1 = .ok (.istore_n 1, 1) := by decide +kernel
theorem dX5_rememberCells_2 : decode cX5_rememberCells 2 = .ok (.iload_n 1, 1) := by decide +kernel
theorem dX5_rememberCells_3 : decode cX5_rememberCells 3 = .ok (.aload_n 0, 1) := by decide +kernel
theorem dX5_rememberCells_4 : decode cX5_rememberCells 4 = .ok (.getfield 21, 3) := by decide +kernel
theorem dX5_rememberCells_7 : decode cX5_rememberCells 7 = .ok (.getfield 101, 3) := by decide +kernel
theorem dX5_rememberCells_10 : decode cX5_rememberCells 10 = .ok (.if_icmp .ge 27, 3) := by decide +kernel
theorem dX5_rememberCells_13 : decode cX5_rememberCells 13 = .ok (.aload_n 0, 1) := by decide +kernel
theorem dX5_rememberCells_14 : decode cX5_rememberCells 14 = .ok (.getfield 21, 3) := by decide +kernel
theorem dX5_rememberCells_17 : decode cX5_rememberCells 17 = .ok (.getfield 104, 3) := by decide +kernel
theorem dX5_rememberCells_20 : decode cX5_rememberCells 20 = .ok (.iload_n 1, 1) := by decide +kernel
theorem dX5_rememberCells_21 : decode cX5_rememberCells 21 = .ok (.aaload, 1) := by decide +kernel
theorem dX5_rememberCells_22 : decode cX5_rememberCells 22 = .ok (.aload_n 0, 1) := by decide +kernel
theorem dX5_rememberCells_23 : decode cX5_rememberCells 23 = .ok (.getfield 25, 3) := by decide +kernel
theorem dX5_rememberCells_26 : decode cX5_rememberCells 26 = .ok (.iload_n 1, 1) := by decide +kernel
theorem dX5_rememberCells_27 : decode cX5_rememberCells 27 = .ok (.iaload, 1) := by decide +kernel
theorem dX5_rememberCells_28 : decode cX5_rememberCells 28 = .ok (.putfield 108, 3) := by decide +kernel
theorem dX5_rememberCells_31 : decode cX5_rememberCells 31 = .ok (.iinc 1 1, 3) := by decide +kernel
theorem dX5_rememberCells_34 : decode cX5_rememberCells 34 = .ok (.goto (-32), 3) := by decide +kernel
theorem dX5_rememberCells_37 : decode cX5_rememberCells 37 = .ok (.return_, 1) := by decide +kernel
theorem dX5_readLine_0 : decode cX5_readLine 0 = .ok (.aload_n 0, 1) := by decide +kernel
theorem dX5_readLine_1 : decode cX5_readLine 1 = .ok (.getfield 12, 3) := by decide +kernel
theorem dX5_readLine_4 : decode cX5_readLine 4 = .ok (.ldc 112, 2) := by decide +kernel
theorem dX5_readLine_6 : decode cX5_readLine 6 = .ok (.invokevirtual 113, 3) := by decide +kernel
theorem dX5_readLine_9 : decode cX5_readLine 9 = .ok (.ifCond .eq 10, 3) := by decide +kernel
theorem dX5_readLine_12 : decode cX5_readLine 12 = .ok (.aload_n 0, 1) := by decide +kernel
theorem dX5_readLine_13 : decode cX5_readLine 13 = .ok (.invokevirtual 117, 3) := by decide +kernel
theorem dX5_readLine_16 : decode cX5_readLine 16 = .ok (.goto 108, 3) := by decide +kernel
theorem dX5_readLine_19 : decode cX5_readLine 19 = .ok (.aload_n 0, 1) := by decide +kernel
theorem dX5_readLine_20 : decode cX5_readLine 20 = .ok (.getfield 12, 3) := by decide +kernel
theorem dX5_readLine_23 : decode cX5_readLine 23 = .ok (.ldc 120, 2) := by decide +kernel
theorem dX5_readLine_25 : decode cX5_readLine 25 = .ok (.invokevirtual 113, 3) := by decide +kernel
theorem dX5_readLine_28 : decode cX5_readLine 28 = .ok (.ifCond .eq 10, 3) := by decide +kernel
theorem dX5_readLine_31 : decode cX5_readLine 31 = .ok (.aload_n 0, 1) := by decide +kernel
theorem dX5_readLine_32 : decode cX5_readLine 32 = .ok (.invokevirtual 122, 3) := by decide +kernel
theorem dX5_readLine_35 : decode cX5_readLine 35 = .ok (.goto 89, 3) := by decide +kernel
theorem dX5_readLine_38 : decode cX5_readLine 38 = .ok (.aload_n 0, 1) := by decide +kernel
theorem dX5_readLine_39 : decode cX5_readLine 39 = .ok (.getfield 12, 3) := by decide +kernel
theorem dX5_readLine_42 : decode cX5_readLine 42 = .ok (.ldc 125, 2) := by decide +kernel
theorem dX5_readLine_44 : decode cX5_readLine 44 = .ok (.invokevirtual 113, 3) := by decide +kernel
theorem dX5_readLine_47 : decode cX5_readLine 47 = .ok (.ifCond .eq 10, 3) := by decide +kernel
theorem dX5_readLine_50 : decode cX5_readLine 50 = .ok (.aload_n 0, 1) := by decide +kernel
theorem dX5_readLine_51 : decode cX5_readLine 51 = .ok (.invokevirtual 127, 3) := by decide +kernel
theorem dX5_readLine_54 : decode cX5_readLine 54 = .ok (.goto 70, 3) := by decide +kernel
theorem dX5_readLine_57 : decode cX5_readLine 57 = .ok (.aload_n 0, 1) := by decide +kernel
theorem dX5_readLine_58 : decode cX5_readLine 58 = .ok (.getfield 12, 3) := by decide +kernel
theorem dX5_readLine_61 : decode cX5_readLine 61 = .ok (.ldc 130, 2) := by decide +kernel
theorem dX5_readLine_63 : decode cX5_readLine 63 = .ok (.invokevirtual 113, 3) := by decide +kernel
theorem dX5_readLine_66 : decode cX5_readLine 66 = .ok (.ifCond .eq 11, 3) := by decide +kernel
theorem dX5_readLine_69 : decode cX5_readLine 69 = .ok (.aload_n 0, 1) := by decide +kernel
theorem dX5_readLine_70 : decode cX5_readLine 70 = .ok (.iconst 1, 1) := by decide +kernel
theorem dX5_readLine_71 : decode cX5_readLine 71 = .ok (.invokevirtual 132, 3) := by decide +kernel
theorem dX5_readLine_74 : decode cX5_readLine 74 = .ok (.goto 50, 3) := by decide +kernel
theorem dX5_readLine_77 : decode cX5_readLine 77 = .ok (.aload_n 0, 1) := by decide +kernel
theorem dX5_readLine_78 : decode cX5_readLine 78 = .ok (.getfield 12, 3) := by decide +kernel
theorem dX5_readLine_81 : decode cX5_readLine 81 = .ok (.ldc 136, 2) := by decide +kernel
theorem dX5_readLine_83 : decode cX5_readLine 83 = .ok (.invokevirtual 113, 3) := by decide +kernel
theorem dX5_readLine_86 : decode cX5_readLine 86 = .ok (.ifCond .eq 11, 3) := by decide +kernel
theorem dX5_readLine_89 : decode cX5_readLine 89 = .ok (.aload_n 0, 1) := by decide +kernel
theorem dX5_readLine_90 : decode cX5_readLine 90 = .ok (.iconst 0, 1) := by decide +kernel
theorem dX5_readLine_91 : decode cX5_readLine 91 = .ok (.invokevirtual 132, 3) := by decide +kernel
theorem dX5_readLine_94 : decode cX5_readLine 94 = .ok (.goto 30, 3) := by decide +kernel
theorem dX5_readLine_97 : decode cX5_readLine 97 = .ok (.aload_n 0, 1) := by decide +kernel
theorem dX5_readLine_98 : decode cX5_readLine 98 = .ok (.getfield 12, 3) := by decide +kernel
theorem dX5_readLine_101 : decode cX5_readLine 101 = .ok (.ldc 138, 2) := by decide +kernel
theorem dX5_readLine_103 : decode cX5_readLine 103 = .ok (.invokevirtual 113, 3) := by decide +kernel
theorem dX5_readLine_106 : decode cX5_readLine 106 = .ok (.ifCond .eq 10, 3) := by decide +kernel
theorem dX5_readLine_109 : decode cX5_readLine 109 = .ok (.aload_n 0, 1) := by decide +kernel
theorem dX5_readLine_110 : decode cX5_readLine 110 = .ok (.invokevirtual 140, 3) := by decide +kernel
theorem dX5_readLine_113 : decode cX5_readLine 113 = .ok (.goto 11, 3) := by decide +kernel
theorem dX5_readLine_116 : decode cX5_readLine 116 = .ok (.aload_n 0, 1) := by decide +kernel
theorem dX5_readLine_117 : decode cX5_readLine 117 = .ok (.getfield 12, 3) := by decide +kernel
theorem dX5_readLine_120 : decode cX5_readLine 120 = .ok (.iconst 2, 1) := by decide +kernel
theorem dX5_readLine_121 : decode cX5_readLine 121 = .ok (.invokevirtual 143, 3) := by decide +kernel
theorem dX5_readLine_124 : decode cX5_readLine 124 = .ok (.return_, 1) := by decide +kernel
theorem dX5_readFire_0 : decode cX5_readFire 0 = .ok (.aload_n 0, 1) := by decide +kernel
theorem dX5_readFire_1 : decode cX5_readFire 1 = .ok (.getfield 84, 3) := by decide +kernel
theorem dX5_readFire_4 : decode cX5_readFire 4 = .ok (.ifCond .eq 11, 3) := by decide +kernel
theorem dX5_readFire_7 : decode cX5_readFire 7 = .ok (.aload_n 0, 1) := by decide +kernel
theorem dX5_readFire_8 : decode cX5_readFire 8 = .ok (.getfield 12, 3) := by decide +kernel
theorem dX5_readFire_11 : decode cX5_readFire 11 = .ok (.iconst 4, 1) := by decide +kernel
theorem dX5_readFire_12 : decode cX5_readFire 12 = .ok (.invokevirtual 143, 3) := by decide +kernel
theorem dX5_readFire_15 : decode cX5_readFire 15 = .ok (.aload_n 0, 1) := by decide +kernel
theorem dX5_readFire_16 : decode cX5_readFire 16 = .ok (.iconst 1, 1) := by decide +kernel
theorem dX5_readFire_17 : decode cX5_readFire 17 = .ok (.putfield 84, 3) := by decide +kernel
theorem dX5_readFire_20 : decode cX5_readFire 20 = .ok (.aload_n 0, 1) := by decide +kernel
theorem dX5_readFire_21 : decode cX5_readFire 21 = .ok (.getfield 21, 3) := by decide +kernel
theorem dX5_readFire_24 : decode cX5_readFire 24 = .ok (.getfield 88, 3) := by decide +kernel
theorem dX5_readFire_27 : decode cX5_readFire 27 = .ok (.aload_n 0, 1) := by decide +kernel
theorem dX5_readFire_28 : decode cX5_readFire 28 = .ok (.getfield 12, 3) := by decide +kernel
theorem dX5_readFire_31 : decode cX5_readFire 31 = .ok (.iconst 3, 1) := by decide +kernel
theorem dX5_readFire_32 : decode cX5_readFire 32 = .ok (.bipush 8, 2) := by decide +kernel
theorem dX5_readFire_34 : decode cX5_readFire 34 = .ok (.invokevirtual 147, 3) := by decide +kernel
theorem dX5_readFire_37 : decode cX5_readFire 37 = .ok (.putfield 151, 3) := by decide +kernel
theorem dX5_readFire_40 : decode cX5_readFire 40 = .ok (.aload_n 0, 1) := by decide +kernel
theorem dX5_readFire_41 : decode cX5_readFire 41 = .ok (.getfield 21, 3) := by decide +kernel
theorem dX5_readFire_44 : decode cX5_readFire 44 = .ok (.getfield 88, 3) := by decide +kernel
theorem dX5_readFire_47 : decode cX5_readFire 47 = .ok (.aload_n 0, 1) := by decide +kernel
theorem dX5_readFire_48 : decode cX5_readFire 48 = .ok (.getfield 12, 3) := by decide +kernel
theorem dX5_readFire_51 : decode cX5_readFire 51 = .ok (.iconst 0, 1) := by decide +kernel
theorem dX5_readFire_52 : decode cX5_readFire 52 = .ok (.bipush 9, 2) := by decide +kernel
theorem dX5_readFire_54 : decode cX5_readFire 54 = .ok (.invokevirtual 147, 3) := by decide +kernel
theorem dX5_readFire_57 : decode cX5_readFire 57 = .ok (.putfield 154, 3) := by decide +kernel
theorem dX5_readFire_60 : decode cX5_readFire 60 = .ok (.aload_n 0, 1) := by decide +kernel
theorem dX5_readFire_61 : decode cX5_readFire 61 = .ok (.getfield 21, 3) := by decide +kernel
theorem dX5_readFire_64 : decode cX5_readFire 64 = .ok (.getfield 88, 3) := by decide +kernel
theorem dX5_readFire_67 : decode cX5_readFire 67 = .ok (.aload_n 0, 1) := by decide +kernel
theorem dX5_readFire_68 : decode cX5_readFire 68 = .ok (.getfield 12, 3) := by decide +kernel
theorem dX5_readFire_71 : decode cX5_readFire 71 = .ok (.iconst 0, 1) := by decide +kernel
theorem dX5_readFire_72 : decode cX5_readFire 72 = .ok (.bipush 9, 2) := by decide +kernel
theorem dX5_readFire_74 : decode cX5_readFire 74 = .ok (.invokevirtual 147, 3) := by decide +kernel
theorem dX5_readFire_77 : decode cX5_readFire 77 = .ok (.putfield 157, 3) := by decide +kernel
theorem dX5_readFire_80 : decode cX5_readFire 80 = .ok (.aload_n 0, 1) := by decide +kernel
theorem dX5_readFire_81 : decode cX5_readFire 81 = .ok (.getfield 12, 3) := by decide +kernel
theorem dX5_readFire_84 : decode cX5_readFire 84 = .ok (.invokevirtual 160, 3) := by decide +kernel
theorem dX5_readFire_87 : decode cX5_readFire 87 = .ok (.return_, 1) := by decide +kernel
theorem dX5_readHeat_0 : decode cX5_readHeat 0 = .ok (.aload_n 0, 1) := by decide +kernel
theorem dX5_readHeat_1 : decode cX5_readHeat 1 = .ok (.getfield 12, 3) := by decide +kernel
theorem dX5_readHeat_4 : decode cX5_readHeat 4 = .ok (.iconst 0, 1) := by decide +kernel
theorem dX5_readHeat_5 : decode cX5_readHeat 5 = .ok (.bipush 7, 2) := by decide +kernel
theorem dX5_readHeat_7 : decode cX5_readHeat 7 = .ok (.invokevirtual 147, 3) := by decide +kernel
theorem dX5_readHeat_10 : decode cX5_readHeat 10 = .ok (.istore_n 1, 1) := by decide +kernel
theorem dX5_readHeat_11 : decode cX5_readHeat 11 = .ok (.aload_n 0, 1) := by decide +kernel
theorem dX5_readHeat_12 : decode cX5_readHeat 12 = .ok (.aload_n 0, 1) := by decide +kernel
theorem dX5_readHeat_13 : decode cX5_readHeat 13 = .ok (.getfield 75, 3) := by decide +kernel
theorem dX5_readHeat_16 : decode cX5_readHeat 16 = .ok (.iload_n 1, 1) := by decide +kernel
theorem dX5_readHeat_17 : decode cX5_readHeat 17 = .ok (.invokestatic 163, 3) := by decide +kernel
theorem dX5_readHeat_20 : decode cX5_readHeat 20 = .ok (.putfield 75, 3) := by decide +kernel
theorem dX5_readHeat_23 : decode cX5_readHeat 23 = .ok (.aload_n 0, 1) := by decide +kernel
theorem dX5_readHeat_24 : decode cX5_readHeat 24 = .ok (.getfield 72, 3) := by decide +kernel
theorem dX5_readHeat_27 : decode cX5_readHeat 27 = .ok (.iconst 1, 1) := by decide +kernel
theorem dX5_readHeat_28 : decode cX5_readHeat 28 = .ok (.iload_n 1, 1) := by decide +kernel
theorem dX5_readHeat_29 : decode cX5_readHeat 29 = .ok (.ishl, 1) := by decide +kernel
theorem dX5_readHeat_30 : decode cX5_readHeat 30 = .ok (.iand, 1) := by decide +kernel
theorem dX5_readHeat_31 : decode cX5_readHeat 31 = .ok (.ifCond .eq 11, 3) := by decide +kernel
theorem dX5_readHeat_34 : decode cX5_readHeat 34 = .ok (.aload_n 0, 1) := by decide +kernel
theorem dX5_readHeat_35 : decode cX5_readHeat 35 = .ok (.getfield 12, 3) := by decide +kernel
theorem dX5_readHeat_38 : decode cX5_readHeat 38 = .ok (.iconst 4, 1) := by decide +kernel
theorem dX5_readHeat_39 : decode cX5_readHeat 39 = .ok (.invokevirtual 143, 3) := by decide +kernel
theorem dX5_readHeat_42 : decode cX5_readHeat 42 = .ok (.aload_n 0, 1) := by decide +kernel
theorem dX5_readHeat_43 : decode cX5_readHeat 43 = .ok (.dup, 1) := by decide +kernel
theorem dX5_readHeat_44 : decode cX5_readHeat 44 = .ok (.getfield 72, 3) := by decide +kernel
theorem dX5_readHeat_47 : decode cX5_readHeat 47 = .ok (.iconst 1, 1) := by decide +kernel
theorem dX5_readHeat_48 : decode cX5_readHeat 48 = .ok (.iload_n 1, 1) := by decide +kernel
theorem dX5_readHeat_49 : decode cX5_readHeat 49 = .ok (.ishl, 1) := by decide +kernel
theorem dX5_readHeat_50 : decode cX5_readHeat 50 = .ok (.ior, 1) := by decide +kernel
theorem dX5_readHeat_51 : decode cX5_readHeat 51 = .ok (.putfield 72, 3) := by decide +kernel
theorem dX5_readHeat_54 : decode cX5_readHeat 54 = .ok (.iconst 0, 1) := by decide +kernel
theorem dX5_readHeat_55 : decode cX5_readHeat 55 = .ok (.istore_n 2, 1) := by decide +kernel
theorem dX5_readHeat_56 : decode cX5_readHeat 56 = .ok (.iload_n 2, 1) := by decide +kernel
theorem dX5_readHeat_57 : decode cX5_readHeat 57 = .ok (.iconst 3, 1) := by decide +kernel
theorem dX5_readHeat_58 : decode cX5_readHeat 58 = .ok (.if_icmp .ge 35, 3) := by decide +kernel
theorem dX5_readHeat_61 : decode cX5_readHeat 61 = .ok (.aload_n 0, 1) := by decide +kernel
theorem dX5_readHeat_62 : decode cX5_readHeat 62 = .ok (.getfield 21, 3) := by decide +kernel
theorem dX5_readHeat_65 : decode cX5_readHeat 65 = .ok (.getfield 88, 3) := by decide +kernel
theorem dX5_readHeat_68 : decode cX5_readHeat 68 = .ok (.getfield 168, 3) := by decide +kernel
theorem dX5_readHeat_71 : decode cX5_readHeat 71 = .ok (.iconst 3, 1) := by decide +kernel
theorem dX5_readHeat_72 : decode cX5_readHeat 72 = .ok (.iload_n 1, 1) := by decide +kernel
theorem dX5_readHeat_73 : decode cX5_readHeat 73 = .ok (.imul, 1) := by decide +kernel
theorem dX5_readHeat_74 : decode cX5_readHeat 74 = .ok (.iload_n 2, 1) := by decide +kernel
theorem dX5_readHeat_75 : decode cX5_readHeat 75 = .ok (.iadd, 1) := by decide +kernel
theorem dX5_readHeat_76 : decode cX5_readHeat 76 = .ok (.aload_n 0, 1) := by decide +kernel
theorem dX5_readHeat_77 : decode cX5_readHeat 77 = .ok (.getfield 12, 3) := by decide +kernel
theorem dX5_readHeat_80 : decode cX5_readHeat 80 = .ok (.iconst 0, 1) := by decide +kernel
theorem dX5_readHeat_81 : decode cX5_readHeat 81 = .ok (.bipush 99, 2) := by decide +kernel
theorem dX5_readHeat_83 : decode cX5_readHeat 83 = .ok (.invokevirtual 147, 3) := by decide +kernel
theorem dX5_readHeat_86 : decode cX5_readHeat 86 = .ok (.iastore, 1) := by decide +kernel
theorem dX5_readHeat_87 : decode cX5_readHeat 87 = .ok (.iinc 2 1, 3) := by decide +kernel
theorem dX5_readHeat_90 : decode cX5_readHeat 90 = .ok (.goto (-34), 3) := by decide +kernel
theorem dX5_readHeat_93 : decode cX5_readHeat 93 = .ok (.aload_n 0, 1) := by decide +kernel
theorem dX5_readHeat_94 : decode cX5_readHeat 94 = .ok (.getfield 12, 3) := by decide +kernel
theorem dX5_readHeat_97 : decode cX5_readHeat 97 = .ok (.invokevirtual 160, 3) := by decide +kernel
theorem dX5_readHeat_100 : decode cX5_readHeat 100 = .ok (.return_, 1) := by decide +kernel
theorem dX5_readWood_0 : decode cX5_readWood 0 = .ok (.aload_n 0, 1) := by decide +kernel
theorem dX5_readWood_1 : decode cX5_readWood 1 = .ok (.getfield 21, 3) := by decide +kernel
theorem dX5_readWood_4 : decode cX5_readWood 4 = .ok (.getfield 88, 3) := by decide +kernel
theorem dX5_readWood_7 : decode cX5_readWood 7 = .ok (.getfield 171, 3) := by decide +kernel
theorem dX5_readWood_10 : decode cX5_readWood 10 = .ok (.bipush 6, 2) := by decide +kernel
theorem dX5_readWood_12 : decode cX5_readWood 12 = .ok (.if_icmp .lt 11, 3) := by decide +kernel
theorem dX5_readWood_15 : decode cX5_readWood 15 = .ok (.aload_n 0, 1) := by decide +kernel
theorem dX5_readWood_16 : decode cX5_readWood 16 = .ok (.getfield 12, 3) := by decide +kernel
theorem dX5_readWood_19 : decode cX5_readWood 19 = .ok (.iconst 5, 1) := by decide +kernel
theorem dX5_readWood_20 : decode cX5_readWood 20 = .ok (.invokevirtual 143, 3) := by decide +kernel
theorem dX5_readWood_23 : decode cX5_readWood 23 = .ok (.aload_n 0, 1) := by decide +kernel
theorem dX5_readWood_24 : decode cX5_readWood 24 = .ok (.getfield 12, 3) := by decide +kernel
theorem dX5_readWood_27 : decode cX5_readWood 27 = .ok (.iconst 0, 1) := by decide +kernel
theorem dX5_readWood_28 : decode cX5_readWood 28 = .ok (.bipush 7, 2) := by decide +kernel
theorem dX5_readWood_30 : decode cX5_readWood 30 = .ok (.invokevirtual 147, 3) := by decide +kernel
theorem dX5_readWood_33 : decode cX5_readWood 33 = .ok (.istore_n 1, 1) := by decide +kernel
theorem dX5_readWood_34 : decode cX5_readWood 34 = .ok (.aload_n 0, 1) := by decide +kernel
theorem dX5_readWood_35 : decode cX5_readWood 35 = .ok (.aload_n 0, 1) := by decide +kernel
theorem dX5_readWood_36 : decode cX5_readWood 36 = .ok (.getfield 75, 3) := by decide +kernel
theorem dX5_readWood_39 : decode cX5_readWood 39 = .ok (.iload_n 1, 1) := by decide +kernel
theorem dX5_readWood_40 : decode cX5_readWood 40 = .ok (.invokestatic 163, 3) := by decide +kernel
theorem dX5_readWood_43 : decode cX5_readWood 43 = .ok (.putfield 75, 3) := by decide +kernel
theorem dX5_readWood_46 : decode cX5_readWood 46 = .ok (.aload_n 0, 1) := by decide +kernel
theorem dX5_readWood_47 : decode cX5_readWood 47 = .ok (.getfield 12, 3) := by decide +kernel
theorem dX5_readWood_50 : decode cX5_readWood 50 = .ok (.iconst 1, 1) := by decide +kernel
theorem dX5_readWood_51 : decode cX5_readWood 51 = .ok (.bipush 99, 2) := by decide +kernel
theorem dX5_readWood_53 : decode cX5_readWood 53 = .ok (.invokevirtual 147, 3) := by decide +kernel
theorem dX5_readWood_56 : decode cX5_readWood 56 = .ok (.istore_n 2, 1) := by decide +kernel
theorem dX5_readWood_57 : decode cX5_readWood 57 = .ok (.aload_n 0, 1) := by decide +kernel
theorem dX5_readWood_58 : decode cX5_readWood 58 = .ok (.getfield 12, 3) := by decide +kernel
theorem dX5_readWood_61 : decode cX5_readWood 61 = .ok (.iconst 1, 1) := by decide +kernel
theorem dX5_readWood_62 : decode cX5_readWood 62 = .ok (.bipush 9, 2) := by decide +kernel
theorem dX5_readWood_64 : decode cX5_readWood 64 = .ok (.invokevirtual 147, 3) := by decide +kernel
theorem dX5_readWood_67 : decode cX5_readWood 67 = .ok (.istore_n 3, 1) := by decide +kernel
theorem dX5_readWood_68 : decode cX5_readWood 68 = .ok (.aload_n 0, 1) := by decide +kernel
theorem dX5_readWood_69 : decode cX5_readWood 69 = .ok (.getfield 12, 3) := by decide +kernel
theorem dX5_readWood_72 : decode cX5_readWood 72 = .ok (.invokevirtual 160, 3) := by decide +kernel
theorem dX5_readWood_75 : decode cX5_readWood 75 = .ok (.aload_n 0, 1) := by decide +kernel
theorem dX5_readWood_76 : decode cX5_readWood 76 = .ok (.getfield 21, 3) := by decide +kernel
theorem dX5_readWood_79 : decode cX5_readWood 79 = .ok (.getfield 88, 3) := by decide +kernel
theorem dX5_readWood_82 : decode cX5_readWood 82 = .ok (.iload_n 1, 1) := by decide +kernel
theorem dX5_readWood_83 : decode cX5_readWood 83 = .ok (.iload_n 2, 1) := by decide +kernel
theorem dX5_readWood_84 : decode cX5_readWood 84 = .ok (.iload_n 3, 1) := by decide +kernel
theorem dX5_readWood_85 : decode cX5_readWood 85 = .ok (.invokevirtual 174, 3) := by decide +kernel
theorem dX5_readWood_88 : decode cX5_readWood 88 = .ok (.pop, 1) := by decide +kernel
theorem dX5_readWood_89 : decode cX5_readWood 89 = .ok (.return_, 1) := by decide +kernel
theorem dX5_readSpud_0 : decode cX5_readSpud 0 = .ok (.aload_n 0, 1) := by decide +kernel
theorem dX5_readSpud_1 : decode cX5_readSpud 1 = .ok (.getfield 21, 3) := by decide +kernel
theorem dX5_readSpud_4 : decode cX5_readSpud 4 = .ok (.getfield 101, 3) := by decide +kernel
theorem dX5_readSpud_7 : decode cX5_readSpud 7 = .ok (.bipush 6, 2) := by decide +kernel
theorem dX5_readSpud_9 : decode cX5_readSpud 9 = .ok (.if_icmp .lt 11, 3) := by decide +kernel
theorem dX5_readSpud_12 : decode cX5_readSpud 12 = .ok (.aload_n 0, 1) := by decide +kernel
theorem dX5_readSpud_13 : decode cX5_readSpud 13 = .ok (.getfield 12, 3) := by decide +kernel
theorem dX5_readSpud_16 : decode cX5_readSpud 16 = .ok (.iconst 5, 1) := by decide +kernel
theorem dX5_readSpud_17 : decode cX5_readSpud 17 = .ok (.invokevirtual 143, 3) := by decide +kernel
theorem dX5_readSpud_20 : decode cX5_readSpud 20 = .ok (.aload_n 0, 1) := by decide +kernel
theorem dX5_readSpud_21 : decode cX5_readSpud 21 = .ok (.getfield 12, 3) := by decide +kernel
theorem dX5_readSpud_24 : decode cX5_readSpud 24 = .ok (.iconst 1, 1) := by decide +kernel
theorem dX5_readSpud_25 : decode cX5_readSpud 25 = .ok (.bipush 9, 2) := by decide +kernel
theorem dX5_readSpud_27 : decode cX5_readSpud 27 = .ok (.invokevirtual 147, 3) := by decide +kernel
theorem dX5_readSpud_30 : decode cX5_readSpud 30 = .ok (.istore_n 2, 1) := by decide +kernel
theorem dX5_readSpud_31 : decode cX5_readSpud 31 = .ok (.aload_n 0, 1) := by decide +kernel
theorem dX5_readSpud_32 : decode cX5_readSpud 32 = .ok (.getfield 12, 3) := by decide +kernel
theorem dX5_readSpud_35 : decode cX5_readSpud 35 = .ok (.invokevirtual 178, 3) := by decide +kernel
theorem dX5_readSpud_38 : decode cX5_readSpud 38 = .ok (.istore_n 3, 1) := by decide +kernel
theorem dX5_readSpud_39 : decode cX5_readSpud 39 = .ok (.iload_n 1, 1) := by decide +kernel
theorem dX5_readSpud_40 : decode cX5_readSpud 40 = .ok (.ifCond .eq 16, 3) := by decide +kernel
theorem dX5_readSpud_43 : decode cX5_readSpud 43 = .ok (.aload_n 0, 1) := by decide +kernel
theorem dX5_readSpud_44 : decode cX5_readSpud 44 = .ok (.getfield 12, 3) := by decide +kernel
theorem dX5_readSpud_47 : decode cX5_readSpud 47 = .ok (.iconst 0, 1) := by decide +kernel
theorem dX5_readSpud_48 : decode cX5_readSpud 48 = .ok (.bipush 23, 2) := by decide +kernel
theorem dX5_readSpud_50 : decode cX5_readSpud 50 = .ok (.invokevirtual 147, 3) := by decide +kernel
theorem dX5_readSpud_53 : decode cX5_readSpud 53 = .ok (.goto 5, 3) := by decide +kernel
theorem dX5_readSpud_56 : decode cX5_readSpud 56 = .ok (.bipush (-4), 2) := by decide +kernel
theorem dX5_readSpud_58 : decode cX5_readSpud 58 = .ok (.istore 4, 2) := by decide +kernel
theorem dX5_readSpud_60 : decode cX5_readSpud 60 = .ok (.iload_n 1, 1) := by decide +kernel
theorem dX5_readSpud_61 : decode cX5_readSpud 61 = .ok (.ifCond .eq 25, 3) := by decide +kernel
theorem dX5_readSpud_64 : decode cX5_readSpud 64 = .ok (.aload_n 0, 1) := by decide +kernel
theorem dX5_readSpud_65 : decode cX5_readSpud 65 = .ok (.getfield 21, 3) := by decide +kernel
theorem dX5_readSpud_68 : decode cX5_readSpud 68 = .ok (.iload 4, 2) := by decide +kernel
theorem dX5_readSpud_70 : decode cX5_readSpud 70 = .ok (.invokevirtual 182, 3) := by decide +kernel
theorem dX5_readSpud_73 : decode cX5_readSpud 73 = .ok (.bipush (-4), 2) := by decide +kernel
theorem dX5_readSpud_75 : decode cX5_readSpud 75 = .ok (.if_icmp .eq 11, 3) := by decide +kernel
theorem dX5_readSpud_78 : decode cX5_readSpud 78 = .ok (.aload_n 0, 1) := by decide +kernel
theorem dX5_readSpud_79 : decode cX5_readSpud 79 = .ok (.getfield 12, 3) := by decide +kernel
theorem dX5_readSpud_82 : decode cX5_readSpud 82 = .ok (.iconst 4, 1) := by decide +kernel
theorem dX5_readSpud_83 : decode cX5_readSpud 83 = .ok (.invokevirtual 143, 3) := by decide +kernel
theorem dX5_readSpud_86 : decode cX5_readSpud 86 = .ok (.aload_n 0, 1) := by decide +kernel
theorem dX5_readSpud_87 : decode cX5_readSpud 87 = .ok (.aload_n 0, 1) := by decide +kernel
theorem dX5_readSpud_88 : decode cX5_readSpud 88 = .ok (.getfield 78, 3) := by decide +kernel
theorem dX5_readSpud_91 : decode cX5_readSpud 91 = .ok (.iload 4, 2) := by decide +kernel
theorem dX5_readSpud_93 : decode cX5_readSpud 93 = .ok (.invokestatic 163, 3) := by decide +kernel
theorem dX5_readSpud_96 : decode cX5_readSpud 96 = .ok (.putfield 78, 3) := by decide +kernel
theorem dX5_readSpud_99 : decode cX5_readSpud 99 = .ok (.aload_n 0, 1) := by decide +kernel
theorem dX5_readSpud_100 : decode cX5_readSpud 100 = .ok (.getfield 12, 3) := by decide +kernel
theorem dX5_readSpud_103 : decode cX5_readSpud 103 = .ok (.invokevirtual 160, 3) := by decide +kernel
theorem dX5_readSpud_106 : decode cX5_readSpud 106 = .ok (.aload_n 0, 1) := by decide +kernel
theorem dX5_readSpud_107 : decode cX5_readSpud 107 = .ok (.getfield 12, 3) := by decide +kernel
theorem dX5_readSpud_110 : decode cX5_readSpud 110 = .ok (.invokevirtual 35, 3) := by decide +kernel
theorem dX5_readSpud_113 : decode cX5_readSpud 113 = .ok (.ifCond .eq 37, 3) := by decide +kernel
theorem dX5_readSpud_116 : decode cX5_readSpud 116 = .ok (.aload_n 0, 1) := by decide +kernel
theorem dX5_readSpud_117 : decode cX5_readSpud 117 = .ok (.getfield 21, 3) := by decide +kernel
theorem dX5_readSpud_120 : decode cX5_readSpud 120 = .ok (.iload_n 2, 1) := by decide +kernel
theorem dX5_readSpud_121 : decode cX5_readSpud 121 = .ok (.iload_n 3, 1) := by decide +kernel
theorem dX5_readSpud_122 : decode cX5_readSpud 122 = .ok (.invokevirtual 186, 3) := by decide +kernel
theorem dX5_readSpud_125 : decode cX5_readSpud 125 = .ok (.ifCond .eq 25, 3) := by decide +kernel
theorem dX5_readSpud_128 : decode cX5_readSpud 128 = .ok (.aload_n 0, 1) := by decide +kernel
theorem dX5_readSpud_129 : decode cX5_readSpud 129 = .ok (.getfield 21, 3) := by decide +kernel
theorem dX5_readSpud_132 : decode cX5_readSpud 132 = .ok (.getfield 104, 3) := by decide +kernel
theorem dX5_readSpud_135 : decode cX5_readSpud 135 = .ok (.aload_n 0, 1) := by decide +kernel
theorem dX5_readSpud_136 : decode cX5_readSpud 136 = .ok (.getfield 21, 3) := by decide +kernel
theorem dX5_readSpud_139 : decode cX5_readSpud 139 = .ok (.getfield 101, 3) := by decide +kernel
theorem dX5_readSpud_142 : decode cX5_readSpud 142 = .ok (.iconst 1, 1) := by decide +kernel
theorem dX5_readSpud_143 : decode cX5_readSpud 143 = .ok (.isub, 1) := by decide +kernel
theorem dX5_readSpud_144 : decode cX5_readSpud 144 = .ok (.aaload, 1) := by decide +kernel
theorem dX5_readSpud_145 : decode cX5_readSpud 145 = .ok (.iload 4, 2) := by decide +kernel
theorem dX5_readSpud_147 : decode cX5_readSpud 147 = .ok (.putfield 190, 3) := by decide +kernel
theorem dX5_readSpud_150 : decode cX5_readSpud 150 = .ok (.return_, 1) := by decide +kernel
theorem dX5_readMemo_0 : decode cX5_readMemo 0 = .ok (.aload_n 0, 1) := by decide +kernel
theorem dX5_readMemo_1 : decode cX5_readMemo 1 = .ok (.getfield 12, 3) := by decide +kernel
theorem dX5_readMemo_4 : decode cX5_readMemo 4 = .ok (.iconst 0, 1) := by decide +kernel
theorem dX5_readMemo_5 : decode cX5_readMemo 5 = .ok (.iconst 5, 1) := by decide +kernel
theorem dX5_readMemo_6 : decode cX5_readMemo 6 = .ok (.invokevirtual 147, 3) := by decide +kernel
theorem dX5_readMemo_9 : decode cX5_readMemo 9 = .ok (.istore_n 1, 1) := by decide +kernel
theorem dX5_readMemo_10 : decode cX5_readMemo 10 = .ok (.aload_n 0, 1) := by decide +kernel
theorem dX5_readMemo_11 : decode cX5_readMemo 11 = .ok (.getfield 25, 3) := by decide +kernel
theorem dX5_readMemo_14 : decode cX5_readMemo 14 = .ok (.iload_n 1, 1) := by decide +kernel
theorem dX5_readMemo_15 : decode cX5_readMemo 15 = .ok (.iaload, 1) := by decide +kernel
theorem dX5_readMemo_16 : decode cX5_readMemo 16 = .ok (.bipush (-4), 2) := by decide +kernel
theorem dX5_readMemo_18 : decode cX5_readMemo 18 = .ok (.if_icmp .eq 11, 3) := by decide +kernel
theorem dX5_readMemo_21 : decode cX5_readMemo 21 = .ok (.aload_n 0, 1) := by decide +kernel
theorem dX5_readMemo_22 : decode cX5_readMemo 22 = .ok (.getfield 12, 3) := by decide +kernel
theorem dX5_readMemo_25 : decode cX5_readMemo 25 = .ok (.iconst 4, 1) := by decide +kernel
theorem dX5_readMemo_26 : decode cX5_readMemo 26 = .ok (.invokevirtual 143, 3) := by decide +kernel
theorem dX5_readMemo_29 : decode cX5_readMemo 29 = .ok (.aload_n 0, 1) := by decide +kernel
theorem dX5_readMemo_30 : decode cX5_readMemo 30 = .ok (.aload_n 0, 1) := by decide +kernel
theorem dX5_readMemo_31 : decode cX5_readMemo 31 = .ok (.getfield 81, 3) := by decide +kernel
theorem dX5_readMemo_34 : decode cX5_readMemo 34 = .ok (.iload_n 1, 1) := by decide +kernel
theorem dX5_readMemo_35 : decode cX5_readMemo 35 = .ok (.invokestatic 163, 3) := by decide +kernel
theorem dX5_readMemo_38 : decode cX5_readMemo 38 = .ok (.putfield 81, 3) := by decide +kernel
theorem dX5_readMemo_41 : decode cX5_readMemo 41 = .ok (.aload_n 0, 1) := by decide +kernel
theorem dX5_readMemo_42 : decode cX5_readMemo 42 = .ok (.getfield 25, 3) := by decide +kernel
theorem dX5_readMemo_45 : decode cX5_readMemo 45 = .ok (.iload_n 1, 1) := by decide +kernel
theorem dX5_readMemo_46 : decode cX5_readMemo 46 = .ok (.aload_n 0, 1) := by decide +kernel
theorem dX5_readMemo_47 : decode cX5_readMemo 47 = .ok (.getfield 12, 3) := by decide +kernel
theorem dX5_readMemo_50 : decode cX5_readMemo 50 = .ok (.iconst 0, 1) := by decide +kernel
theorem dX5_readMemo_51 : decode cX5_readMemo 51 = .ok (.bipush 7, 2) := by decide +kernel
theorem dX5_readMemo_53 : decode cX5_readMemo 53 = .ok (.invokevirtual 147, 3) := by decide +kernel
theorem dX5_readMemo_56 : decode cX5_readMemo 56 = .ok (.iastore, 1) := by decide +kernel
theorem dX5_readMemo_57 : decode cX5_readMemo 57 = .ok (.aload_n 0, 1) := by decide +kernel
theorem dX5_readMemo_58 : decode cX5_readMemo 58 = .ok (.aload_n 0, 1) := by decide +kernel
theorem dX5_readMemo_59 : decode cX5_readMemo 59 = .ok (.getfield 75, 3) := by decide +kernel
theorem dX5_readMemo_62 : decode cX5_readMemo 62 = .ok (.aload_n 0, 1) := by decide +kernel
theorem dX5_readMemo_63 : decode cX5_readMemo 63 = .ok (.getfield 25, 3) := by decide +kernel
theorem dX5_readMemo_66 : decode cX5_readMemo 66 = .ok (.iload_n 1, 1) := by decide +kernel
theorem dX5_readMemo_67 : decode cX5_readMemo 67 = .ok (.iaload, 1) := by decide +kernel
theorem dX5_readMemo_68 : decode cX5_readMemo 68 = .ok (.invokestatic 163, 3) := by decide +kernel
theorem dX5_readMemo_71 : decode cX5_readMemo 71 = .ok (.putfield 75, 3) := by decide +kernel
theorem dX5_readMemo_74 : decode cX5_readMemo 74 = .ok (.aload_n 0, 1) := by decide +kernel
theorem dX5_readMemo_75 : decode cX5_readMemo 75 = .ok (.getfield 12, 3) := by decide +kernel
theorem dX5_readMemo_78 : decode cX5_readMemo 78 = .ok (.invokevirtual 160, 3) := by decide +kernel
theorem dX5_readMemo_81 : decode cX5_readMemo 81 = .ok (.return_, 1) := by decide +kernel
theorem dX6_init_0 : decode cX6_init 0 = .ok (.aload_n 0, 1) := by decide +kernel
theorem dX6_init_1 : decode cX6_init 1 = .ok (.invokespecial 3, 3) := by decide +kernel
theorem dX6_init_4 : decode cX6_init 4 = .ok (.aload_n 0, 1) := by decide +kernel
theorem dX6_init_5 : decode cX6_init 5 = .ok (.bipush 40, 2) := by decide +kernel
theorem dX6_init_7 : decode cX6_init 7 = .ok (.newarray .int, 2) := by decide +kernel
theorem dX6_init_9 : decode cX6_init 9 = .ok (.putfield 9, 3) := by decide +kernel
theorem dX6_init_12 : decode cX6_init 12 = .ok (.aload_n 0, 1) := by decide +kernel
theorem dX6_init_13 : decode cX6_init 13 = .ok (.bipush (-4), 2) := by decide +kernel
theorem dX6_init_15 : decode cX6_init 15 = .ok (.putfield 15, 3) := by decide +kernel
theorem dX6_init_18 : decode cX6_init 18 = .ok (.return_, 1) := by decide +kernel
theorem dX6_renew_0 : decode cX6_renew 0 = .ok (.aload_n 0, 1) := by decide +kernel
theorem dX6_renew_1 : decode cX6_renew 1 = .ok (.iload_n 1, 1) := by decide +kernel
theorem dX6_renew_2 : decode cX6_renew 2 = .ok (.putfield 19, 3) := by decide +kernel
theorem dX6_renew_5 : decode cX6_renew 5 = .ok (.aload_n 0, 1) := by decide +kernel
theorem dX6_renew_6 : decode cX6_renew 6 = .ok (.iload_n 2, 1) := by decide +kernel
theorem dX6_renew_7 : decode cX6_renew 7 = .ok (.putfield 15, 3) := by decide +kernel
theorem dX6_renew_10 : decode cX6_renew 10 = .ok (.aload_n 0, 1) := by decide +kernel
theorem dX6_renew_11 : decode cX6_renew 11 = .ok (.getfield 9, 3) := by decide +kernel
theorem dX6_renew_14 : decode cX6_renew 14 = .ok (.iconst 0, 1) := by decide +kernel
theorem dX6_renew_15 : decode cX6_renew 15 = .ok (.invokestatic 22, 3) := by decide +kernel
theorem dX6_renew_18 : decode cX6_renew 18 = .ok (.return_, 1) := by decide +kernel
theorem dX6_faultAt_0 : decode cX6_faultAt 0 = .ok (.aload_n 0, 1) := by decide +kernel
theorem dX6_faultAt_1 : decode cX6_faultAt 1 = .ok (.getfield 15, 3) := by decide +kernel
theorem dX6_faultAt_4 : decode cX6_faultAt 4 = .ok (.bipush (-4), 2) := by decide +kernel
theorem dX6_faultAt_6 : decode cX6_faultAt 6 = .ok (.if_icmp .ne 5, 3) := by decide +kernel
theorem dX6_faultAt_9 : decode cX6_faultAt 9 = .ok (.iconst 1, 1) := by decide +kernel
theorem dX6_faultAt_10 : decode cX6_faultAt 10 = .ok (.ireturn, 1) := by decide +kernel
theorem dX6_faultAt_11 : decode cX6_faultAt 11 = .ok (.iload_n 1, 1) := by decide +kernel
theorem dX6_faultAt_12 : decode cX6_faultAt 12 = .ok (.ifCond .lt 24, 3) := by decide +kernel
theorem dX6_faultAt_15 : decode cX6_faultAt 15 = .ok (.iload_n 1, 1) := by decide +kernel
theorem dX6_faultAt_16 : decode cX6_faultAt 16 = .ok (.aload_n 0, 1) := by decide +kernel
theorem dX6_faultAt_17 : decode cX6_faultAt 17 = .ok (.getfield 15, 3) := by decide +kernel
theorem dX6_faultAt_20 : decode cX6_faultAt 20 = .ok (.if_icmp .ge 16, 3) := by decide +kernel
theorem dX6_faultAt_23 : decode cX6_faultAt 23 = .ok (.iload_n 1, 1) := by decide +kernel
theorem dX6_faultAt_24 : decode cX6_faultAt 24 = .ok (.aload_n 0, 1) := by decide +kernel
theorem dX6_faultAt_25 : decode cX6_faultAt 25 = .ok (.getfield 9, 3) := by decide +kernel
theorem dX6_faultAt_28 : decode cX6_faultAt 28 = .ok (.arraylength, 1) := by decide +kernel
theorem dX6_faultAt_29 : decode cX6_faultAt 29 = .ok (.if_icmp .ge 7, 3) := by decide +kernel
theorem dX6_faultAt_32 : decode cX6_faultAt 32 = .ok (.iconst 0, 1) := by decide +kernel
theorem dX6_faultAt_33 : decode cX6_faultAt 33 = .ok (.goto 4, 3) := by decide +kernel
theorem dX6_faultAt_36 : decode cX6_faultAt 36 = .ok (.iconst 2, 1) := by decide +kernel
theorem dX6_faultAt_37 : decode cX6_faultAt 37 = .ok (.ireturn, 1) := by decide +kernel
theorem dX6_pairFault_0 : decode cX6_pairFault 0 = .ok (.aload_n 0, 1) := by decide +kernel
theorem dX6_pairFault_1 : decode cX6_pairFault 1 = .ok (.getfield 15, 3) := by decide +kernel
theorem dX6_pairFault_4 : decode cX6_pairFault 4 = .ok (.bipush (-4), 2) := by decide +kernel
theorem dX6_pairFault_6 : decode cX6_pairFault 6 = .ok (.if_icmp .eq 13, 3) := by decide +kernel
theorem dX6_pairFault_9 : decode cX6_pairFault 9 = .ok (.aload_n 0, 1) := by decide +kernel
theorem dX6_pairFault_10 : decode cX6_pairFault 10 = .ok (.getfield 19, 3) := by decide +kernel
theorem dX6_pairFault_13 : decode cX6_pairFault 13 = .ok (.iload_n 1, 1) := by decide +kernel
theorem dX6_pairFault_14 : decode cX6_pairFault 14 = .ok (.if_icmp .eq 5, 3) := by decide +kernel
theorem dX6_pairFault_17 : decode cX6_pairFault 17 = .ok (.iconst 3, 1) := by decide +kernel
theorem dX6_pairFault_18 : decode cX6_pairFault 18 = .ok (.ireturn, 1) := by decide +kernel
theorem dX6_pairFault_19 : decode cX6_pairFault 19 = .ok (.aload_n 0, 1) := by decide +kernel
theorem dX6_pairFault_20 : decode cX6_pairFault 20 = .ok (.iload_n 2, 1) := by decide +kernel
theorem dX6_pairFault_21 : decode cX6_pairFault 21 = .ok (.invokevirtual 28, 3) := by decide +kernel
theorem dX6_pairFault_24 : decode cX6_pairFault 24 = .ok (.istore_n 3, 1) := by decide +kernel
theorem dX6_pairFault_25 : decode cX6_pairFault 25 = .ok (.iload_n 3, 1) := by decide +kernel
theorem dX6_pairFault_26 : decode cX6_pairFault 26 = .ok (.ifCond .eq 7, 3) := by decide +kernel
theorem dX6_pairFault_29 : decode cX6_pairFault 29 = .ok (.iload_n 3, 1) := by decide +kernel
theorem dX6_pairFault_30 : decode cX6_pairFault 30 = .ok (.goto 10, 3) := by decide +kernel
theorem dX6_pairFault_33 : decode cX6_pairFault 33 = .ok (.aload_n 0, 1) := by decide +kernel
theorem dX6_pairFault_34 : decode cX6_pairFault 34 = .ok (.iload_n 2, 1) := by decide +kernel
theorem dX6_pairFault_35 : decode cX6_pairFault 35 = .ok (.iconst 1, 1) := by decide +kernel
theorem dX6_pairFault_36 : decode cX6_pairFault 36 = .ok (.iadd, 1) := by decide +kernel
theorem dX6_pairFault_37 : decode cX6_pairFault 37 = .ok (.invokevirtual 28, 3) := by decide +kernel
theorem dX6_pairFault_40 : decode cX6_pairFault 40 = .ok (.ireturn, 1) := by decide +kernel
theorem dX6_valueAt_0 : decode cX6_valueAt 0 = .ok (.aload_n 0, 1) := by decide +kernel
theorem dX6_valueAt_1 : decode cX6_valueAt 1 = .ok (.iload_n 1, 1) := by decide +kernel
theorem dX6_valueAt_2 : decode cX6_valueAt 2 = .ok (.invokevirtual 28, 3) := by decide +kernel
theorem dX6_valueAt_5 : decode cX6_valueAt 5 = .ok (.ifCond .ne 12, 3) := by decide +kernel
theorem dX6_valueAt_8 : decode cX6_valueAt 8 = .ok (.aload_n 0, 1) := by decide +kernel
theorem dX6_valueAt_9 : decode cX6_valueAt 9 = .ok (.getfield 9, 3) := by decide +kernel
theorem dX6_valueAt_12 : decode cX6_valueAt 12 = .ok (.iload_n 1, 1) := by decide +kernel
theorem dX6_valueAt_13 : decode cX6_valueAt 13 = .ok (.iaload, 1) := by decide +kernel
theorem dX6_valueAt_14 : decode cX6_valueAt 14 = .ok (.goto 4, 3) := by decide +kernel
theorem dX6_valueAt_17 : decode cX6_valueAt 17 = .ok (.iconst 0, 1) := by decide +kernel
theorem dX6_valueAt_18 : decode cX6_valueAt 18 = .ok (.ireturn, 1) := by decide +kernel
theorem dX6_put_0 : decode cX6_put 0 = .ok (.aload_n 0, 1) := by decide +kernel
theorem dX6_put_1 : decode cX6_put 1 = .ok (.iload_n 1, 1) := by decide +kernel
theorem dX6_put_2 : decode cX6_put 2 = .ok (.invokevirtual 28, 3) := by decide +kernel
theorem dX6_put_5 : decode cX6_put 5 = .ok (.ifCond .eq 4, 3) := by decide +kernel
theorem dX6_put_8 : decode cX6_put 8 = .ok (.return_, 1) := by decide +kernel
theorem dX6_put_9 : decode cX6_put 9 = .ok (.aload_n 0, 1) := by decide +kernel
theorem dX6_put_10 : decode cX6_put 10 = .ok (.getfield 19, 3) := by decide +kernel
theorem dX6_put_13 : decode cX6_put 13 = .ok (.lookupswitch 49 #[(0, 27), (1, 38)], 27) := by decide +kernel
theorem dX6_put_40 : decode cX6_put 40 = .ok (.aload_n 0, 1) := by decide +kernel
theorem dX6_put_41 : decode cX6_put 41 = .ok (.getfield 9, 3) := by decide +kernel
theorem dX6_put_44 : decode cX6_put 44 = .ok (.iload_n 1, 1) := by decide +kernel
theorem dX6_put_45 : decode cX6_put 45 = .ok (.iload_n 2, 1) := by decide +kernel
theorem dX6_put_46 : decode cX6_put 46 = .ok (.i2b, 1) := by decide +kernel
theorem dX6_put_47 : decode cX6_put 47 = .ok (.iastore, 1) := by decide +kernel
theorem dX6_put_48 : decode cX6_put 48 = .ok (.goto 21, 3) := by decide +kernel
theorem dX6_put_51 : decode cX6_put 51 = .ok (.aload_n 0, 1) := by decide +kernel
theorem dX6_put_52 : decode cX6_put 52 = .ok (.getfield 9, 3) := by decide +kernel
theorem dX6_put_55 : decode cX6_put 55 = .ok (.iload_n 1, 1) := by decide +kernel
theorem dX6_put_56 : decode cX6_put 56 = .ok (.iload_n 2, 1) := by decide +kernel
theorem dX6_put_57 : decode cX6_put 57 = .ok (.i2s, 1) := by decide +kernel
theorem dX6_put_58 : decode cX6_put 58 = .ok (.iastore, 1) := by decide +kernel
theorem dX6_put_59 : decode cX6_put 59 = .ok (.goto 10, 3) := by decide +kernel
theorem dX6_put_62 : decode cX6_put 62 = .ok (.aload_n 0, 1) := by decide +kernel
theorem dX6_put_63 : decode cX6_put 63 = .ok (.getfield 9, 3) := by decide +kernel
theorem dX6_put_66 : decode cX6_put 66 = .ok (.iload_n 1, 1) := by decide +kernel
theorem dX6_put_67 : decode cX6_put 67 = .ok (.iload_n 2, 1) := by decide +kernel
theorem dX6_put_68 : decode cX6_put 68 = .ok (.iastore, 1) := by decide +kernel
theorem dX6_put_69 : decode cX6_put 69 = .ok (.return_, 1) := by decide +kernel
theorem dX7_init_0 : decode cX7_init 0 = .ok (.aload_n 0, 1) := by decide +kernel
theorem dX7_init_1 : decode cX7_init 1 = .ok (.invokespecial 3, 3) := by decide +kernel
theorem dX7_init_4 : decode cX7_init 4 = .ok (.return_, 1) := by decide +kernel
theorem dX7_becomeRaw_0 : decode cX7_becomeRaw 0 = .ok (.aload_n 0, 1) := by decide +kernel
theorem dX7_becomeRaw_1 : decode cX7_becomeRaw 1 = .ok (.iload_n 1, 1) := by decide +kernel
theorem dX7_becomeRaw_2 : decode cX7_becomeRaw 2 = .ok (.putfield 9, 3) := by decide +kernel
theorem dX7_becomeRaw_5 : decode cX7_becomeRaw 5 = .ok (.aload_n 0, 1) := by decide +kernel
theorem dX7_becomeRaw_6 : decode cX7_becomeRaw 6 = .ok (.iload_n 2, 1) := by decide +kernel
theorem dX7_becomeRaw_7 : decode cX7_becomeRaw 7 = .ok (.putfield 15, 3) := by decide +kernel
theorem dX7_becomeRaw_10 : decode cX7_becomeRaw 10 = .ok (.aload_n 0, 1) := by decide +kernel
theorem dX7_becomeRaw_11 : decode cX7_becomeRaw 11 = .ok (.bipush (-4), 2) := by decide +kernel
theorem dX7_becomeRaw_13 : decode cX7_becomeRaw 13 = .ok (.putfield 18, 3) := by decide +kernel
theorem dX7_becomeRaw_16 : decode cX7_becomeRaw 16 = .ok (.aload_n 0, 1) := by decide +kernel
theorem dX7_becomeRaw_17 : decode cX7_becomeRaw 17 = .ok (.iconst 0, 1) := by decide +kernel
theorem dX7_becomeRaw_18 : decode cX7_becomeRaw 18 = .ok (.putfield 21, 3) := by decide +kernel
theorem dX7_becomeRaw_21 : decode cX7_becomeRaw 21 = .ok (.aload_n 0, 1) := by decide +kernel
theorem dX7_becomeRaw_22 : decode cX7_becomeRaw 22 = .ok (.iconst 0, 1) := by decide +kernel
theorem dX7_becomeRaw_23 : decode cX7_becomeRaw 23 = .ok (.putfield 24, 3) := by decide +kernel
theorem dX7_becomeRaw_26 : decode cX7_becomeRaw 26 = .ok (.aload_n 0, 1) := by decide +kernel
theorem dX7_becomeRaw_27 : decode cX7_becomeRaw 27 = .ok (.iconst 0, 1) := by decide +kernel
theorem dX7_becomeRaw_28 : decode cX7_becomeRaw 28 = .ok (.putfield 27, 3) := by decide +kernel
theorem dX7_becomeRaw_31 : decode cX7_becomeRaw 31 = .ok (.aload_n 0, 1) := by decide +kernel
theorem dX7_becomeRaw_32 : decode cX7_becomeRaw 32 = .ok (.bipush (-4), 2) := by decide +kernel
theorem dX7_becomeRaw_34 : decode cX7_becomeRaw 34 = .ok (.putfield 30, 3) := by decide +kernel
theorem dX7_becomeRaw_37 : decode cX7_becomeRaw 37 = .ok (.return_, 1) := by decide +kernel
theorem dX7_copyFrom_0 : decode cX7_copyFrom 0 = .ok (.aload_n 0, 1) := by decide +kernel
theorem dX7_copyFrom_1 : decode cX7_copyFrom 1 = .ok (.aload_n 1, 1) := by decide +kernel
theorem dX7_copyFrom_2 : decode cX7_copyFrom 2 = .ok (.getfield 9, 3) := by decide +kernel
theorem dX7_copyFrom_5 : decode cX7_copyFrom 5 = .ok (.putfield 9, 3) := by decide +kernel
theorem dX7_copyFrom_8 : decode cX7_copyFrom 8 = .ok (.aload_n 0, 1) := by decide +kernel
theorem dX7_copyFrom_9 : decode cX7_copyFrom 9 = .ok (.aload_n 1, 1) := by decide +kernel
theorem dX7_copyFrom_10 : decode cX7_copyFrom 10 = .ok (.getfield 15, 3) := by decide +kernel
theorem dX7_copyFrom_13 : decode cX7_copyFrom 13 = .ok (.putfield 15, 3) := by decide +kernel
theorem dX7_copyFrom_16 : decode cX7_copyFrom 16 = .ok (.aload_n 0, 1) := by decide +kernel
theorem dX7_copyFrom_17 : decode cX7_copyFrom 17 = .ok (.aload_n 1, 1) := by decide +kernel
theorem dX7_copyFrom_18 : decode cX7_copyFrom 18 = .ok (.getfield 18, 3) := by decide +kernel
theorem dX7_copyFrom_21 : decode cX7_copyFrom 21 = .ok (.putfield 18, 3) := by decide +kernel
theorem dX7_copyFrom_24 : decode cX7_copyFrom 24 = .ok (.aload_n 0, 1) := by decide +kernel
theorem dX7_copyFrom_25 : decode cX7_copyFrom 25 = .ok (.aload_n 1, 1) := by decide +kernel
theorem dX7_copyFrom_26 : decode cX7_copyFrom 26 = .ok (.getfield 21, 3) := by decide +kernel
theorem dX7_copyFrom_29 : decode cX7_copyFrom 29 = .ok (.putfield 21, 3) := by decide +kernel
theorem dX7_copyFrom_32 : decode cX7_copyFrom 32 = .ok (.aload_n 0, 1) := by decide +kernel
theorem dX7_copyFrom_33 : decode cX7_copyFrom 33 = .ok (.aload_n 1, 1) := by decide +kernel
theorem dX7_copyFrom_34 : decode cX7_copyFrom 34 = .ok (.getfield 24, 3) := by decide +kernel
theorem dX7_copyFrom_37 : decode cX7_copyFrom 37 = .ok (.putfield 24, 3) := by decide +kernel
theorem dX7_copyFrom_40 : decode cX7_copyFrom 40 = .ok (.aload_n 0, 1) := by decide +kernel
theorem dX7_copyFrom_41 : decode cX7_copyFrom 41 = .ok (.aload_n 1, 1) := by decide +kernel
theorem dX7_copyFrom_42 : decode cX7_copyFrom 42 = .ok (.getfield 27, 3) := by decide +kernel
theorem dX7_copyFrom_45 : decode cX7_copyFrom 45 = .ok (.putfield 27, 3) := by decide +kernel
theorem dX7_copyFrom_48 : decode cX7_copyFrom 48 = .ok (.aload_n 0, 1) := by decide +kernel
theorem dX7_copyFrom_49 : decode cX7_copyFrom 49 = .ok (.aload_n 1, 1) := by decide +kernel
theorem dX7_copyFrom_50 : decode cX7_copyFrom 50 = .ok (.getfield 30, 3) := by decide +kernel
theorem dX7_copyFrom_53 : decode cX7_copyFrom 53 = .ok (.putfield 30, 3) := by decide +kernel
theorem dX7_copyFrom_56 : decode cX7_copyFrom 56 = .ok (.return_, 1) := by decide +kernel
theorem dX7_bakeBy_0 : decode cX7_bakeBy 0 = .ok (.aload_n 0, 1) := by decide +kernel
theorem dX7_bakeBy_1 : decode cX7_bakeBy 1 = .ok (.bipush 99, 2) := by decide +kernel
theorem dX7_bakeBy_3 : decode cX7_bakeBy 3 = .ok (.aload_n 0, 1) := by decide +kernel
theorem dX7_bakeBy_4 : decode cX7_bakeBy 4 = .ok (.getfield 21, 3) := by decide +kernel
theorem dX7_bakeBy_7 : decode cX7_bakeBy 7 = .ok (.iload_n 1, 1) := by decide +kernel
theorem dX7_bakeBy_8 : decode cX7_bakeBy 8 = .ok (.aload_n 0, 1) := by decide +kernel
theorem dX7_bakeBy_9 : decode cX7_bakeBy 9 = .ok (.getfield 15, 3) := by decide +kernel
theorem dX7_bakeBy_12 : decode cX7_bakeBy 12 = .ok (.invokestatic 33, 3) := by decide +kernel
theorem dX7_bakeBy_15 : decode cX7_bakeBy 15 = .ok (.iadd, 1) := by decide +kernel
theorem dX7_bakeBy_16 : decode cX7_bakeBy 16 = .ok (.invokestatic 37, 3) := by decide +kernel
theorem dX7_bakeBy_19 : decode cX7_bakeBy 19 = .ok (.putfield 21, 3) := by decide +kernel
theorem dX7_bakeBy_22 : decode cX7_bakeBy 22 = .ok (.aload_n 0, 1) := by decide +kernel
theorem dX7_bakeBy_23 : decode cX7_bakeBy 23 = .ok (.bipush 99, 2) := by decide +kernel
theorem dX7_bakeBy_25 : decode cX7_bakeBy 25 = .ok (.aload_n 0, 1) := by decide +kernel
theorem dX7_bakeBy_26 : decode cX7_bakeBy 26 = .ok (.getfield 24, 3) := by decide +kernel
theorem dX7_bakeBy_29 : decode cX7_bakeBy 29 = .ok (.iload_n 1, 1) := by decide +kernel
theorem dX7_bakeBy_30 : decode cX7_bakeBy 30 = .ok (.aload_n 0, 1) := by decide +kernel
theorem dX7_bakeBy_31 : decode cX7_bakeBy 31 = .ok (.getfield 15, 3) := by decide +kernel
theorem dX7_bakeBy_34 : decode cX7_bakeBy 34 = .ok (.invokestatic 42, 3) := by decide +kernel
theorem dX7_bakeBy_37 : decode cX7_bakeBy 37 = .ok (.iadd, 1) := by decide +kernel
theorem dX7_bakeBy_38 : decode cX7_bakeBy 38 = .ok (.invokestatic 37, 3) := by decide +kernel
theorem dX7_bakeBy_41 : decode cX7_bakeBy 41 = .ok (.putfield 24, 3) := by decide +kernel
theorem dX7_bakeBy_44 : decode cX7_bakeBy 44 = .ok (.return_, 1) := by decide +kernel
theorem dX7_turnOver_0 : decode cX7_turnOver 0 = .ok (.aload_n 0, 1) := by decide +kernel
theorem dX7_turnOver_1 : decode cX7_turnOver 1 = .ok (.getfield 24, 3) := by decide +kernel
theorem dX7_turnOver_4 : decode cX7_turnOver 4 = .ok (.istore_n 1, 1) := by decide +kernel
theorem dX7_turnOver_5 : decode cX7_turnOver 5 = .ok (.aload_n 0, 1) := by decide +kernel
theorem dX7_turnOver_6 : decode cX7_turnOver 6 = .ok (.aload_n 0, 1) := by decide +kernel
theorem dX7_turnOver_7 : decode cX7_turnOver 7 = .ok (.getfield 27, 3) := by decide +kernel
theorem dX7_turnOver_10 : decode cX7_turnOver 10 = .ok (.putfield 24, 3) := by decide +kernel
theorem dX7_turnOver_13 : decode cX7_turnOver 13 = .ok (.aload_n 0, 1) := by decide +kernel
theorem dX7_turnOver_14 : decode cX7_turnOver 14 = .ok (.iload_n 1, 1) := by decide +kernel
theorem dX7_turnOver_15 : decode cX7_turnOver 15 = .ok (.putfield 27, 3) := by decide +kernel
theorem dX7_turnOver_18 : decode cX7_turnOver 18 = .ok (.return_, 1) := by decide +kernel
theorem dX7_isDone_0 : decode cX7_isDone 0 = .ok (.aload_n 0, 1) := by decide +kernel
theorem dX7_isDone_1 : decode cX7_isDone 1 = .ok (.iconst 0, 1) := by decide +kernel
theorem dX7_isDone_2 : decode cX7_isDone 2 = .ok (.invokevirtual 45, 3) := by decide +kernel
theorem dX7_isDone_5 : decode cX7_isDone 5 = .ok (.ireturn, 1) := by decide +kernel
theorem dX7_isBlack_0 : decode cX7_isBlack 0 = .ok (.aload_n 0, 1) := by decide +kernel
theorem dX7_isBlack_1 : decode cX7_isBlack 1 = .ok (.getfield 24, 3) := by decide +kernel
theorem dX7_isBlack_4 : decode cX7_isBlack 4 = .ok (.bipush 40, 2) := by decide +kernel
theorem dX7_isBlack_6 : decode cX7_isBlack 6 = .ok (.if_icmp .ge 12, 3) := by decide +kernel
theorem dX7_isBlack_9 : decode cX7_isBlack 9 = .ok (.aload_n 0, 1) := by decide +kernel
theorem dX7_isBlack_10 : decode cX7_isBlack 10 = .ok (.getfield 27, 3) := by decide +kernel
theorem dX7_isBlack_13 : decode cX7_isBlack 13 = .ok (.bipush 40, 2) := by decide +kernel
theorem dX7_isBlack_15 : decode cX7_isBlack 15 = .ok (.if_icmp .lt 7, 3) := by decide +kernel
theorem dX7_isBlack_18 : decode cX7_isBlack 18 = .ok (.iconst 1, 1) := by decide +kernel
theorem dX7_isBlack_19 : decode cX7_isBlack 19 = .ok (.goto 4, 3) := by decide +kernel
theorem dX7_isBlack_22 : decode cX7_isBlack 22 = .ok (.iconst 0, 1) := by decide +kernel
theorem dX7_isBlack_23 : decode cX7_isBlack 23 = .ok (.ireturn, 1) := by decide +kernel
theorem dX7_isGood_0 : decode cX7_isGood 0 = .ok (.aload_n 0, 1) := by decide +kernel
theorem dX7_isGood_1 : decode cX7_isGood 1 = .ok (.invokevirtual 49, 3) := by decide +kernel
theorem dX7_isGood_4 : decode cX7_isGood 4 = .ok (.ifCond .eq 14, 3) := by decide +kernel
theorem dX7_isGood_7 : decode cX7_isGood 7 = .ok (.aload_n 0, 1) := by decide +kernel
theorem dX7_isGood_8 : decode cX7_isGood 8 = .ok (.invokevirtual 53, 3) := by decide +kernel
theorem dX7_isGood_11 : decode cX7_isGood 11 = .ok (.ifCond .ne 7, 3) := by decide +kernel
theorem dX7_isGood_14 : decode cX7_isGood 14 = .ok (.iconst 1, 1) := by decide +kernel
theorem dX7_isGood_15 : decode cX7_isGood 15 = .ok (.goto 4, 3) := by decide +kernel
theorem dX7_isGood_18 : decode cX7_isGood 18 = .ok (.iconst 0, 1) := by decide +kernel
theorem dX7_isGood_19 : decode cX7_isGood 19 = .ok (.ireturn, 1) := by decide +kernel
theorem dX7_wouldBeDone_0 : decode cX7_wouldBeDone 0 = .ok (.aload_n 0, 1) := by decide +kernel
theorem dX7_wouldBeDone_1 : decode cX7_wouldBeDone 1 = .ok (.getfield 21, 3) := by decide +kernel
theorem dX7_wouldBeDone_4 : decode cX7_wouldBeDone 4 = .ok (.iload_n 1, 1) := by decide +kernel
theorem dX7_wouldBeDone_5 : decode cX7_wouldBeDone 5 = .ok (.iadd, 1) := by decide +kernel
theorem dX7_wouldBeDone_6 : decode cX7_wouldBeDone 6 = .ok (.bipush 10, 2) := by decide +kernel
theorem dX7_wouldBeDone_8 : decode cX7_wouldBeDone 8 = .ok (.aload_n 0, 1) := by decide +kernel
theorem dX7_wouldBeDone_9 : decode cX7_wouldBeDone 9 = .ok (.getfield 9, 3) := by decide +kernel
theorem dX7_wouldBeDone_12 : decode cX7_wouldBeDone 12 = .ok (.imul, 1) := by decide +kernel
theorem dX7_wouldBeDone_13 : decode cX7_wouldBeDone 13 = .ok (.if_icmp .lt 7, 3) := by decide +kernel
theorem dX7_wouldBeDone_16 : decode cX7_wouldBeDone 16 = .ok (.iconst 1, 1) := by decide +kernel
theorem dX7_wouldBeDone_17 : decode cX7_wouldBeDone 17 = .ok (.goto 4, 3) := by decide +kernel
theorem dX7_wouldBeDone_20 : decode cX7_wouldBeDone 20 = .ok (.iconst 0, 1) := by decide +kernel
theorem dX7_wouldBeDone_21 : decode cX7_wouldBeDone 21 = .ok (.ireturn, 1) := by decide +kernel
theorem dX7_wouldBeGood_0 : decode cX7_wouldBeGood 0 = .ok (.aload_n 0, 1) := by decide +kernel
theorem dX7_wouldBeGood_1 : decode cX7_wouldBeGood 1 = .ok (.iload_n 1, 1) := by decide +kernel
theorem dX7_wouldBeGood_2 : decode cX7_wouldBeGood 2 = .ok (.invokevirtual 45, 3) := by decide +kernel
theorem dX7_wouldBeGood_5 : decode cX7_wouldBeGood 5 = .ok (.ifCond .eq 29, 3) := by decide +kernel
theorem dX7_wouldBeGood_8 : decode cX7_wouldBeGood 8 = .ok (.aload_n 0, 1) := by decide +kernel
theorem dX7_wouldBeGood_9 : decode cX7_wouldBeGood 9 = .ok (.getfield 24, 3) := by decide +kernel
theorem dX7_wouldBeGood_12 : decode cX7_wouldBeGood 12 = .ok (.iload_n 2, 1) := by decide +kernel
theorem dX7_wouldBeGood_13 : decode cX7_wouldBeGood 13 = .ok (.iadd, 1) := by decide +kernel
theorem dX7_wouldBeGood_14 : decode cX7_wouldBeGood 14 = .ok (.bipush 40, 2) := by decide +kernel
theorem dX7_wouldBeGood_16 : decode cX7_wouldBeGood 16 = .ok (.if_icmp .ge 18, 3) := by decide +kernel
theorem dX7_wouldBeGood_19 : decode cX7_wouldBeGood 19 = .ok (.aload_n 0, 1) := by decide +kernel
theorem dX7_wouldBeGood_20 : decode cX7_wouldBeGood 20 = .ok (.getfield 27, 3) := by decide +kernel
theorem dX7_wouldBeGood_23 : decode cX7_wouldBeGood 23 = .ok (.iload_n 3, 1) := by decide +kernel
theorem dX7_wouldBeGood_24 : decode cX7_wouldBeGood 24 = .ok (.iadd, 1) := by decide +kernel
theorem dX7_wouldBeGood_25 : decode cX7_wouldBeGood 25 = .ok (.bipush 40, 2) := by decide +kernel
theorem dX7_wouldBeGood_27 : decode cX7_wouldBeGood 27 = .ok (.if_icmp .ge 7, 3) := by decide +kernel
theorem dX7_wouldBeGood_30 : decode cX7_wouldBeGood 30 = .ok (.iconst 1, 1) := by decide +kernel
theorem dX7_wouldBeGood_31 : decode cX7_wouldBeGood 31 = .ok (.goto 4, 3) := by decide +kernel
theorem dX7_wouldBeGood_34 : decode cX7_wouldBeGood 34 = .ok (.iconst 0, 1) := by decide +kernel
theorem dX7_wouldBeGood_35 : decode cX7_wouldBeGood 35 = .ok (.ireturn, 1) := by decide +kernel
theorem dX7_tell_0 : decode cX7_tell 0 = .ok (.iload_n 1, 1) := by decide +kernel
theorem dX7_tell_1 : decode cX7_tell 1 = .ok (.tableswitch 129 0 9 #[55, 60, 65, 70, 75, 80, 85, 98, 111, 124], 55) := by decide +kernel
theorem dX7_tell_56 : decode cX7_tell 56 = .ok (.aload_n 0, 1) := by decide +kernel
theorem dX7_tell_57 : decode cX7_tell 57 = .ok (.getfield 9, 3) := by decide +kernel
theorem dX7_tell_60 : decode cX7_tell 60 = .ok (.ireturn, 1) := by decide +kernel
theorem dX7_tell_61 : decode cX7_tell 61 = .ok (.aload_n 0, 1) := by decide +kernel
theorem dX7_tell_62 : decode cX7_tell 62 = .ok (.getfield 15, 3) := by decide +kernel
theorem dX7_tell_65 : decode cX7_tell 65 = .ok (.ireturn, 1) := by decide +kernel
theorem dX7_tell_66 : decode cX7_tell 66 = .ok (.aload_n 0, 1) := by decide +kernel
theorem dX7_tell_67 : decode cX7_tell 67 = .ok (.getfield 18, 3) := by decide +kernel
theorem dX7_tell_70 : decode cX7_tell 70 = .ok (.ireturn, 1) := by decide +kernel
theorem dX7_tell_71 : decode cX7_tell 71 = .ok (.aload_n 0, 1) := by decide +kernel
theorem dX7_tell_72 : decode cX7_tell 72 = .ok (.getfield 21, 3) := by decide +kernel
theorem dX7_tell_75 : decode cX7_tell 75 = .ok (.ireturn, 1) := by decide +kernel
theorem dX7_tell_76 : decode cX7_tell 76 = .ok (.aload_n 0, 1) := by decide +kernel
theorem dX7_tell_77 : decode cX7_tell 77 = .ok (.getfield 24, 3) := by decide +kernel
theorem dX7_tell_80 : decode cX7_tell 80 = .ok (.ireturn, 1) := by decide +kernel
theorem dX7_tell_81 : decode cX7_tell 81 = .ok (.aload_n 0, 1) := by decide +kernel
theorem dX7_tell_82 : decode cX7_tell 82 = .ok (.getfield 27, 3) := by decide +kernel
theorem dX7_tell_85 : decode cX7_tell 85 = .ok (.ireturn, 1) := by decide +kernel
theorem dX7_tell_86 : decode cX7_tell 86 = .ok (.aload_n 0, 1) := by decide +kernel
theorem dX7_tell_87 : decode cX7_tell 87 = .ok (.invokevirtual 49, 3) := by decide +kernel
theorem dX7_tell_90 : decode cX7_tell 90 = .ok (.ifCond .eq 7, 3) := by decide +kernel
theorem dX7_tell_93 : decode cX7_tell 93 = .ok (.iconst 1, 1) := by decide +kernel
theorem dX7_tell_94 : decode cX7_tell 94 = .ok (.goto 4, 3) := by decide +kernel
theorem dX7_tell_97 : decode cX7_tell 97 = .ok (.iconst 0, 1) := by decide +kernel
theorem dX7_tell_98 : decode cX7_tell 98 = .ok (.ireturn, 1) := by decide +kernel
theorem dX7_tell_99 : decode cX7_tell 99 = .ok (.aload_n 0, 1) := by decide +kernel
theorem dX7_tell_100 : decode cX7_tell 100 = .ok (.invokevirtual 53, 3) := by decide +kernel
theorem dX7_tell_103 : decode cX7_tell 103 = .ok (.ifCond .eq 7, 3) := by decide +kernel
theorem dX7_tell_106 : decode cX7_tell 106 = .ok (.iconst 1, 1) := by decide +kernel
theorem dX7_tell_107 : decode cX7_tell 107 = .ok (.goto 4, 3) := by decide +kernel
theorem dX7_tell_110 : decode cX7_tell 110 = .ok (.iconst 0, 1) := by decide +kernel
theorem dX7_tell_111 : decode cX7_tell 111 = .ok (.ireturn, 1) := by decide +kernel
theorem dX7_tell_112 : decode cX7_tell 112 = .ok (.aload_n 0, 1) := by decide +kernel
theorem dX7_tell_113 : decode cX7_tell 113 = .ok (.invokevirtual 56, 3) := by decide +kernel
theorem dX7_tell_116 : decode cX7_tell 116 = .ok (.ifCond .eq 7, 3) := by decide +kernel
theorem dX7_tell_119 : decode cX7_tell 119 = .ok (.iconst 1, 1) := by decide +kernel
theorem dX7_tell_120 : decode cX7_tell 120 = .ok (.goto 4, 3) := by decide +kernel
theorem dX7_tell_123 : decode cX7_tell 123 = .ok (.iconst 0, 1) := by decide +kernel
theorem dX7_tell_124 : decode cX7_tell 124 = .ok (.ireturn, 1) := by decide +kernel
theorem dX7_tell_125 : decode cX7_tell 125 = .ok (.aload_n 0, 1) := by decide +kernel
theorem dX7_tell_126 : decode cX7_tell 126 = .ok (.getfield 30, 3) := by decide +kernel
theorem dX7_tell_129 : decode cX7_tell 129 = .ok (.ireturn, 1) := by decide +kernel
theorem dX7_tell_130 : decode cX7_tell 130 = .ok (.iconst (-1), 1) := by decide +kernel
theorem dX7_tell_131 : decode cX7_tell 131 = .ok (.ireturn, 1) := by decide +kernel
theorem dX7_appeal_0 : decode cX7_appeal 0 = .ok (.aload_n 0, 1) := by decide +kernel
theorem dX7_appeal_1 : decode cX7_appeal 1 = .ok (.invokevirtual 56, 3) := by decide +kernel
theorem dX7_appeal_4 : decode cX7_appeal 4 = .ok (.ifCond .eq 12, 3) := by decide +kernel
theorem dX7_appeal_7 : decode cX7_appeal 7 = .ok (.sipush 200, 3) := by decide +kernel
theorem dX7_appeal_10 : decode cX7_appeal 10 = .ok (.aload_n 0, 1) := by decide +kernel
theorem dX7_appeal_11 : decode cX7_appeal 11 = .ok (.getfield 9, 3) := by decide +kernel
theorem dX7_appeal_14 : decode cX7_appeal 14 = .ok (.iadd, 1) := by decide +kernel
theorem dX7_appeal_15 : decode cX7_appeal 15 = .ok (.ireturn, 1) := by decide +kernel
theorem dX7_appeal_16 : decode cX7_appeal 16 = .ok (.aload_n 0, 1) := by decide +kernel
theorem dX7_appeal_17 : decode cX7_appeal 17 = .ok (.invokevirtual 53, 3) := by decide +kernel
theorem dX7_appeal_20 : decode cX7_appeal 20 = .ok (.ifCond .eq 7, 3) := by decide +kernel
theorem dX7_appeal_23 : decode cX7_appeal 23 = .ok (.iconst 0, 1) := by decide +kernel
theorem dX7_appeal_24 : decode cX7_appeal 24 = .ok (.goto 10, 3) := by decide +kernel
theorem dX7_appeal_27 : decode cX7_appeal 27 = .ok (.bipush 100, 2) := by decide +kernel
theorem dX7_appeal_29 : decode cX7_appeal 29 = .ok (.aload_n 0, 1) := by decide +kernel
theorem dX7_appeal_30 : decode cX7_appeal 30 = .ok (.getfield 21, 3) := by decide +kernel
theorem dX7_appeal_33 : decode cX7_appeal 33 = .ok (.iadd, 1) := by decide +kernel
theorem dX7_appeal_34 : decode cX7_appeal 34 = .ok (.ireturn, 1) := by decide +kernel
theorem dX7_coreShare_0 : decode cX7_coreShare 0 = .ok (.iload_n 1, 1) := by decide +kernel
theorem dX7_coreShare_1 : decode cX7_coreShare 1 = .ok (.lookupswitch 37 #[(1, 27), (2, 32)], 27) := by decide +kernel
theorem dX7_coreShare_28 : decode cX7_coreShare 28 = .ok (.iload_n 0, 1) := by decide +kernel
theorem dX7_coreShare_29 : decode cX7_coreShare 29 = .ok (.bipush 7, 2) := by decide +kernel
theorem dX7_coreShare_31 : decode cX7_coreShare 31 = .ok (.idiv, 1) := by decide +kernel
theorem dX7_coreShare_32 : decode cX7_coreShare 32 = .ok (.ireturn, 1) := by decide +kernel
theorem dX7_coreShare_33 : decode cX7_coreShare 33 = .ok (.iload_n 0, 1) := by decide +kernel
theorem dX7_coreShare_34 : decode cX7_coreShare 34 = .ok (.bipush 6, 2) := by decide +kernel
theorem dX7_coreShare_36 : decode cX7_coreShare 36 = .ok (.idiv, 1) := by decide +kernel
theorem dX7_coreShare_37 : decode cX7_coreShare 37 = .ok (.ireturn, 1) := by decide +kernel
theorem dX7_coreShare_38 : decode cX7_coreShare 38 = .ok (.iload_n 0, 1) := by decide +kernel
theorem dX7_coreShare_39 : decode cX7_coreShare 39 = .ok (.iconst 5, 1) := by decide +kernel
theorem dX7_coreShare_40 : decode cX7_coreShare 40 = .ok (.idiv, 1) := by decide +kernel
theorem dX7_coreShare_41 : decode cX7_coreShare 41 = .ok (.ireturn, 1) := by decide +kernel
theorem dX7_sideShare_0 : decode cX7_sideShare 0 = .ok (.iload_n 1, 1) := by decide +kernel
theorem dX7_sideShare_1 : decode cX7_sideShare 1 = .ok (.lookupswitch 37 #[(1, 27), (2, 32)], 27) := by decide +kernel
theorem dX7_sideShare_28 : decode cX7_sideShare 28 = .ok (.iload_n 0, 1) := by decide +kernel
theorem dX7_sideShare_29 : decode cX7_sideShare 29 = .ok (.bipush 16, 2) := by decide +kernel
theorem dX7_sideShare_31 : decode cX7_sideShare 31 = .ok (.idiv, 1) := by decide +kernel
theorem dX7_sideShare_32 : decode cX7_sideShare 32 = .ok (.ireturn, 1) := by decide +kernel
theorem dX7_sideShare_33 : decode cX7_sideShare 33 = .ok (.iload_n 0, 1) := by decide +kernel
theorem dX7_sideShare_34 : decode cX7_sideShare 34 = .ok (.bipush 12, 2) := by decide +kernel
theorem dX7_sideShare_36 : decode cX7_sideShare 36 = .ok (.idiv, 1) := by decide +kernel
theorem dX7_sideShare_37 : decode cX7_sideShare 37 = .ok (.ireturn, 1) := by decide +kernel
theorem dX7_sideShare_38 : decode cX7_sideShare 38 = .ok (.iload_n 0, 1) := by decide +kernel
theorem dX7_sideShare_39 : decode cX7_sideShare 39 = .ok (.bipush 8, 2) := by decide +kernel
theorem dX7_sideShare_41 : decode cX7_sideShare 41 = .ok (.idiv, 1) := by decide +kernel
theorem dX7_sideShare_42 : decode cX7_sideShare 42 = .ok (.ireturn, 1) := by decide +kernel
theorem dX8_init_0 : decode cX8_init 0 = .ok (.aload_n 0, 1) := by decide +kernel
theorem dX8_init_1 : decode cX8_init 1 = .ok (.invokespecial 1, 3) := by decide +kernel
theorem dX8_init_4 : decode cX8_init 4 = .ok (.aload_n 0, 1) := by decide +kernel
theorem dX8_init_5 : decode cX8_init 5 = .ok (.sipush 160, 3) := by decide +kernel
theorem dX8_init_8 : decode cX8_init 8 = .ok (.newarray .byte, 2) := by decide +kernel
theorem dX8_init_10 : decode cX8_init 10 = .ok (.putfield 9, 3) := by decide +kernel
theorem dX8_init_13 : decode cX8_init 13 = .ok (.return_, 1) := by decide +kernel
theorem dX8_append_0 : decode cX8_append 0 = .ok (.aload_n 0, 1) := by decide +kernel
theorem dX8_append_1 : decode cX8_append 1 = .ok (.getfield 13, 3) := by decide +kernel
theorem dX8_append_4 : decode cX8_append 4 = .ok (.sipush 160, 3) := by decide +kernel
theorem dX8_append_7 : decode cX8_append 7 = .ok (.if_icmp .lt 5, 3) := by decide +kernel
theorem dX8_append_10 : decode cX8_append 10 = .ok (.iconst 0, 1) := by decide +kernel
theorem dX8_append_11 : decode cX8_append 11 = .ok (.ireturn, 1) := by decide +kernel
theorem dX8_append_12 : decode cX8_append 12 = .ok (.aload_n 0, 1) := by decide +kernel
theorem dX8_append_13 : decode cX8_append 13 = .ok (.getfield 9, 3) := by decide +kernel
theorem dX8_append_16 : decode cX8_append 16 = .ok (.aload_n 0, 1) := by decide +kernel
theorem dX8_append_17 : decode cX8_append 17 = .ok (.getfield 13, 3) := by decide +kernel
theorem dX8_append_20 : decode cX8_append 20 = .ok (.iload_n 1, 1) := by decide +kernel
theorem dX8_append_21 : decode cX8_append 21 = .ok (.i2b, 1) := by decide +kernel
theorem dX8_append_22 : decode cX8_append 22 = .ok (.bastore, 1) := by decide +kernel
theorem dX8_append_23 : decode cX8_append 23 = .ok (.aload_n 0, 1) := by decide +kernel
theorem dX8_append_24 : decode cX8_append 24 = .ok (.dup, 1) := by decide +kernel
theorem dX8_append_25 : decode cX8_append 25 = .ok (.getfield 13, 3) := by decide +kernel
theorem dX8_append_28 : decode cX8_append 28 = .ok (.iconst 1, 1) := by decide +kernel
theorem dX8_append_29 : decode cX8_append 29 = .ok (.iadd, 1) := by decide +kernel
theorem dX8_append_30 : decode cX8_append 30 = .ok (.putfield 13, 3) := by decide +kernel
theorem dX8_append_33 : decode cX8_append 33 = .ok (.iconst 1, 1) := by decide +kernel
theorem dX8_append_34 : decode cX8_append 34 = .ok (.ireturn, 1) := by decide +kernel
theorem dX8_byteAt_0 : decode cX8_byteAt 0 = .ok (.iload_n 1, 1) := by decide +kernel
theorem dX8_byteAt_1 : decode cX8_byteAt 1 = .ok (.ifCond .lt 27, 3) := by decide +kernel
theorem dX8_byteAt_4 : decode cX8_byteAt 4 = .ok (.iload_n 1, 1) := by decide +kernel
theorem dX8_byteAt_5 : decode cX8_byteAt 5 = .ok (.aload_n 0, 1) := by decide +kernel
theorem dX8_byteAt_6 : decode cX8_byteAt 6 = .ok (.getfield 13, 3) := by decide +kernel
theorem dX8_byteAt_9 : decode cX8_byteAt 9 = .ok (.if_icmp .ge 19, 3) := by decide +kernel
theorem dX8_byteAt_12 : decode cX8_byteAt 12 = .ok (.iload_n 1, 1) := by decide +kernel
theorem dX8_byteAt_13 : decode cX8_byteAt 13 = .ok (.sipush 160, 3) := by decide +kernel
theorem dX8_byteAt_16 : decode cX8_byteAt 16 = .ok (.if_icmp .ge 12, 3) := by decide +kernel
theorem dX8_byteAt_19 : decode cX8_byteAt 19 = .ok (.aload_n 0, 1) := by decide +kernel
theorem dX8_byteAt_20 : decode cX8_byteAt 20 = .ok (.getfield 9, 3) := by decide +kernel
theorem dX8_byteAt_23 : decode cX8_byteAt 23 = .ok (.iload_n 1, 1) := by decide +kernel
theorem dX8_byteAt_24 : decode cX8_byteAt 24 = .ok (.baload, 1) := by decide +kernel
theorem dX8_byteAt_25 : decode cX8_byteAt 25 = .ok (.goto 4, 3) := by decide +kernel
theorem dX8_byteAt_28 : decode cX8_byteAt 28 = .ok (.iconst (-1), 1) := by decide +kernel
theorem dX8_byteAt_29 : decode cX8_byteAt 29 = .ok (.ireturn, 1) := by decide +kernel
theorem dX8_rewind_0 : decode cX8_rewind 0 = .ok (.aload_n 0, 1) := by decide +kernel
theorem dX8_rewind_1 : decode cX8_rewind 1 = .ok (.iconst 0, 1) := by decide +kernel
theorem dX8_rewind_2 : decode cX8_rewind 2 = .ok (.putfield 17, 3) := by decide +kernel
theorem dX8_rewind_5 : decode cX8_rewind 5 = .ok (.aload_n 0, 1) := by decide +kernel
theorem dX8_rewind_6 : decode cX8_rewind 6 = .ok (.iconst 0, 1) := by decide +kernel
theorem dX8_rewind_7 : decode cX8_rewind 7 = .ok (.putfield 20, 3) := by decide +kernel
theorem dX8_rewind_10 : decode cX8_rewind 10 = .ok (.aload_n 0, 1) := by decide +kernel
theorem dX8_rewind_11 : decode cX8_rewind 11 = .ok (.iconst 0, 1) := by decide +kernel
theorem dX8_rewind_12 : decode cX8_rewind 12 = .ok (.putfield 23, 3) := by decide +kernel
theorem dX8_rewind_15 : decode cX8_rewind 15 = .ok (.aload_n 0, 1) := by decide +kernel
theorem dX8_rewind_16 : decode cX8_rewind 16 = .ok (.iconst 0, 1) := by decide +kernel
theorem dX8_rewind_17 : decode cX8_rewind 17 = .ok (.putfield 26, 3) := by decide +kernel
theorem dX8_rewind_20 : decode cX8_rewind 20 = .ok (.aload_n 0, 1) := by decide +kernel
theorem dX8_rewind_21 : decode cX8_rewind 21 = .ok (.iconst 0, 1) := by decide +kernel
theorem dX8_rewind_22 : decode cX8_rewind 22 = .ok (.putfield 29, 3) := by decide +kernel
theorem dX8_rewind_25 : decode cX8_rewind 25 = .ok (.return_, 1) := by decide +kernel
theorem dX8_isSound_0 : decode cX8_isSound 0 = .ok (.aload_n 0, 1) := by decide +kernel
theorem dX8_isSound_1 : decode cX8_isSound 1 = .ok (.getfield 26, 3) := by decide +kernel
theorem dX8_isSound_4 : decode cX8_isSound 4 = .ok (.ifCond .ne 7, 3) := by decide +kernel
theorem dX8_isSound_7 : decode cX8_isSound 7 = .ok (.iconst 1, 1) := by decide +kernel
theorem dX8_isSound_8 : decode cX8_isSound 8 = .ok (.goto 4, 3) := by decide +kernel
theorem dX8_isSound_11 : decode cX8_isSound 11 = .ok (.iconst 0, 1) := by decide +kernel
theorem dX8_isSound_12 : decode cX8_isSound 12 = .ok (.ireturn, 1) := by decide +kernel
theorem dX8_failAt_0 : decode cX8_failAt 0 = .ok (.aload_n 0, 1) := by decide +kernel
theorem dX8_failAt_1 : decode cX8_failAt 1 = .ok (.getfield 26, 3) := by decide +kernel
theorem dX8_failAt_4 : decode cX8_failAt 4 = .ok (.ifCond .ne 13, 3) := by decide +kernel
theorem dX8_failAt_7 : decode cX8_failAt 7 = .ok (.aload_n 0, 1) := by decide +kernel
theorem dX8_failAt_8 : decode cX8_failAt 8 = .ok (.iload_n 2, 1) := by decide +kernel
theorem dX8_failAt_9 : decode cX8_failAt 9 = .ok (.putfield 26, 3) := by decide +kernel
theorem dX8_failAt_12 : decode cX8_failAt 12 = .ok (.aload_n 0, 1) := by decide +kernel
theorem dX8_failAt_13 : decode cX8_failAt 13 = .ok (.iload_n 1, 1) := by decide +kernel
theorem dX8_failAt_14 : decode cX8_failAt 14 = .ok (.putfield 29, 3) := by decide +kernel
theorem dX8_failAt_17 : decode cX8_failAt 17 = .ok (.return_, 1) := by decide +kernel
theorem dX8_fail_0 : decode cX8_fail 0 = .ok (.aload_n 0, 1) := by decide +kernel
theorem dX8_fail_1 : decode cX8_fail 1 = .ok (.aload_n 0, 1) := by decide +kernel
theorem dX8_fail_2 : decode cX8_fail 2 = .ok (.getfield 20, 3) := by decide +kernel
theorem dX8_fail_5 : decode cX8_fail 5 = .ok (.iload_n 1, 1) := by decide +kernel
theorem dX8_fail_6 : decode cX8_fail 6 = .ok (.invokevirtual 32, 3) := by decide +kernel
theorem dX8_fail_9 : decode cX8_fail 9 = .ok (.return_, 1) := by decide +kernel
theorem dX8_advance_0 : decode cX8_advance 0 = .ok (.aload_n 0, 1) := by decide +kernel
theorem dX8_advance_1 : decode cX8_advance 1 = .ok (.invokevirtual 36, 3) := by decide +kernel
theorem dX8_advance_4 : decode cX8_advance 4 = .ok (.ifCond .ne 4, 3) := by decide +kernel
theorem dX8_advance_7 : decode cX8_advance 7 = .ok (.return_, 1) := by decide +kernel
theorem dX8_advance_8 : decode cX8_advance 8 = .ok (.aload_n 0, 1) := by decide +kernel
theorem dX8_advance_9 : decode cX8_advance 9 = .ok (.aload_n 0, 1) := by decide +kernel
theorem dX8_advance_10 : decode cX8_advance 10 = .ok (.getfield 23, 3) := by decide +kernel
theorem dX8_advance_13 : decode cX8_advance 13 = .ok (.putfield 20, 3) := by decide +kernel
theorem dX8_advance_16 : decode cX8_advance 16 = .ok (.aload_n 0, 1) := by decide +kernel
theorem dX8_advance_17 : decode cX8_advance 17 = .ok (.getfield 20, 3) := by decide +kernel
theorem dX8_advance_20 : decode cX8_advance 20 = .ok (.istore_n 1, 1) := by decide +kernel
theorem dX8_advance_21 : decode cX8_advance 21 = .ok (.iload_n 1, 1) := by decide +kernel
theorem dX8_advance_22 : decode cX8_advance 22 = .ok (.aload_n 0, 1) := by decide +kernel
theorem dX8_advance_23 : decode cX8_advance 23 = .ok (.getfield 13, 3) := by decide +kernel
theorem dX8_advance_26 : decode cX8_advance 26 = .ok (.if_icmp .ge 25, 3) := by decide +kernel
theorem dX8_advance_29 : decode cX8_advance 29 = .ok (.aload_n 0, 1) := by decide +kernel
theorem dX8_advance_30 : decode cX8_advance 30 = .ok (.iload_n 1, 1) := by decide +kernel
theorem dX8_advance_31 : decode cX8_advance 31 = .ok (.invokevirtual 40, 3) := by decide +kernel
theorem dX8_advance_34 : decode cX8_advance 34 = .ok (.iconst 4, 1) := by decide +kernel
theorem dX8_advance_35 : decode cX8_advance 35 = .ok (.if_icmp .ne 16, 3) := by decide +kernel
theorem dX8_advance_38 : decode cX8_advance 38 = .ok (.aload_n 0, 1) := by decide +kernel
theorem dX8_advance_39 : decode cX8_advance 39 = .ok (.iload_n 1, 1) := by decide +kernel
theorem dX8_advance_40 : decode cX8_advance 40 = .ok (.iconst 1, 1) := by decide +kernel
theorem dX8_advance_41 : decode cX8_advance 41 = .ok (.iadd, 1) := by decide +kernel
theorem dX8_advance_42 : decode cX8_advance 42 = .ok (.putfield 20, 3) := by decide +kernel
theorem dX8_advance_45 : decode cX8_advance 45 = .ok (.iinc 1 1, 3) := by decide +kernel
theorem dX8_advance_48 : decode cX8_advance 48 = .ok (.goto (-27), 3) := by decide +kernel
theorem dX8_advance_51 : decode cX8_advance 51 = .ok (.aload_n 0, 1) := by decide +kernel
theorem dX8_advance_52 : decode cX8_advance 52 = .ok (.aload_n 0, 1) := by decide +kernel
theorem dX8_advance_53 : decode cX8_advance 53 = .ok (.aload_n 0, 1) := by decide +kernel
theorem dX8_advance_54 : decode cX8_advance 54 = .ok (.getfield 20, 3) := by decide +kernel
theorem dX8_advance_57 : decode cX8_advance 57 = .ok (.invokevirtual 40, 3) := by decide +kernel
theorem dX8_advance_60 : decode cX8_advance 60 = .ok (.putfield 17, 3) := by decide +kernel
theorem dX8_advance_63 : decode cX8_advance 63 = .ok (.aload_n 0, 1) := by decide +kernel
theorem dX8_advance_64 : decode cX8_advance 64 = .ok (.aload_n 0, 1) := by decide +kernel
theorem dX8_advance_65 : decode cX8_advance 65 = .ok (.getfield 13, 3) := by decide +kernel
theorem dX8_advance_68 : decode cX8_advance 68 = .ok (.aload_n 0, 1) := by decide +kernel
theorem dX8_advance_69 : decode cX8_advance 69 = .ok (.getfield 20, 3) := by decide +kernel
theorem dX8_advance_72 : decode cX8_advance 72 = .ok (.iconst 1, 1) := by decide +kernel
theorem dX8_advance_73 : decode cX8_advance 73 = .ok (.iadd, 1) := by decide +kernel
theorem dX8_advance_74 : decode cX8_advance 74 = .ok (.invokestatic 44, 3) := by decide +kernel
theorem dX8_advance_77 : decode cX8_advance 77 = .ok (.putfield 23, 3) := by decide +kernel
theorem dX8_advance_80 : decode cX8_advance 80 = .ok (.aload_n 0, 1) := by decide +kernel
theorem dX8_advance_81 : decode cX8_advance 81 = .ok (.getfield 17, 3) := by decide +kernel
theorem dX8_advance_84 : decode cX8_advance 84 = .ok (.iconst 1, 1) := by decide +kernel
theorem dX8_advance_85 : decode cX8_advance 85 = .ok (.if_icmp .eq 11, 3) := by decide +kernel
theorem dX8_advance_88 : decode cX8_advance 88 = .ok (.aload_n 0, 1) := by decide +kernel
theorem dX8_advance_89 : decode cX8_advance 89 = .ok (.getfield 17, 3) := by decide +kernel
theorem dX8_advance_92 : decode cX8_advance 92 = .ok (.iconst 2, 1) := by decide +kernel
theorem dX8_advance_93 : decode cX8_advance 93 = .ok (.if_icmp .ne 7, 3) := by decide +kernel
theorem dX8_advance_96 : decode cX8_advance 96 = .ok (.iconst 1, 1) := by decide +kernel
theorem dX8_advance_97 : decode cX8_advance 97 = .ok (.goto 4, 3) := by decide +kernel
theorem dX8_advance_100 : decode cX8_advance 100 = .ok (.iconst 0, 1) := by decide +kernel
theorem dX8_advance_101 : decode cX8_advance 101 = .ok (.istore_n 1, 1) := by decide +kernel
theorem dX8_advance_102 : decode cX8_advance 102 = .ok (.aload_n 0, 1) := by decide +kernel
theorem dX8_advance_103 : decode cX8_advance 103 = .ok (.getfield 23, 3) := by decide +kernel
theorem dX8_advance_106 : decode cX8_advance 106 = .ok (.istore_n 2, 1) := by decide +kernel
theorem dX8_advance_107 : decode cX8_advance 107 = .ok (.iload_n 1, 1) := by decide +kernel
theorem dX8_advance_108 : decode cX8_advance 108 = .ok (.ifCond .eq 36, 3) := by decide +kernel
theorem dX8_advance_111 : decode cX8_advance 111 = .ok (.iload_n 2, 1) := by decide +kernel
theorem dX8_advance_112 : decode cX8_advance 112 = .ok (.aload_n 0, 1) := by decide +kernel
theorem dX8_advance_113 : decode cX8_advance 113 = .ok (.getfield 13, 3) := by decide +kernel
theorem dX8_advance_116 : decode cX8_advance 116 = .ok (.if_icmp .ge 28, 3) := by decide +kernel
theorem dX8_advance_119 : decode cX8_advance 119 = .ok (.aload_n 0, 1) := by decide +kernel
theorem dX8_advance_120 : decode cX8_advance 120 = .ok (.iload_n 2, 1) := by decide +kernel
theorem dX8_advance_121 : decode cX8_advance 121 = .ok (.invokevirtual 40, 3) := by decide +kernel
theorem dX8_advance_124 : decode cX8_advance 124 = .ok (.aload_n 0, 1) := by decide +kernel
theorem dX8_advance_125 : decode cX8_advance 125 = .ok (.getfield 17, 3) := by decide +kernel
theorem dX8_advance_128 : decode cX8_advance 128 = .ok (.if_icmp .ne 16, 3) := by decide +kernel
theorem dX8_advance_131 : decode cX8_advance 131 = .ok (.aload_n 0, 1) := by decide +kernel
theorem dX8_advance_132 : decode cX8_advance 132 = .ok (.iload_n 2, 1) := by decide +kernel
theorem dX8_advance_133 : decode cX8_advance 133 = .ok (.iconst 1, 1) := by decide +kernel
theorem dX8_advance_134 : decode cX8_advance 134 = .ok (.iadd, 1) := by decide +kernel
theorem dX8_advance_135 : decode cX8_advance 135 = .ok (.putfield 23, 3) := by decide +kernel
theorem dX8_advance_138 : decode cX8_advance 138 = .ok (.iinc 2 1, 3) := by decide +kernel
theorem dX8_advance_141 : decode cX8_advance 141 = .ok (.goto (-34), 3) := by decide +kernel
theorem dX8_advance_144 : decode cX8_advance 144 = .ok (.aload_n 0, 1) := by decide +kernel
theorem dX8_advance_145 : decode cX8_advance 145 = .ok (.getfield 17, 3) := by decide +kernel
theorem dX8_advance_148 : decode cX8_advance 148 = .ok (.iconst 5, 1) := by decide +kernel
theorem dX8_advance_149 : decode cX8_advance 149 = .ok (.if_icmp .eq 24, 3) := by decide +kernel
theorem dX8_advance_152 : decode cX8_advance 152 = .ok (.aload_n 0, 1) := by decide +kernel
theorem dX8_advance_153 : decode cX8_advance 153 = .ok (.getfield 17, 3) := by decide +kernel
theorem dX8_advance_156 : decode cX8_advance 156 = .ok (.iconst 2, 1) := by decide +kernel
theorem dX8_advance_157 : decode cX8_advance 157 = .ok (.if_icmp .ne 21, 3) := by decide +kernel
theorem dX8_advance_160 : decode cX8_advance 160 = .ok (.aload_n 0, 1) := by decide +kernel
theorem dX8_advance_161 : decode cX8_advance 161 = .ok (.getfield 23, 3) := by decide +kernel
theorem dX8_advance_164 : decode cX8_advance 164 = .ok (.aload_n 0, 1) := by decide +kernel
theorem dX8_advance_165 : decode cX8_advance 165 = .ok (.getfield 20, 3) := by decide +kernel
theorem dX8_advance_168 : decode cX8_advance 168 = .ok (.isub, 1) := by decide +kernel
theorem dX8_advance_169 : decode cX8_advance 169 = .ok (.iconst 2, 1) := by decide +kernel
theorem dX8_advance_170 : decode cX8_advance 170 = .ok (.if_icmp .le 8, 3) := by decide +kernel
theorem dX8_advance_173 : decode cX8_advance 173 = .ok (.aload_n 0, 1) := by decide +kernel
theorem dX8_advance_174 : decode cX8_advance 174 = .ok (.iconst 1, 1) := by decide +kernel
theorem dX8_advance_175 : decode cX8_advance 175 = .ok (.invokevirtual 50, 3) := by decide +kernel
theorem dX8_advance_178 : decode cX8_advance 178 = .ok (.return_, 1) := by decide +kernel
theorem dX8_kindAt_0 : decode cX8_kindAt 0 = .ok (.aload_n 0, 1) := by decide +kernel
theorem dX8_kindAt_1 : decode cX8_kindAt 1 = .ok (.iload_n 1, 1) := by decide +kernel
theorem dX8_kindAt_2 : decode cX8_kindAt 2 = .ok (.invokevirtual 54, 3) := by decide +kernel
theorem dX8_kindAt_5 : decode cX8_kindAt 5 = .ok (.istore_n 2, 1) := by decide +kernel
theorem dX8_kindAt_6 : decode cX8_kindAt 6 = .ok (.iload_n 2, 1) := by decide +kernel
theorem dX8_kindAt_7 : decode cX8_kindAt 7 = .ok (.ifCond .ge 5, 3) := by decide +kernel
theorem dX8_kindAt_10 : decode cX8_kindAt 10 = .ok (.iconst 0, 1) := by decide +kernel
theorem dX8_kindAt_11 : decode cX8_kindAt 11 = .ok (.ireturn, 1) := by decide +kernel
theorem dX8_kindAt_12 : decode cX8_kindAt 12 = .ok (.iload_n 2, 1) := by decide +kernel
theorem dX8_kindAt_13 : decode cX8_kindAt 13 = .ok (.bipush 97, 2) := by decide +kernel
theorem dX8_kindAt_15 : decode cX8_kindAt 15 = .ok (.if_icmp .lt 11, 3) := by decide +kernel
theorem dX8_kindAt_18 : decode cX8_kindAt 18 = .ok (.iload_n 2, 1) := by decide +kernel
theorem dX8_kindAt_19 : decode cX8_kindAt 19 = .ok (.bipush 122, 2) := by decide +kernel
theorem dX8_kindAt_21 : decode cX8_kindAt 21 = .ok (.if_icmp .gt 5, 3) := by decide +kernel
theorem dX8_kindAt_24 : decode cX8_kindAt 24 = .ok (.iconst 1, 1) := by decide +kernel
theorem dX8_kindAt_25 : decode cX8_kindAt 25 = .ok (.ireturn, 1) := by decide +kernel
theorem dX8_kindAt_26 : decode cX8_kindAt 26 = .ok (.iload_n 2, 1) := by decide +kernel
theorem dX8_kindAt_27 : decode cX8_kindAt 27 = .ok (.bipush 48, 2) := by decide +kernel
theorem dX8_kindAt_29 : decode cX8_kindAt 29 = .ok (.if_icmp .lt 11, 3) := by decide +kernel
theorem dX8_kindAt_32 : decode cX8_kindAt 32 = .ok (.iload_n 2, 1) := by decide +kernel
theorem dX8_kindAt_33 : decode cX8_kindAt 33 = .ok (.bipush 57, 2) := by decide +kernel
theorem dX8_kindAt_35 : decode cX8_kindAt 35 = .ok (.if_icmp .gt 5, 3) := by decide +kernel
theorem dX8_kindAt_38 : decode cX8_kindAt 38 = .ok (.iconst 2, 1) := by decide +kernel
theorem dX8_kindAt_39 : decode cX8_kindAt 39 = .ok (.ireturn, 1) := by decide +kernel
theorem dX8_kindAt_40 : decode cX8_kindAt 40 = .ok (.iload_n 2, 1) := by decide +kernel
theorem dX8_kindAt_41 : decode cX8_kindAt 41 = .ok (.bipush 32, 2) := by decide +kernel
theorem dX8_kindAt_43 : decode cX8_kindAt 43 = .ok (.if_icmp .ne 5, 3) := by decide +kernel
theorem dX8_kindAt_46 : decode cX8_kindAt 46 = .ok (.iconst 4, 1) := by decide +kernel
theorem dX8_kindAt_47 : decode cX8_kindAt 47 = .ok (.ireturn, 1) := by decide +kernel
theorem dX8_kindAt_48 : decode cX8_kindAt 48 = .ok (.iload_n 2, 1) := by decide +kernel
theorem dX8_kindAt_49 : decode cX8_kindAt 49 = .ok (.bipush 59, 2) := by decide +kernel
theorem dX8_kindAt_51 : decode cX8_kindAt 51 = .ok (.if_icmp .ne 7, 3) := by decide +kernel
theorem dX8_kindAt_54 : decode cX8_kindAt 54 = .ok (.iconst 3, 1) := by decide +kernel
theorem dX8_kindAt_55 : decode cX8_kindAt 55 = .ok (.goto 4, 3) := by decide +kernel
theorem dX8_kindAt_58 : decode cX8_kindAt 58 = .ok (.iconst 5, 1) := by decide +kernel
theorem dX8_kindAt_59 : decode cX8_kindAt 59 = .ok (.ireturn, 1) := by decide +kernel
theorem dX8_isName_0 : decode cX8_isName 0 = .ok (.aload_n 0, 1) := by decide +kernel
theorem dX8_isName_1 : decode cX8_isName 1 = .ok (.getfield 17, 3) := by decide +kernel
theorem dX8_isName_4 : decode cX8_isName 4 = .ok (.iconst 1, 1) := by decide +kernel
theorem dX8_isName_5 : decode cX8_isName 5 = .ok (.if_icmp .ne 19, 3) := by decide +kernel
theorem dX8_isName_8 : decode cX8_isName 8 = .ok (.aload_n 0, 1) := by decide +kernel
theorem dX8_isName_9 : decode cX8_isName 9 = .ok (.getfield 23, 3) := by decide +kernel
theorem dX8_isName_12 : decode cX8_isName 12 = .ok (.aload_n 0, 1) := by decide +kernel
theorem dX8_isName_13 : decode cX8_isName 13 = .ok (.getfield 20, 3) := by decide +kernel
theorem dX8_isName_16 : decode cX8_isName 16 = .ok (.isub, 1) := by decide +kernel
theorem dX8_isName_17 : decode cX8_isName 17 = .ok (.aload_n 1, 1) := by decide +kernel
theorem dX8_isName_18 : decode cX8_isName 18 = .ok (.invokevirtual 57, 3) := by decide +kernel
theorem dX8_isName_21 : decode cX8_isName 21 = .ok (.if_icmp .eq 5, 3) := by decide +kernel
theorem dX8_isName_24 : decode cX8_isName 24 = .ok (.iconst 0, 1) := by decide +kernel
theorem dX8_isName_25 : decode cX8_isName 25 = .ok (.ireturn, 1) := by decide +kernel
theorem dX8_isName_26 : decode cX8_isName 26 = .ok (.iconst 0, 1) := by decide +kernel
theorem dX8_isName_27 : decode cX8_isName 27 = .ok (.istore_n 2, 1) := by decide +kernel
theorem dX8_isName_28 : decode cX8_isName 28 = .ok (.iload_n 2, 1) := by decide +kernel
theorem dX8_isName_29 : decode cX8_isName 29 = .ok (.aload_n 1, 1) := by decide +kernel
theorem dX8_isName_30 : decode cX8_isName 30 = .ok (.invokevirtual 57, 3) := by decide +kernel
theorem dX8_isName_33 : decode cX8_isName 33 = .ok (.if_icmp .ge 29, 3) := by decide +kernel
theorem dX8_isName_36 : decode cX8_isName 36 = .ok (.aload_n 0, 1) := by decide +kernel
theorem dX8_isName_37 : decode cX8_isName 37 = .ok (.aload_n 0, 1) := by decide +kernel
theorem dX8_isName_38 : decode cX8_isName 38 = .ok (.getfield 20, 3) := by decide +kernel
theorem dX8_isName_41 : decode cX8_isName 41 = .ok (.iload_n 2, 1) := by decide +kernel
theorem dX8_isName_42 : decode cX8_isName 42 = .ok (.iadd, 1) := by decide +kernel
theorem dX8_isName_43 : decode cX8_isName 43 = .ok (.invokevirtual 54, 3) := by decide +kernel
theorem dX8_isName_46 : decode cX8_isName 46 = .ok (.aload_n 1, 1) := by decide +kernel
theorem dX8_isName_47 : decode cX8_isName 47 = .ok (.iload_n 2, 1) := by decide +kernel
theorem dX8_isName_48 : decode cX8_isName 48 = .ok (.invokevirtual 62, 3) := by decide +kernel
theorem dX8_isName_51 : decode cX8_isName 51 = .ok (.if_icmp .eq 5, 3) := by decide +kernel
theorem dX8_isName_54 : decode cX8_isName 54 = .ok (.iconst 0, 1) := by decide +kernel
theorem dX8_isName_55 : decode cX8_isName 55 = .ok (.ireturn, 1) := by decide +kernel
theorem dX8_isName_56 : decode cX8_isName 56 = .ok (.iinc 2 1, 3) := by decide +kernel
theorem dX8_isName_59 : decode cX8_isName 59 = .ok (.goto (-31), 3) := by decide +kernel
theorem dX8_isName_62 : decode cX8_isName 62 = .ok (.iconst 1, 1) := by decide +kernel
theorem dX8_isName_63 : decode cX8_isName 63 = .ok (.ireturn, 1) := by decide +kernel
theorem dX8_takeNumber_0 : decode cX8_takeNumber 0 = .ok (.aload_n 0, 1) := by decide +kernel
theorem dX8_takeNumber_1 : decode cX8_takeNumber 1 = .ok (.invokevirtual 66, 3) := by decide +kernel
theorem dX8_takeNumber_4 : decode cX8_takeNumber 4 = .ok (.aload_n 0, 1) := by decide +kernel
theorem dX8_takeNumber_5 : decode cX8_takeNumber 5 = .ok (.invokevirtual 36, 3) := by decide +kernel
theorem dX8_takeNumber_8 : decode cX8_takeNumber 8 = .ok (.ifCond .eq 16, 3) := by decide +kernel
theorem dX8_takeNumber_11 : decode cX8_takeNumber 11 = .ok (.aload_n 0, 1) := by decide +kernel
theorem dX8_takeNumber_12 : decode cX8_takeNumber 12 = .ok (.getfield 17, 3) := by decide +kernel
theorem dX8_takeNumber_15 : decode cX8_takeNumber 15 = .ok (.iconst 2, 1) := by decide +kernel
theorem dX8_takeNumber_16 : decode cX8_takeNumber 16 = .ok (.if_icmp .eq 8, 3) := by decide +kernel
theorem dX8_takeNumber_19 : decode cX8_takeNumber 19 = .ok (.aload_n 0, 1) := by decide +kernel
theorem dX8_takeNumber_20 : decode cX8_takeNumber 20 = .ok (.iconst 2, 1) := by decide +kernel
theorem dX8_takeNumber_21 : decode cX8_takeNumber 21 = .ok (.invokevirtual 50, 3) := by decide +kernel
theorem dX8_takeNumber_24 : decode cX8_takeNumber 24 = .ok (.iconst 0, 1) := by decide +kernel
theorem dX8_takeNumber_25 : decode cX8_takeNumber 25 = .ok (.istore_n 3, 1) := by decide +kernel
theorem dX8_takeNumber_26 : decode cX8_takeNumber 26 = .ok (.aload_n 0, 1) := by decide +kernel
theorem dX8_takeNumber_27 : decode cX8_takeNumber 27 = .ok (.getfield 20, 3) := by decide +kernel
theorem dX8_takeNumber_30 : decode cX8_takeNumber 30 = .ok (.istore 4, 2) := by decide +kernel
theorem dX8_takeNumber_32 : decode cX8_takeNumber 32 = .ok (.iload 4, 2) := by decide +kernel
theorem dX8_takeNumber_34 : decode cX8_takeNumber 34 = .ok (.aload_n 0, 1) := by decide +kernel
theorem dX8_takeNumber_35 : decode cX8_takeNumber 35 = .ok (.getfield 23, 3) := by decide +kernel
theorem dX8_takeNumber_38 : decode cX8_takeNumber 38 = .ok (.if_icmp .ge 31, 3) := by decide +kernel
theorem dX8_takeNumber_41 : decode cX8_takeNumber 41 = .ok (.aload_n 0, 1) := by decide +kernel
theorem dX8_takeNumber_42 : decode cX8_takeNumber 42 = .ok (.invokevirtual 36, 3) := by decide +kernel
theorem dX8_takeNumber_45 : decode cX8_takeNumber 45 = .ok (.ifCond .eq 24, 3) := by decide +kernel
theorem dX8_takeNumber_48 : decode cX8_takeNumber 48 = .ok (.bipush 10, 2) := by decide +kernel
theorem dX8_takeNumber_50 : decode cX8_takeNumber 50 = .ok (.iload_n 3, 1) := by decide +kernel
theorem dX8_takeNumber_51 : decode cX8_takeNumber 51 = .ok (.imul, 1) := by decide +kernel
theorem dX8_takeNumber_52 : decode cX8_takeNumber 52 = .ok (.aload_n 0, 1) := by decide +kernel
theorem dX8_takeNumber_53 : decode cX8_takeNumber 53 = .ok (.iload 4, 2) := by decide +kernel
theorem dX8_takeNumber_55 : decode cX8_takeNumber 55 = .ok (.invokevirtual 54, 3) := by decide +kernel
theorem dX8_takeNumber_58 : decode cX8_takeNumber 58 = .ok (.iadd, 1) := by decide +kernel
theorem dX8_takeNumber_59 : decode cX8_takeNumber 59 = .ok (.bipush 48, 2) := by decide +kernel
theorem dX8_takeNumber_61 : decode cX8_takeNumber 61 = .ok (.isub, 1) := by decide +kernel
theorem dX8_takeNumber_62 : decode cX8_takeNumber 62 = .ok (.istore_n 3, 1) := by decide +kernel
theorem dX8_takeNumber_63 : decode cX8_takeNumber 63 = .ok (.iinc 4 1, 3) := by decide +kernel
theorem dX8_takeNumber_66 : decode cX8_takeNumber 66 = .ok (.goto (-34), 3) := by decide +kernel
theorem dX8_takeNumber_69 : decode cX8_takeNumber 69 = .ok (.aload_n 0, 1) := by decide +kernel
theorem dX8_takeNumber_70 : decode cX8_takeNumber 70 = .ok (.invokevirtual 36, 3) := by decide +kernel
theorem dX8_takeNumber_73 : decode cX8_takeNumber 73 = .ok (.ifCond .eq 18, 3) := by decide +kernel
theorem dX8_takeNumber_76 : decode cX8_takeNumber 76 = .ok (.iload_n 3, 1) := by decide +kernel
theorem dX8_takeNumber_77 : decode cX8_takeNumber 77 = .ok (.iload_n 1, 1) := by decide +kernel
theorem dX8_takeNumber_78 : decode cX8_takeNumber 78 = .ok (.if_icmp .lt 8, 3) := by decide +kernel
theorem dX8_takeNumber_81 : decode cX8_takeNumber 81 = .ok (.iload_n 3, 1) := by decide +kernel
theorem dX8_takeNumber_82 : decode cX8_takeNumber 82 = .ok (.iload_n 2, 1) := by decide +kernel
theorem dX8_takeNumber_83 : decode cX8_takeNumber 83 = .ok (.if_icmp .le 8, 3) := by decide +kernel
theorem dX8_takeNumber_86 : decode cX8_takeNumber 86 = .ok (.aload_n 0, 1) := by decide +kernel
theorem dX8_takeNumber_87 : decode cX8_takeNumber 87 = .ok (.iconst 3, 1) := by decide +kernel
theorem dX8_takeNumber_88 : decode cX8_takeNumber 88 = .ok (.invokevirtual 50, 3) := by decide +kernel
theorem dX8_takeNumber_91 : decode cX8_takeNumber 91 = .ok (.aload_n 0, 1) := by decide +kernel
theorem dX8_takeNumber_92 : decode cX8_takeNumber 92 = .ok (.invokevirtual 36, 3) := by decide +kernel
theorem dX8_takeNumber_95 : decode cX8_takeNumber 95 = .ok (.ifCond .eq 7, 3) := by decide +kernel
theorem dX8_takeNumber_98 : decode cX8_takeNumber 98 = .ok (.iload_n 3, 1) := by decide +kernel
theorem dX8_takeNumber_99 : decode cX8_takeNumber 99 = .ok (.goto 4, 3) := by decide +kernel
theorem dX8_takeNumber_102 : decode cX8_takeNumber 102 = .ok (.iload_n 1, 1) := by decide +kernel
theorem dX8_takeNumber_103 : decode cX8_takeNumber 103 = .ok (.ireturn, 1) := by decide +kernel
theorem dX8_takeWrap_0 : decode cX8_takeWrap 0 = .ok (.aload_n 0, 1) := by decide +kernel
theorem dX8_takeWrap_1 : decode cX8_takeWrap 1 = .ok (.invokevirtual 66, 3) := by decide +kernel
theorem dX8_takeWrap_4 : decode cX8_takeWrap 4 = .ok (.aload_n 0, 1) := by decide +kernel
theorem dX8_takeWrap_5 : decode cX8_takeWrap 5 = .ok (.ldc 69, 2) := by decide +kernel
theorem dX8_takeWrap_7 : decode cX8_takeWrap 7 = .ok (.invokevirtual 71, 3) := by decide +kernel
theorem dX8_takeWrap_10 : decode cX8_takeWrap 10 = .ok (.ifCond .eq 5, 3) := by decide +kernel
theorem dX8_takeWrap_13 : decode cX8_takeWrap 13 = .ok (.iconst 0, 1) := by decide +kernel
theorem dX8_takeWrap_14 : decode cX8_takeWrap 14 = .ok (.ireturn, 1) := by decide +kernel
theorem dX8_takeWrap_15 : decode cX8_takeWrap 15 = .ok (.aload_n 0, 1) := by decide +kernel
theorem dX8_takeWrap_16 : decode cX8_takeWrap 16 = .ok (.ldc 75, 2) := by decide +kernel
theorem dX8_takeWrap_18 : decode cX8_takeWrap 18 = .ok (.invokevirtual 71, 3) := by decide +kernel
theorem dX8_takeWrap_21 : decode cX8_takeWrap 21 = .ok (.ifCond .eq 5, 3) := by decide +kernel
theorem dX8_takeWrap_24 : decode cX8_takeWrap 24 = .ok (.iconst 1, 1) := by decide +kernel
theorem dX8_takeWrap_25 : decode cX8_takeWrap 25 = .ok (.ireturn, 1) := by decide +kernel
theorem dX8_takeWrap_26 : decode cX8_takeWrap 26 = .ok (.aload_n 0, 1) := by decide +kernel
theorem dX8_takeWrap_27 : decode cX8_takeWrap 27 = .ok (.ldc 77, 2) := by decide +kernel
theorem dX8_takeWrap_29 : decode cX8_takeWrap 29 = .ok (.invokevirtual 71, 3) := by decide +kernel
theorem dX8_takeWrap_32 : decode cX8_takeWrap 32 = .ok (.ifCond .eq 5, 3) := by decide +kernel
theorem dX8_takeWrap_35 : decode cX8_takeWrap 35 = .ok (.iconst 2, 1) := by decide +kernel
theorem dX8_takeWrap_36 : decode cX8_takeWrap 36 = .ok (.ireturn, 1) := by decide +kernel
theorem dX8_takeWrap_37 : decode cX8_takeWrap 37 = .ok (.aload_n 0, 1) := by decide +kernel
theorem dX8_takeWrap_38 : decode cX8_takeWrap 38 = .ok (.iconst 2, 1) := by decide +kernel
theorem dX8_takeWrap_39 : decode cX8_takeWrap 39 = .ok (.invokevirtual 50, 3) := by decide +kernel
theorem dX8_takeWrap_42 : decode cX8_takeWrap 42 = .ok (.iconst 0, 1) := by decide +kernel
theorem dX8_takeWrap_43 : decode cX8_takeWrap 43 = .ok (.ireturn, 1) := by decide +kernel
theorem dX8_takeMark_0 : decode cX8_takeMark 0 = .ok (.aload_n 0, 1) := by decide +kernel
theorem dX8_takeMark_1 : decode cX8_takeMark 1 = .ok (.invokevirtual 66, 3) := by decide +kernel
theorem dX8_takeMark_4 : decode cX8_takeMark 4 = .ok (.aload_n 0, 1) := by decide +kernel
theorem dX8_takeMark_5 : decode cX8_takeMark 5 = .ok (.getfield 17, 3) := by decide +kernel
theorem dX8_takeMark_8 : decode cX8_takeMark 8 = .ok (.iconst 3, 1) := by decide +kernel
theorem dX8_takeMark_9 : decode cX8_takeMark 9 = .ok (.if_icmp .eq 8, 3) := by decide +kernel
theorem dX8_takeMark_12 : decode cX8_takeMark 12 = .ok (.aload_n 0, 1) := by decide +kernel
theorem dX8_takeMark_13 : decode cX8_takeMark 13 = .ok (.iconst 2, 1) := by decide +kernel
theorem dX8_takeMark_14 : decode cX8_takeMark 14 = .ok (.invokevirtual 50, 3) := by decide +kernel
theorem dX8_takeMark_17 : decode cX8_takeMark 17 = .ok (.return_, 1) := by decide +kernel
theorem dX9_init_0 : decode cX9_init 0 = .ok (.aload_n 0, 1) := by decide +kernel
theorem dX9_init_1 : decode cX9_init 1 = .ok (.invokespecial 3, 3) := by decide +kernel
theorem dX9_init_4 : decode cX9_init 4 = .ok (.aload_n 0, 1) := by decide +kernel
theorem dX9_init_5 : decode cX9_init 5 = .ok (.bipush 21, 2) := by decide +kernel
theorem dX9_init_7 : decode cX9_init 7 = .ok (.newarray .int, 2) := by decide +kernel
theorem dX9_init_9 : decode cX9_init 9 = .ok (.putfield 9, 3) := by decide +kernel
theorem dX9_init_12 : decode cX9_init 12 = .ok (.aload_n 0, 1) := by decide +kernel
theorem dX9_init_13 : decode cX9_init 13 = .ok (.bipush 10, 2) := by decide +kernel
theorem dX9_init_15 : decode cX9_init 15 = .ok (.newarray .int, 2) := by decide +kernel
theorem dX9_init_17 : decode cX9_init 17 = .ok (.putfield 15, 3) := by decide +kernel
theorem dX9_init_20 : decode cX9_init 20 = .ok (.return_, 1) := by decide +kernel
theorem dX9_followFor_0 : decode cX9_followFor 0 = .ok (.iload_n 2, 1) := by decide +kernel
theorem dX9_followFor_1 : decode cX9_followFor 1 = .ok (.bipush (-4), 2) := by decide +kernel
theorem dX9_followFor_3 : decode cX9_followFor 3 = .ok (.if_icmp .ne 12, 3) := by decide +kernel
theorem dX9_followFor_6 : decode cX9_followFor 6 = .ok (.aload_n 0, 1) := by decide +kernel
theorem dX9_followFor_7 : decode cX9_followFor 7 = .ok (.getfield 9, 3) := by decide +kernel
theorem dX9_followFor_10 : decode cX9_followFor 10 = .ok (.iconst 0, 1) := by decide +kernel
theorem dX9_followFor_11 : decode cX9_followFor 11 = .ok (.invokestatic 18, 3) := by decide +kernel
theorem dX9_followFor_14 : decode cX9_followFor 14 = .ok (.return_, 1) := by decide +kernel
theorem dX9_followFor_15 : decode cX9_followFor 15 = .ok (.aload_n 0, 1) := by decide +kernel
theorem dX9_followFor_16 : decode cX9_followFor 16 = .ok (.aload_n 1, 1) := by decide +kernel
theorem dX9_followFor_17 : decode cX9_followFor 17 = .ok (.iload_n 2, 1) := by decide +kernel
theorem dX9_followFor_18 : decode cX9_followFor 18 = .ok (.invokevirtual 24, 3) := by decide +kernel
theorem dX9_followFor_21 : decode cX9_followFor 21 = .ok (.aload_n 0, 1) := by decide +kernel
theorem dX9_followFor_22 : decode cX9_followFor 22 = .ok (.aload_n 1, 1) := by decide +kernel
theorem dX9_followFor_23 : decode cX9_followFor 23 = .ok (.iload_n 2, 1) := by decide +kernel
theorem dX9_followFor_24 : decode cX9_followFor 24 = .ok (.invokevirtual 28, 3) := by decide +kernel
theorem dX9_followFor_27 : decode cX9_followFor 27 = .ok (.aload_n 1, 1) := by decide +kernel
theorem dX9_followFor_28 : decode cX9_followFor 28 = .ok (.iload_n 2, 1) := by decide +kernel
theorem dX9_followFor_29 : decode cX9_followFor 29 = .ok (.invokevirtual 34, 3) := by decide +kernel
theorem dX9_followFor_32 : decode cX9_followFor 32 = .ok (.iload_n 3, 1) := by decide +kernel
theorem dX9_followFor_33 : decode cX9_followFor 33 = .ok (.invokevirtual 37, 3) := by decide +kernel
theorem dX9_followFor_36 : decode cX9_followFor 36 = .ok (.return_, 1) := by decide +kernel
theorem dX9_gatherEmbers_0 : decode cX9_gatherEmbers 0 = .ok (.aload_n 0, 1) := by decide +kernel
theorem dX9_gatherEmbers_1 : decode cX9_gatherEmbers 1 = .ok (.getfield 15, 3) := by decide +kernel
theorem dX9_gatherEmbers_4 : decode cX9_gatherEmbers 4 = .ok (.iconst 0, 1) := by decide +kernel
theorem dX9_gatherEmbers_5 : decode cX9_gatherEmbers 5 = .ok (.invokestatic 18, 3) := by decide +kernel
theorem dX9_gatherEmbers_8 : decode cX9_gatherEmbers 8 = .ok (.iconst 0, 1) := by decide +kernel
theorem dX9_gatherEmbers_9 : decode cX9_gatherEmbers 9 = .ok (.istore_n 3, 1) := by decide +kernel
theorem dX9_gatherEmbers_10 : decode cX9_gatherEmbers 10 = .ok (.iload_n 3, 1) := by decide +kernel
theorem dX9_gatherEmbers_11 : decode cX9_gatherEmbers 11 = .ok (.aload_n 1, 1) := by decide +kernel
theorem dX9_gatherEmbers_12 : decode cX9_gatherEmbers 12 = .ok (.getfield 41, 3) := by decide +kernel
theorem dX9_gatherEmbers_15 : decode cX9_gatherEmbers 15 = .ok (.if_icmp .ge 38, 3) := by decide +kernel
theorem dX9_gatherEmbers_18 : decode cX9_gatherEmbers 18 = .ok (.aload_n 1, 1) := by decide +kernel
theorem dX9_gatherEmbers_19 : decode cX9_gatherEmbers 19 = .ok (.getfield 45, 3) := by decide +kernel
theorem dX9_gatherEmbers_22 : decode cX9_gatherEmbers 22 = .ok (.iload_n 3, 1) := by decide +kernel
theorem dX9_gatherEmbers_23 : decode cX9_gatherEmbers 23 = .ok (.iaload, 1) := by decide +kernel
theorem dX9_gatherEmbers_24 : decode cX9_gatherEmbers 24 = .ok (.iload_n 2, 1) := by decide +kernel
theorem dX9_gatherEmbers_25 : decode cX9_gatherEmbers 25 = .ok (.iconst 3, 1) := by decide +kernel
theorem dX9_gatherEmbers_26 : decode cX9_gatherEmbers 26 = .ok (.idiv, 1) := by decide +kernel
theorem dX9_gatherEmbers_27 : decode cX9_gatherEmbers 27 = .ok (.if_icmp .ne 20, 3) := by decide +kernel
theorem dX9_gatherEmbers_30 : decode cX9_gatherEmbers 30 = .ok (.aload_n 0, 1) := by decide +kernel
theorem dX9_gatherEmbers_31 : decode cX9_gatherEmbers 31 = .ok (.aload_n 1, 1) := by decide +kernel
theorem dX9_gatherEmbers_32 : decode cX9_gatherEmbers 32 = .ok (.getfield 48, 3) := by decide +kernel
theorem dX9_gatherEmbers_35 : decode cX9_gatherEmbers 35 = .ok (.iload_n 3, 1) := by decide +kernel
theorem dX9_gatherEmbers_36 : decode cX9_gatherEmbers 36 = .ok (.iaload, 1) := by decide +kernel
theorem dX9_gatherEmbers_37 : decode cX9_gatherEmbers 37 = .ok (.iload_n 2, 1) := by decide +kernel
theorem dX9_gatherEmbers_38 : decode cX9_gatherEmbers 38 = .ok (.aload_n 1, 1) := by decide +kernel
theorem dX9_gatherEmbers_39 : decode cX9_gatherEmbers 39 = .ok (.getfield 51, 3) := by decide +kernel
theorem dX9_gatherEmbers_42 : decode cX9_gatherEmbers 42 = .ok (.iload_n 3, 1) := by decide +kernel
theorem dX9_gatherEmbers_43 : decode cX9_gatherEmbers 43 = .ok (.iaload, 1) := by decide +kernel
theorem dX9_gatherEmbers_44 : decode cX9_gatherEmbers 44 = .ok (.invokevirtual 54, 3) := by decide +kernel
theorem dX9_gatherEmbers_47 : decode cX9_gatherEmbers 47 = .ok (.iinc 3 1, 3) := by decide +kernel
theorem dX9_gatherEmbers_50 : decode cX9_gatherEmbers 50 = .ok (.goto (-40), 3) := by decide +kernel
theorem dX9_gatherEmbers_53 : decode cX9_gatherEmbers 53 = .ok (.return_, 1) := by decide +kernel
theorem dX9_addEmber_0 : decode cX9_addEmber 0 = .ok (.iload_n 3, 1) := by decide +kernel
theorem dX9_addEmber_1 : decode cX9_addEmber 1 = .ok (.ifCond .lt 28, 3) := by decide +kernel
theorem dX9_addEmber_4 : decode cX9_addEmber 4 = .ok (.iload_n 3, 1) := by decide +kernel
theorem dX9_addEmber_5 : decode cX9_addEmber 5 = .ok (.aload_n 0, 1) := by decide +kernel
theorem dX9_addEmber_6 : decode cX9_addEmber 6 = .ok (.getfield 15, 3) := by decide +kernel
theorem dX9_addEmber_9 : decode cX9_addEmber 9 = .ok (.arraylength, 1) := by decide +kernel
theorem dX9_addEmber_10 : decode cX9_addEmber 10 = .ok (.if_icmp .ge 19, 3) := by decide +kernel
theorem dX9_addEmber_13 : decode cX9_addEmber 13 = .ok (.aload_n 0, 1) := by decide +kernel
theorem dX9_addEmber_14 : decode cX9_addEmber 14 = .ok (.getfield 15, 3) := by decide +kernel
theorem dX9_addEmber_17 : decode cX9_addEmber 17 = .ok (.iload_n 3, 1) := by decide +kernel
theorem dX9_addEmber_18 : decode cX9_addEmber 18 = .ok (.dup2, 1) := by decide +kernel
theorem dX9_addEmber_19 : decode cX9_addEmber 19 = .ok (.iaload, 1) := by decide +kernel
theorem dX9_addEmber_20 : decode cX9_addEmber 20 = .ok (.iload_n 1, 1) := by decide +kernel
theorem dX9_addEmber_21 : decode cX9_addEmber 21 = .ok (.iload_n 2, 1) := by decide +kernel
theorem dX9_addEmber_22 : decode cX9_addEmber 22 = .ok (.iconst 3, 1) := by decide +kernel
theorem dX9_addEmber_23 : decode cX9_addEmber 23 = .ok (.irem, 1) := by decide +kernel
theorem dX9_addEmber_24 : decode cX9_addEmber 24 = .ok (.invokestatic 57, 3) := by decide +kernel
theorem dX9_addEmber_27 : decode cX9_addEmber 27 = .ok (.iadd, 1) := by decide +kernel
theorem dX9_addEmber_28 : decode cX9_addEmber 28 = .ok (.iastore, 1) := by decide +kernel
theorem dX9_addEmber_29 : decode cX9_addEmber 29 = .ok (.return_, 1) := by decide +kernel
theorem dX9_follow_0 : decode cX9_follow 0 = .ok (.aload_n 0, 1) := by decide +kernel
theorem dX9_follow_1 : decode cX9_follow 1 = .ok (.getfield 9, 3) := by decide +kernel
theorem dX9_follow_4 : decode cX9_follow 4 = .ok (.iconst 0, 1) := by decide +kernel
theorem dX9_follow_5 : decode cX9_follow 5 = .ok (.iload_n 1, 1) := by decide +kernel
theorem dX9_follow_6 : decode cX9_follow 6 = .ok (.iastore, 1) := by decide +kernel
theorem dX9_follow_7 : decode cX9_follow 7 = .ok (.iconst 1, 1) := by decide +kernel
theorem dX9_follow_8 : decode cX9_follow 8 = .ok (.istore 4, 2) := by decide +kernel
theorem dX9_follow_10 : decode cX9_follow 10 = .ok (.iload 4, 2) := by decide +kernel
theorem dX9_follow_12 : decode cX9_follow 12 = .ok (.iload_n 3, 1) := by decide +kernel
theorem dX9_follow_13 : decode cX9_follow 13 = .ok (.if_icmp .gt 72, 3) := by decide +kernel
theorem dX9_follow_16 : decode cX9_follow 16 = .ok (.iload 4, 2) := by decide +kernel
theorem dX9_follow_18 : decode cX9_follow 18 = .ok (.aload_n 0, 1) := by decide +kernel
theorem dX9_follow_19 : decode cX9_follow 19 = .ok (.getfield 9, 3) := by decide +kernel
theorem dX9_follow_22 : decode cX9_follow 22 = .ok (.arraylength, 1) := by decide +kernel
theorem dX9_follow_23 : decode cX9_follow 23 = .ok (.if_icmp .ge 62, 3) := by decide +kernel
theorem dX9_follow_26 : decode cX9_follow 26 = .ok (.iload 4, 2) := by decide +kernel
theorem dX9_follow_28 : decode cX9_follow 28 = .ok (.aload_n 0, 1) := by decide +kernel
theorem dX9_follow_29 : decode cX9_follow 29 = .ok (.getfield 15, 3) := by decide +kernel
theorem dX9_follow_32 : decode cX9_follow 32 = .ok (.arraylength, 1) := by decide +kernel
theorem dX9_follow_33 : decode cX9_follow 33 = .ok (.if_icmp .ge 13, 3) := by decide +kernel
theorem dX9_follow_36 : decode cX9_follow 36 = .ok (.aload_n 0, 1) := by decide +kernel
theorem dX9_follow_37 : decode cX9_follow 37 = .ok (.getfield 15, 3) := by decide +kernel
theorem dX9_follow_40 : decode cX9_follow 40 = .ok (.iload 4, 2) := by decide +kernel
theorem dX9_follow_42 : decode cX9_follow 42 = .ok (.iaload, 1) := by decide +kernel
theorem dX9_follow_43 : decode cX9_follow 43 = .ok (.goto 4, 3) := by decide +kernel
theorem dX9_follow_46 : decode cX9_follow 46 = .ok (.iconst 0, 1) := by decide +kernel
theorem dX9_follow_47 : decode cX9_follow 47 = .ok (.istore 5, 2) := by decide +kernel
theorem dX9_follow_49 : decode cX9_follow 49 = .ok (.aload_n 0, 1) := by decide +kernel
theorem dX9_follow_50 : decode cX9_follow 50 = .ok (.getfield 9, 3) := by decide +kernel
theorem dX9_follow_53 : decode cX9_follow 53 = .ok (.iload 4, 2) := by decide +kernel
theorem dX9_follow_55 : decode cX9_follow 55 = .ok (.iconst 0, 1) := by decide +kernel
theorem dX9_follow_56 : decode cX9_follow 56 = .ok (.bipush 99, 2) := by decide +kernel
theorem dX9_follow_58 : decode cX9_follow 58 = .ok (.aload_n 0, 1) := by decide +kernel
theorem dX9_follow_59 : decode cX9_follow 59 = .ok (.getfield 9, 3) := by decide +kernel
theorem dX9_follow_62 : decode cX9_follow 62 = .ok (.iload 4, 2) := by decide +kernel
theorem dX9_follow_64 : decode cX9_follow 64 = .ok (.iconst 1, 1) := by decide +kernel
theorem dX9_follow_65 : decode cX9_follow 65 = .ok (.isub, 1) := by decide +kernel
theorem dX9_follow_66 : decode cX9_follow 66 = .ok (.iaload, 1) := by decide +kernel
theorem dX9_follow_67 : decode cX9_follow 67 = .ok (.iload 5, 2) := by decide +kernel
theorem dX9_follow_69 : decode cX9_follow 69 = .ok (.iadd, 1) := by decide +kernel
theorem dX9_follow_70 : decode cX9_follow 70 = .ok (.invokestatic 61, 3) := by decide +kernel
theorem dX9_follow_73 : decode cX9_follow 73 = .ok (.iload_n 2, 1) := by decide +kernel
theorem dX9_follow_74 : decode cX9_follow 74 = .ok (.isub, 1) := by decide +kernel
theorem dX9_follow_75 : decode cX9_follow 75 = .ok (.invokestatic 66, 3) := by decide +kernel
theorem dX9_follow_78 : decode cX9_follow 78 = .ok (.iastore, 1) := by decide +kernel
theorem dX9_follow_79 : decode cX9_follow 79 = .ok (.iinc 4 1, 3) := by decide +kernel
theorem dX9_follow_82 : decode cX9_follow 82 = .ok (.goto (-72), 3) := by decide +kernel
theorem dX9_follow_85 : decode cX9_follow 85 = .ok (.return_, 1) := by decide +kernel
theorem dX9_coreGain_0 : decode cX9_coreGain 0 = .ok (.iconst 0, 1) := by decide +kernel
theorem dX9_coreGain_1 : decode cX9_coreGain 1 = .ok (.istore_n 3, 1) := by decide +kernel
theorem dX9_coreGain_2 : decode cX9_coreGain 2 = .ok (.iconst 0, 1) := by decide +kernel
theorem dX9_coreGain_3 : decode cX9_coreGain 3 = .ok (.istore 4, 2) := by decide +kernel
theorem dX9_coreGain_5 : decode cX9_coreGain 5 = .ok (.iload 4, 2) := by decide +kernel
theorem dX9_coreGain_7 : decode cX9_coreGain 7 = .ok (.iload_n 2, 1) := by decide +kernel
theorem dX9_coreGain_8 : decode cX9_coreGain 8 = .ok (.if_icmp .ge 33, 3) := by decide +kernel
theorem dX9_coreGain_11 : decode cX9_coreGain 11 = .ok (.iload 4, 2) := by decide +kernel
theorem dX9_coreGain_13 : decode cX9_coreGain 13 = .ok (.aload_n 0, 1) := by decide +kernel
theorem dX9_coreGain_14 : decode cX9_coreGain 14 = .ok (.getfield 9, 3) := by decide +kernel
theorem dX9_coreGain_17 : decode cX9_coreGain 17 = .ok (.arraylength, 1) := by decide +kernel
theorem dX9_coreGain_18 : decode cX9_coreGain 18 = .ok (.if_icmp .ge 23, 3) := by decide +kernel
theorem dX9_coreGain_21 : decode cX9_coreGain 21 = .ok (.iload_n 3, 1) := by decide +kernel
theorem dX9_coreGain_22 : decode cX9_coreGain 22 = .ok (.aload_n 0, 1) := by decide +kernel
theorem dX9_coreGain_23 : decode cX9_coreGain 23 = .ok (.getfield 9, 3) := by decide +kernel
theorem dX9_coreGain_26 : decode cX9_coreGain 26 = .ok (.iload 4, 2) := by decide +kernel
theorem dX9_coreGain_28 : decode cX9_coreGain 28 = .ok (.iaload, 1) := by decide +kernel
theorem dX9_coreGain_29 : decode cX9_coreGain 29 = .ok (.iload_n 1, 1) := by decide +kernel
theorem dX9_coreGain_30 : decode cX9_coreGain 30 = .ok (.invokestatic 69, 3) := by decide +kernel
theorem dX9_coreGain_33 : decode cX9_coreGain 33 = .ok (.iadd, 1) := by decide +kernel
theorem dX9_coreGain_34 : decode cX9_coreGain 34 = .ok (.istore_n 3, 1) := by decide +kernel
theorem dX9_coreGain_35 : decode cX9_coreGain 35 = .ok (.iinc 4 1, 3) := by decide +kernel
theorem dX9_coreGain_38 : decode cX9_coreGain 38 = .ok (.goto (-33), 3) := by decide +kernel
theorem dX9_coreGain_41 : decode cX9_coreGain 41 = .ok (.iload_n 3, 1) := by decide +kernel
theorem dX9_coreGain_42 : decode cX9_coreGain 42 = .ok (.ireturn, 1) := by decide +kernel
theorem dX9_sideGain_0 : decode cX9_sideGain 0 = .ok (.iconst 0, 1) := by decide +kernel
theorem dX9_sideGain_1 : decode cX9_sideGain 1 = .ok (.istore 4, 2) := by decide +kernel
theorem dX9_sideGain_3 : decode cX9_sideGain 3 = .ok (.iload_n 2, 1) := by decide +kernel
theorem dX9_sideGain_4 : decode cX9_sideGain 4 = .ok (.istore 5, 2) := by decide +kernel
theorem dX9_sideGain_6 : decode cX9_sideGain 6 = .ok (.iload 5, 2) := by decide +kernel
theorem dX9_sideGain_8 : decode cX9_sideGain 8 = .ok (.iload_n 3, 1) := by decide +kernel
theorem dX9_sideGain_9 : decode cX9_sideGain 9 = .ok (.if_icmp .ge 35, 3) := by decide +kernel
theorem dX9_sideGain_12 : decode cX9_sideGain 12 = .ok (.iload 5, 2) := by decide +kernel
theorem dX9_sideGain_14 : decode cX9_sideGain 14 = .ok (.aload_n 0, 1) := by decide +kernel
theorem dX9_sideGain_15 : decode cX9_sideGain 15 = .ok (.getfield 9, 3) := by decide +kernel
theorem dX9_sideGain_18 : decode cX9_sideGain 18 = .ok (.arraylength, 1) := by decide +kernel
theorem dX9_sideGain_19 : decode cX9_sideGain 19 = .ok (.if_icmp .ge 25, 3) := by decide +kernel
theorem dX9_sideGain_22 : decode cX9_sideGain 22 = .ok (.iload 4, 2) := by decide +kernel
theorem dX9_sideGain_24 : decode cX9_sideGain 24 = .ok (.aload_n 0, 1) := by decide +kernel
theorem dX9_sideGain_25 : decode cX9_sideGain 25 = .ok (.getfield 9, 3) := by decide +kernel
theorem dX9_sideGain_28 : decode cX9_sideGain 28 = .ok (.iload 5, 2) := by decide +kernel
theorem dX9_sideGain_30 : decode cX9_sideGain 30 = .ok (.iaload, 1) := by decide +kernel
theorem dX9_sideGain_31 : decode cX9_sideGain 31 = .ok (.iload_n 1, 1) := by decide +kernel
theorem dX9_sideGain_32 : decode cX9_sideGain 32 = .ok (.invokestatic 74, 3) := by decide +kernel
theorem dX9_sideGain_35 : decode cX9_sideGain 35 = .ok (.iadd, 1) := by decide +kernel
theorem dX9_sideGain_36 : decode cX9_sideGain 36 = .ok (.istore 4, 2) := by decide +kernel
theorem dX9_sideGain_38 : decode cX9_sideGain 38 = .ok (.iinc 5 1, 3) := by decide +kernel
theorem dX9_sideGain_41 : decode cX9_sideGain 41 = .ok (.goto (-35), 3) := by decide +kernel
theorem dX9_sideGain_44 : decode cX9_sideGain 44 = .ok (.iload 4, 2) := by decide +kernel
theorem dX9_sideGain_46 : decode cX9_sideGain 46 = .ok (.ireturn, 1) := by decide +kernel
theorem dJ6_bitCount_0f7a4_0 : decode cJ6_bitCount_0f7a4 0 = .ok (.iload_n 0, 1) := by decide +kernel
theorem dJ6_bitCount_0f7a4_1 : decode cJ6_bitCount_0f7a4 1 = .ok (.iload_n 0, 1) := by decide +kernel
theorem dJ6_bitCount_0f7a4_2 : decode cJ6_bitCount_0f7a4 2 = .ok (.iconst 1, 1) := by decide +kernel
theorem dJ6_bitCount_0f7a4_3 : decode cJ6_bitCount_0f7a4 3 = .ok (.iushr, 1) := by decide +kernel
theorem dJ6_bitCount_0f7a4_4 : decode cJ6_bitCount_0f7a4 4 = .ok (.ldc_w 265, 3) := by decide +kernel
theorem dJ6_bitCount_0f7a4_7 : decode cJ6_bitCount_0f7a4 7 = .ok (.iand, 1) := by decide +kernel
theorem dJ6_bitCount_0f7a4_8 : decode cJ6_bitCount_0f7a4 8 = .ok (.isub, 1) := by decide +kernel
theorem dJ6_bitCount_0f7a4_9 : decode cJ6_bitCount_0f7a4 9 = .ok (.istore_n 0, 1) := by decide +kernel
theorem dJ6_bitCount_0f7a4_10 : decode cJ6_bitCount_0f7a4 10 = .ok (.iload_n 0, 1) := by decide +kernel
theorem dJ6_bitCount_0f7a4_11 : decode cJ6_bitCount_0f7a4 11 = .ok (.ldc_w 266, 3) := by decide +kernel
theorem dJ6_bitCount_0f7a4_14 : decode cJ6_bitCount_0f7a4 14 = .ok (.iand, 1) := by decide +kernel
theorem dJ6_bitCount_0f7a4_15 : decode cJ6_bitCount_0f7a4 15 = .ok (.iload_n 0, 1) := by decide +kernel
theorem dJ6_bitCount_0f7a4_16 : decode cJ6_bitCount_0f7a4 16 = .ok (.iconst 2, 1) := by decide +kernel
theorem dJ6_bitCount_0f7a4_17 : decode cJ6_bitCount_0f7a4 17 = .ok (.iushr, 1) := by decide +kernel
theorem dJ6_bitCount_0f7a4_18 : decode cJ6_bitCount_0f7a4 18 = .ok (.ldc_w 266, 3) := by decide +kernel
theorem dJ6_bitCount_0f7a4_21 : decode cJ6_bitCount_0f7a4 21 = .ok (.iand, 1) := by decide +kernel
theorem dJ6_bitCount_0f7a4_22 : decode cJ6_bitCount_0f7a4 22 = .ok (.iadd, 1) := by decide +kernel
theorem dJ6_bitCount_0f7a4_23 : decode cJ6_bitCount_0f7a4 23 = .ok (.istore_n 0, 1) := by decide +kernel
theorem dJ6_bitCount_0f7a4_24 : decode cJ6_bitCount_0f7a4 24 = .ok (.iload_n 0, 1) := by decide +kernel
theorem dJ6_bitCount_0f7a4_25 : decode cJ6_bitCount_0f7a4 25 = .ok (.iload_n 0, 1) := by decide +kernel
theorem dJ6_bitCount_0f7a4_26 : decode cJ6_bitCount_0f7a4 26 = .ok (.iconst 4, 1) := by decide +kernel
theorem dJ6_bitCount_0f7a4_27 : decode cJ6_bitCount_0f7a4 27 = .ok (.iushr, 1) := by decide +kernel
theorem dJ6_bitCount_0f7a4_28 : decode cJ6_bitCount_0f7a4 28 = .ok (.iadd, 1) := by decide +kernel
theorem dJ6_bitCount_0f7a4_29 : decode cJ6_bitCount_0f7a4 29 = .ok (.ldc_w 267, 3) := by decide +kernel
theorem dJ6_bitCount_0f7a4_32 : decode cJ6_bitCount_0f7a4 32 = .ok (.iand, 1) := by decide +kernel
theorem dJ6_bitCount_0f7a4_33 : decode cJ6_bitCount_0f7a4 33 = .ok (.istore_n 0, 1) := by decide +kernel
theorem dJ6_bitCount_0f7a4_34 : decode cJ6_bitCount_0f7a4 34 = .ok (.iload_n 0, 1) := by decide +kernel
theorem dJ6_bitCount_0f7a4_35 : decode cJ6_bitCount_0f7a4 35 = .ok (.iload_n 0, 1) := by decide +kernel
theorem dJ6_bitCount_0f7a4_36 : decode cJ6_bitCount_0f7a4 36 = .ok (.bipush 8, 2) := by decide +kernel
theorem dJ6_bitCount_0f7a4_38 : decode cJ6_bitCount_0f7a4 38 = .ok (.iushr, 1) := by decide +kernel
theorem dJ6_bitCount_0f7a4_39 : decode cJ6_bitCount_0f7a4 39 = .ok (.iadd, 1) := by decide +kernel
theorem dJ6_bitCount_0f7a4_40 : decode cJ6_bitCount_0f7a4 40 = .ok (.istore_n 0, 1) := by decide +kernel
theorem dJ6_bitCount_0f7a4_41 : decode cJ6_bitCount_0f7a4 41 = .ok (.iload_n 0, 1) := by decide +kernel
theorem dJ6_bitCount_0f7a4_42 : decode cJ6_bitCount_0f7a4 42 = .ok (.iload_n 0, 1) := by decide +kernel
theorem dJ6_bitCount_0f7a4_43 : decode cJ6_bitCount_0f7a4 43 = .ok (.bipush 16, 2) := by decide +kernel
theorem dJ6_bitCount_0f7a4_45 : decode cJ6_bitCount_0f7a4 45 = .ok (.iushr, 1) := by decide +kernel
theorem dJ6_bitCount_0f7a4_46 : decode cJ6_bitCount_0f7a4 46 = .ok (.iadd, 1) := by decide +kernel
theorem dJ6_bitCount_0f7a4_47 : decode cJ6_bitCount_0f7a4 47 = .ok (.istore_n 0, 1) := by decide +kernel
theorem dJ6_bitCount_0f7a4_48 : decode cJ6_bitCount_0f7a4 48 = .ok (.iload_n 0, 1) := by decide +kernel
theorem dJ6_bitCount_0f7a4_49 : decode cJ6_bitCount_0f7a4 49 = .ok (.bipush 63, 2) := by decide +kernel
theorem dJ6_bitCount_0f7a4_51 : decode cJ6_bitCount_0f7a4 51 = .ok (.iand, 1) := by decide +kernel
theorem dJ6_bitCount_0f7a4_52 : decode cJ6_bitCount_0f7a4 52 = .ok (.ireturn, 1) := by decide +kernel
theorem dJ9_abs_0f7a4_0 : decode cJ9_abs_0f7a4 0 = .ok (.iload_n 0, 1) := by decide +kernel
theorem dJ9_abs_0f7a4_1 : decode cJ9_abs_0f7a4 1 = .ok (.ifCond .ge 8, 3) := by decide +kernel
theorem dJ9_abs_0f7a4_4 : decode cJ9_abs_0f7a4 4 = .ok (.iload_n 0, 1) := by decide +kernel
theorem dJ9_abs_0f7a4_5 : decode cJ9_abs_0f7a4 5 = .ok (.ineg, 1) := by decide +kernel
theorem dJ9_abs_0f7a4_6 : decode cJ9_abs_0f7a4 6 = .ok (.goto 4, 3) := by decide +kernel
theorem dJ9_abs_0f7a4_9 : decode cJ9_abs_0f7a4 9 = .ok (.iload_n 0, 1) := by decide +kernel
theorem dJ9_abs_0f7a4_10 : decode cJ9_abs_0f7a4 10 = .ok (.ireturn, 1) := by decide +kernel
theorem dJ9_max_7cf53_0 : decode cJ9_max_7cf53 0 = .ok (.iload_n 0, 1) := by decide +kernel
theorem dJ9_max_7cf53_1 : decode cJ9_max_7cf53 1 = .ok (.iload_n 1, 1) := by decide +kernel
theorem dJ9_max_7cf53_2 : decode cJ9_max_7cf53 2 = .ok (.if_icmp .lt 7, 3) := by decide +kernel
theorem dJ9_max_7cf53_5 : decode cJ9_max_7cf53 5 = .ok (.iload_n 0, 1) := by decide +kernel
theorem dJ9_max_7cf53_6 : decode cJ9_max_7cf53 6 = .ok (.goto 4, 3) := by decide +kernel
theorem dJ9_max_7cf53_9 : decode cJ9_max_7cf53 9 = .ok (.iload_n 1, 1) := by decide +kernel
theorem dJ9_max_7cf53_10 : decode cJ9_max_7cf53 10 = .ok (.ireturn, 1) := by decide +kernel
theorem dJ9_min_7cf53_0 : decode cJ9_min_7cf53 0 = .ok (.iload_n 0, 1) := by decide +kernel
theorem dJ9_min_7cf53_1 : decode cJ9_min_7cf53 1 = .ok (.iload_n 1, 1) := by decide +kernel
theorem dJ9_min_7cf53_2 : decode cJ9_min_7cf53 2 = .ok (.if_icmp .gt 7, 3) := by decide +kernel
theorem dJ9_min_7cf53_5 : decode cJ9_min_7cf53 5 = .ok (.iload_n 0, 1) := by decide +kernel
theorem dJ9_min_7cf53_6 : decode cJ9_min_7cf53 6 = .ok (.goto 4, 3) := by decide +kernel
theorem dJ9_min_7cf53_9 : decode cJ9_min_7cf53 9 = .ok (.iload_n 1, 1) := by decide +kernel
theorem dJ9_min_7cf53_10 : decode cJ9_min_7cf53 10 = .ok (.ireturn, 1) := by decide +kernel
theorem dJ0_length_8abf5_0 : decode cJ0_length_8abf5 0 = .ok (.aload_n 0, 1) := by decide +kernel
theorem dJ0_length_8abf5_1 : decode cJ0_length_8abf5 1 = .ok (.getfield 9, 3) := by decide +kernel
theorem dJ0_length_8abf5_4 : decode cJ0_length_8abf5 4 = .ok (.arraylength, 1) := by decide +kernel
theorem dJ0_length_8abf5_5 : decode cJ0_length_8abf5 5 = .ok (.aload_n 0, 1) := by decide +kernel
theorem dJ0_length_8abf5_6 : decode cJ0_length_8abf5 6 = .ok (.invokevirtual 335, 3) := by decide +kernel
theorem dJ0_length_8abf5_9 : decode cJ0_length_8abf5 9 = .ok (.ishr, 1) := by decide +kernel
theorem dJ0_length_8abf5_10 : decode cJ0_length_8abf5 10 = .ok (.ireturn, 1) := by decide +kernel
theorem dJ0_charAt_5068e_0 : decode cJ0_charAt_5068e 0 = .ok (.aload_n 0, 1) := by decide +kernel
theorem dJ0_charAt_5068e_1 : decode cJ0_charAt_5068e 1 = .ok (.invokevirtual 492, 3) := by decide +kernel
theorem dJ0_charAt_5068e_4 : decode cJ0_charAt_5068e 4 = .ok (.ifCond .eq 12, 3) := by decide +kernel
theorem dJ0_charAt_5068e_7 : decode cJ0_charAt_5068e 7 = .ok (.aload_n 0, 1) := by decide +kernel
theorem dJ0_charAt_5068e_8 : decode cJ0_charAt_5068e 8 = .ok (.getfield 9, 3) := by decide +kernel
theorem dJ0_charAt_5068e_11 : decode cJ0_charAt_5068e 11 = .ok (.iload_n 1, 1) := by decide +kernel
theorem dJ0_charAt_5068e_12 : decode cJ0_charAt_5068e 12 = .ok (.invokestatic 495, 3) := by decide +kernel
theorem dJ0_charAt_5068e_15 : decode cJ0_charAt_5068e 15 = .ok (.ireturn, 1) := by decide +kernel
theorem dJ0_charAt_5068e_16 : decode cJ0_charAt_5068e 16 = .ok (.aload_n 0, 1) := by decide +kernel
theorem dJ0_charAt_5068e_17 : decode cJ0_charAt_5068e 17 = .ok (.getfield 9, 3) := by decide +kernel
theorem dJ0_charAt_5068e_20 : decode cJ0_charAt_5068e 20 = .ok (.iload_n 1, 1) := by decide +kernel
theorem dJ0_charAt_5068e_21 : decode cJ0_charAt_5068e 21 = .ok (.invokestatic 498, 3) := by decide +kernel
theorem dJ0_charAt_5068e_24 : decode cJ0_charAt_5068e 24 = .ok (.ireturn, 1) := by decide +kernel
theorem dJ0_coder_7d493_0 : decode cJ0_coder_7d493 0 = .ok (.getstatic 38, 3) := by decide +kernel
theorem dJ0_coder_7d493_3 : decode cJ0_coder_7d493 3 = .ok (.ifCond .eq 10, 3) := by decide +kernel
theorem dJ0_coder_7d493_6 : decode cJ0_coder_7d493 6 = .ok (.aload_n 0, 1) := by decide +kernel
theorem dJ0_coder_7d493_7 : decode cJ0_coder_7d493 7 = .ok (.getfield 15, 3) := by decide +kernel
theorem dJ0_coder_7d493_10 : decode cJ0_coder_7d493 10 = .ok (.goto 4, 3) := by decide +kernel
theorem dJ0_coder_7d493_13 : decode cJ0_coder_7d493 13 = .ok (.iconst 1, 1) := by decide +kernel
theorem dJ0_coder_7d493_14 : decode cJ0_coder_7d493 14 = .ok (.ireturn, 1) := by decide +kernel
theorem dJ0_isLatin1_aae02_0 : decode cJ0_isLatin1_aae02 0 = .ok (.getstatic 38, 3) := by decide +kernel
theorem dJ0_isLatin1_aae02_3 : decode cJ0_isLatin1_aae02 3 = .ok (.ifCond .eq 14, 3) := by decide +kernel
theorem dJ0_isLatin1_aae02_6 : decode cJ0_isLatin1_aae02 6 = .ok (.aload_n 0, 1) := by decide +kernel
theorem dJ0_isLatin1_aae02_7 : decode cJ0_isLatin1_aae02 7 = .ok (.getfield 15, 3) := by decide +kernel
theorem dJ0_isLatin1_aae02_10 : decode cJ0_isLatin1_aae02 10 = .ok (.ifCond .ne 7, 3) := by decide +kernel
theorem dJ0_isLatin1_aae02_13 : decode cJ0_isLatin1_aae02 13 = .ok (.iconst 1, 1) := by decide +kernel
theorem dJ0_isLatin1_aae02_14 : decode cJ0_isLatin1_aae02 14 = .ok (.goto 4, 3) := by decide +kernel
theorem dJ0_isLatin1_aae02_17 : decode cJ0_isLatin1_aae02 17 = .ok (.iconst 0, 1) := by decide +kernel
theorem dJ0_isLatin1_aae02_18 : decode cJ0_isLatin1_aae02 18 = .ok (.ireturn, 1) := by decide +kernel
theorem dJ0_checkIndex_df160_0 : decode cJ0_checkIndex_df160 0 = .ok (.iload_n 0, 1) := by decide +kernel
theorem dJ0_checkIndex_df160_1 : decode cJ0_checkIndex_df160 1 = .ok (.iload_n 1, 1) := by decide +kernel
theorem dJ0_checkIndex_df160_2 : decode cJ0_checkIndex_df160 2 = .ok (.getstatic 1053, 3) := by decide +kernel
theorem dJ0_checkIndex_df160_5 : decode cJ0_checkIndex_df160 5 = .ok (.invokestatic 1059, 3) := by decide +kernel
theorem dJ0_checkIndex_df160_8 : decode cJ0_checkIndex_df160 8 = .ok (.pop, 1) := by decide +kernel
theorem dJ0_checkIndex_df160_9 : decode cJ0_checkIndex_df160 9 = .ok (.return_, 1) := by decide +kernel
theorem dJ1_charAt_3b067_0 : decode cJ1_charAt_3b067 0 = .ok (.iload_n 1, 1) := by decide +kernel
theorem dJ1_charAt_3b067_1 : decode cJ1_charAt_3b067 1 = .ok (.aload_n 0, 1) := by decide +kernel
theorem dJ1_charAt_3b067_2 : decode cJ1_charAt_3b067 2 = .ok (.arraylength, 1) := by decide +kernel
theorem dJ1_charAt_3b067_3 : decode cJ1_charAt_3b067 3 = .ok (.invokestatic 9, 3) := by decide +kernel
theorem dJ1_charAt_3b067_6 : decode cJ1_charAt_3b067 6 = .ok (.aload_n 0, 1) := by decide +kernel
theorem dJ1_charAt_3b067_7 : decode cJ1_charAt_3b067 7 = .ok (.iload_n 1, 1) := by decide +kernel
theorem dJ1_charAt_3b067_8 : decode cJ1_charAt_3b067 8 = .ok (.baload, 1) := by decide +kernel
theorem dJ1_charAt_3b067_9 : decode cJ1_charAt_3b067 9 = .ok (.sipush 255, 3) := by decide +kernel
theorem dJ1_charAt_3b067_12 : decode cJ1_charAt_3b067 12 = .ok (.iand, 1) := by decide +kernel
theorem dJ1_charAt_3b067_13 : decode cJ1_charAt_3b067 13 = .ok (.i2c, 1) := by decide +kernel
theorem dJ1_charAt_3b067_14 : decode cJ1_charAt_3b067 14 = .ok (.ireturn, 1) := by decide +kernel
theorem dJ2_getChar_3b067_0 : decode cJ2_getChar_3b067 0 = .ok (.getstatic 44, 3) := by decide +kernel
theorem dJ2_getChar_3b067_3 : decode cJ2_getChar_3b067 3 = .ok (.ifCond .ne 25, 3) := by decide +kernel
theorem dJ2_getChar_3b067_6 : decode cJ2_getChar_3b067 6 = .ok (.iload_n 1, 1) := by decide +kernel
theorem dJ2_getChar_3b067_7 : decode cJ2_getChar_3b067 7 = .ok (.ifCond .lt 11, 3) := by decide +kernel
theorem dJ2_getChar_3b067_10 : decode cJ2_getChar_3b067 10 = .ok (.iload_n 1, 1) := by decide +kernel
theorem dJ2_getChar_3b067_11 : decode cJ2_getChar_3b067 11 = .ok (.aload_n 0, 1) := by decide +kernel
theorem dJ2_getChar_3b067_12 : decode cJ2_getChar_3b067 12 = .ok (.invokestatic 48, 3) := by decide +kernel
theorem dJ2_getChar_3b067_15 : decode cJ2_getChar_3b067 15 = .ok (.if_icmp .lt 13, 3) := by decide +kernel
theorem dJ2_getChar_3b067_18 : decode cJ2_getChar_3b067 18 = .ok (.new 52, 3) := by decide +kernel
theorem dJ2_getChar_3b067_21 : decode cJ2_getChar_3b067 21 = .ok (.dup, 1) := by decide +kernel
theorem dJ2_getChar_3b067_22 : decode cJ2_getChar_3b067 22 = .ok (.ldc 54, 2) := by decide +kernel
theorem dJ2_getChar_3b067_24 : decode cJ2_getChar_3b067 24 = .ok (.invokespecial 56, 3) := by decide +kernel
theorem dJ2_getChar_3b067_27 : decode cJ2_getChar_3b067 27 = .ok (.athrow, 1) := by decide +kernel
theorem dJ2_getChar_3b067_28 : decode cJ2_getChar_3b067 28 = .ok (.iload_n 1, 1) := by decide +kernel
theorem dJ2_getChar_3b067_29 : decode cJ2_getChar_3b067 29 = .ok (.iconst 1, 1) := by decide +kernel
theorem dJ2_getChar_3b067_30 : decode cJ2_getChar_3b067 30 = .ok (.ishl, 1) := by decide +kernel
theorem dJ2_getChar_3b067_31 : decode cJ2_getChar_3b067 31 = .ok (.istore_n 1, 1) := by decide +kernel
theorem dJ2_getChar_3b067_32 : decode cJ2_getChar_3b067 32 = .ok (.aload_n 0, 1) := by decide +kernel
theorem dJ2_getChar_3b067_33 : decode cJ2_getChar_3b067 33 = .ok (.iload_n 1, 1) := by decide +kernel
theorem dJ2_getChar_3b067_34 : decode cJ2_getChar_3b067 34 = .ok (.iinc 1 1, 3) := by decide +kernel
theorem dJ2_getChar_3b067_37 : decode cJ2_getChar_3b067 37 = .ok (.baload, 1) := by decide +kernel
theorem dJ2_getChar_3b067_38 : decode cJ2_getChar_3b067 38 = .ok (.sipush 255, 3) := by decide +kernel
theorem dJ2_getChar_3b067_41 : decode cJ2_getChar_3b067 41 = .ok (.iand, 1) := by decide +kernel
theorem dJ2_getChar_3b067_42 : decode cJ2_getChar_3b067 42 = .ok (.getstatic 59, 3) := by decide +kernel
theorem dJ2_getChar_3b067_45 : decode cJ2_getChar_3b067 45 = .ok (.ishl, 1) := by decide +kernel
theorem dJ2_getChar_3b067_46 : decode cJ2_getChar_3b067 46 = .ok (.aload_n 0, 1) := by decide +kernel
theorem dJ2_getChar_3b067_47 : decode cJ2_getChar_3b067 47 = .ok (.iload_n 1, 1) := by decide +kernel
theorem dJ2_getChar_3b067_48 : decode cJ2_getChar_3b067 48 = .ok (.baload, 1) := by decide +kernel
theorem dJ2_getChar_3b067_49 : decode cJ2_getChar_3b067 49 = .ok (.sipush 255, 3) := by decide +kernel
theorem dJ2_getChar_3b067_52 : decode cJ2_getChar_3b067 52 = .ok (.iand, 1) := by decide +kernel
theorem dJ2_getChar_3b067_53 : decode cJ2_getChar_3b067 53 = .ok (.getstatic 63, 3) := by decide +kernel
theorem dJ2_getChar_3b067_56 : decode cJ2_getChar_3b067 56 = .ok (.ishl, 1) := by decide +kernel
theorem dJ2_getChar_3b067_57 : decode cJ2_getChar_3b067 57 = .ok (.ior, 1) := by decide +kernel
theorem dJ2_getChar_3b067_58 : decode cJ2_getChar_3b067 58 = .ok (.i2c, 1) := by decide +kernel
theorem dJ2_getChar_3b067_59 : decode cJ2_getChar_3b067 59 = .ok (.ireturn, 1) := by decide +kernel
theorem dJ2_length_9d52b_0 : decode cJ2_length_9d52b 0 = .ok (.aload_n 0, 1) := by decide +kernel
theorem dJ2_length_9d52b_1 : decode cJ2_length_9d52b 1 = .ok (.arraylength, 1) := by decide +kernel
theorem dJ2_length_9d52b_2 : decode cJ2_length_9d52b 2 = .ok (.iconst 1, 1) := by decide +kernel
theorem dJ2_length_9d52b_3 : decode cJ2_length_9d52b 3 = .ok (.ishr, 1) := by decide +kernel
theorem dJ2_length_9d52b_4 : decode cJ2_length_9d52b 4 = .ok (.ireturn, 1) := by decide +kernel
theorem dJ2_charAt_3b067_0 : decode cJ2_charAt_3b067 0 = .ok (.iload_n 1, 1) := by decide +kernel
theorem dJ2_charAt_3b067_1 : decode cJ2_charAt_3b067 1 = .ok (.aload_n 0, 1) := by decide +kernel
theorem dJ2_charAt_3b067_2 : decode cJ2_charAt_3b067 2 = .ok (.invokestatic 67, 3) := by decide +kernel
theorem dJ2_charAt_3b067_5 : decode cJ2_charAt_3b067 5 = .ok (.aload_n 0, 1) := by decide +kernel
theorem dJ2_charAt_3b067_6 : decode cJ2_charAt_3b067 6 = .ok (.iload_n 1, 1) := by decide +kernel
theorem dJ2_charAt_3b067_7 : decode cJ2_charAt_3b067 7 = .ok (.invokestatic 71, 3) := by decide +kernel
theorem dJ2_charAt_3b067_10 : decode cJ2_charAt_3b067 10 = .ok (.ireturn, 1) := by decide +kernel
theorem dJ2_checkIndex_2214a_0 : decode cJ2_checkIndex_2214a 0 = .ok (.iload_n 0, 1) := by decide +kernel
theorem dJ2_checkIndex_2214a_1 : decode cJ2_checkIndex_2214a 1 = .ok (.aload_n 1, 1) := by decide +kernel
theorem dJ2_checkIndex_2214a_2 : decode cJ2_checkIndex_2214a 2 = .ok (.invokestatic 48, 3) := by decide +kernel
theorem dJ2_checkIndex_2214a_5 : decode cJ2_checkIndex_2214a 5 = .ok (.invokestatic 414, 3) := by decide +kernel
theorem dJ2_checkIndex_2214a_8 : decode cJ2_checkIndex_2214a 8 = .ok (.return_, 1) := by decide +kernel
theorem dJ7_fill_53178_0 : decode cJ7_fill_53178 0 = .ok (.iconst 0, 1) := by decide +kernel
theorem dJ7_fill_53178_1 : decode cJ7_fill_53178 1 = .ok (.istore_n 2, 1) := by decide +kernel
theorem dJ7_fill_53178_2 : decode cJ7_fill_53178 2 = .ok (.aload_n 0, 1) := by decide +kernel
theorem dJ7_fill_53178_3 : decode cJ7_fill_53178 3 = .ok (.arraylength, 1) := by decide +kernel
theorem dJ7_fill_53178_4 : decode cJ7_fill_53178 4 = .ok (.istore_n 3, 1) := by decide +kernel
theorem dJ7_fill_53178_5 : decode cJ7_fill_53178 5 = .ok (.iload_n 2, 1) := by decide +kernel
theorem dJ7_fill_53178_6 : decode cJ7_fill_53178 6 = .ok (.iload_n 3, 1) := by decide +kernel
theorem dJ7_fill_53178_7 : decode cJ7_fill_53178 7 = .ok (.if_icmp .ge 13, 3) := by decide +kernel
theorem dJ7_fill_53178_10 : decode cJ7_fill_53178 10 = .ok (.aload_n 0, 1) := by decide +kernel
theorem dJ7_fill_53178_11 : decode cJ7_fill_53178 11 = .ok (.iload_n 2, 1) := by decide +kernel
theorem dJ7_fill_53178_12 : decode cJ7_fill_53178 12 = .ok (.iload_n 1, 1) := by decide +kernel
theorem dJ7_fill_53178_13 : decode cJ7_fill_53178 13 = .ok (.iastore, 1) := by decide +kernel
theorem dJ7_fill_53178_14 : decode cJ7_fill_53178 14 = .ok (.iinc 2 1, 3) := by decide +kernel
theorem dJ7_fill_53178_17 : decode cJ7_fill_53178 17 = .ok (.goto (-12), 3) := by decide +kernel
theorem dJ7_fill_53178_20 : decode cJ7_fill_53178 20 = .ok (.return_, 1) := by decide +kernel
theorem dJ3_checkIndex_8e157_0 : decode cJ3_checkIndex_8e157 0 = .ok (.iload_n 0, 1) := by decide +kernel
theorem dJ3_checkIndex_8e157_1 : decode cJ3_checkIndex_8e157 1 = .ok (.ifCond .lt 8, 3) := by decide +kernel
theorem dJ3_checkIndex_8e157_4 : decode cJ3_checkIndex_8e157 4 = .ok (.iload_n 0, 1) := by decide +kernel
theorem dJ3_checkIndex_8e157_5 : decode cJ3_checkIndex_8e157 5 = .ok (.iload_n 1, 1) := by decide +kernel
theorem dJ3_checkIndex_8e157_6 : decode cJ3_checkIndex_8e157 6 = .ok (.if_icmp .lt 10, 3) := by decide +kernel
theorem dJ3_checkIndex_8e157_9 : decode cJ3_checkIndex_8e157 9 = .ok (.aload_n 2, 1) := by decide +kernel
theorem dJ3_checkIndex_8e157_10 : decode cJ3_checkIndex_8e157 10 = .ok (.iload_n 0, 1) := by decide +kernel
theorem dJ3_checkIndex_8e157_11 : decode cJ3_checkIndex_8e157 11 = .ok (.iload_n 1, 1) := by decide +kernel
theorem dJ3_checkIndex_8e157_12 : decode cJ3_checkIndex_8e157 12 = .ok (.invokestatic 95, 3) := by decide +kernel
theorem dJ3_checkIndex_8e157_15 : decode cJ3_checkIndex_8e157 15 = .ok (.athrow, 1) := by decide +kernel
theorem dJ3_checkIndex_8e157_16 : decode cJ3_checkIndex_8e157 16 = .ok (.iload_n 0, 1) := by decide +kernel
theorem dJ3_checkIndex_8e157_17 : decode cJ3_checkIndex_8e157 17 = .ok (.ireturn, 1) := by decide +kernel
end
section
theorem dX10_init_0 : decode cX10_init 0 = .ok (.aload_n 0, 1) := by decide +kernel
theorem dX10_init_1 : decode cX10_init 1 = .ok (.invokespecial 3, 3) := by decide +kernel
theorem dX10_init_4 : decode cX10_init 4 = .ok (.aload_n 0, 1) := by decide +kernel
theorem dX10_init_5 : decode cX10_init 5 = .ok (.new 9, 3) := by decide +kernel
theorem dX10_init_8 : decode cX10_init 8 = .ok (.dup, 1) := by decide +kernel
theorem dX10_init_9 : decode cX10_init 9 = .ok (.invokespecial 11, 3) := by decide +kernel
theorem dX10_init_12 : decode cX10_init 12 = .ok (.putfield 12, 3) := by decide +kernel
theorem dX10_init_15 : decode cX10_init 15 = .ok (.aload_n 0, 1) := by decide +kernel
theorem dX10_init_16 : decode cX10_init 16 = .ok (.new 9, 3) := by decide +kernel
theorem dX10_init_19 : decode cX10_init 19 = .ok (.dup, 1) := by decide +kernel
theorem dX10_init_20 : decode cX10_init 20 = .ok (.invokespecial 11, 3) := by decide +kernel
theorem dX10_init_23 : decode cX10_init 23 = .ok (.putfield 16, 3) := by decide +kernel
theorem dX10_init_26 : decode cX10_init 26 = .ok (.aload_n 0, 1) := by decide +kernel
theorem dX10_init_27 : decode cX10_init 27 = .ok (.iconst 2, 1) := by decide +kernel
theorem dX10_init_28 : decode cX10_init 28 = .ok (.anewarray 9, 3) := by decide +kernel
theorem dX10_init_31 : decode cX10_init 31 = .ok (.dup, 1) := by decide +kernel
theorem dX10_init_32 : decode cX10_init 32 = .ok (.iconst 0, 1) := by decide +kernel
theorem dX10_init_33 : decode cX10_init 33 = .ok (.new 9, 3) := by decide +kernel
theorem dX10_init_36 : decode cX10_init 36 = .ok (.dup, 1) := by decide +kernel
theorem dX10_init_37 : decode cX10_init 37 = .ok (.invokespecial 11, 3) := by decide +kernel
theorem dX10_init_40 : decode cX10_init 40 = .ok (.aastore, 1) := by decide +kernel
theorem dX10_init_41 : decode cX10_init 41 = .ok (.dup, 1) := by decide +kernel
theorem dX10_init_42 : decode cX10_init 42 = .ok (.iconst 1, 1) := by decide +kernel
theorem dX10_init_43 : decode cX10_init 43 = .ok (.new 9, 3) := by decide +kernel
theorem dX10_init_46 : decode cX10_init 46 = .ok (.dup, 1) := by decide +kernel
theorem dX10_init_47 : decode cX10_init 47 = .ok (.invokespecial 11, 3) := by decide +kernel
theorem dX10_init_50 : decode cX10_init 50 = .ok (.aastore, 1) := by decide +kernel
theorem dX10_init_51 : decode cX10_init 51 = .ok (.putfield 19, 3) := by decide +kernel
theorem dX10_init_54 : decode cX10_init 54 = .ok (.aload_n 0, 1) := by decide +kernel
theorem dX10_init_55 : decode cX10_init 55 = .ok (.iconst 2, 1) := by decide +kernel
theorem dX10_init_56 : decode cX10_init 56 = .ok (.newarray .boolean, 2) := by decide +kernel
theorem dX10_init_58 : decode cX10_init 58 = .ok (.putfield 23, 3) := by decide +kernel
theorem dX10_init_61 : decode cX10_init 61 = .ok (.aload_n 0, 1) := by decide +kernel
theorem dX10_init_62 : decode cX10_init 62 = .ok (.new 27, 3) := by decide +kernel
theorem dX10_init_65 : decode cX10_init 65 = .ok (.dup, 1) := by decide +kernel
theorem dX10_init_66 : decode cX10_init 66 = .ok (.invokespecial 29, 3) := by decide +kernel
theorem dX10_init_69 : decode cX10_init 69 = .ok (.putfield 30, 3) := by decide +kernel
theorem dX10_init_72 : decode cX10_init 72 = .ok (.aload_n 0, 1) := by decide +kernel
theorem dX10_init_73 : decode cX10_init 73 = .ok (.new 34, 3) := by decide +kernel
theorem dX10_init_76 : decode cX10_init 76 = .ok (.dup, 1) := by decide +kernel
theorem dX10_init_77 : decode cX10_init 77 = .ok (.invokespecial 36, 3) := by decide +kernel
theorem dX10_init_80 : decode cX10_init 80 = .ok (.putfield 37, 3) := by decide +kernel
theorem dX10_init_83 : decode cX10_init 83 = .ok (.aload_n 0, 1) := by decide +kernel
theorem dX10_init_84 : decode cX10_init 84 = .ok (.new 41, 3) := by decide +kernel
theorem dX10_init_87 : decode cX10_init 87 = .ok (.dup, 1) := by decide +kernel
theorem dX10_init_88 : decode cX10_init 88 = .ok (.invokespecial 43, 3) := by decide +kernel
theorem dX10_init_91 : decode cX10_init 91 = .ok (.putfield 44, 3) := by decide +kernel
theorem dX10_init_94 : decode cX10_init 94 = .ok (.aload_n 0, 1) := by decide +kernel
theorem dX10_init_95 : decode cX10_init 95 = .ok (.iconst 4, 1) := by decide +kernel
theorem dX10_init_96 : decode cX10_init 96 = .ok (.anewarray 48, 3) := by decide +kernel
theorem dX10_init_99 : decode cX10_init 99 = .ok (.dup, 1) := by decide +kernel
theorem dX10_init_100 : decode cX10_init 100 = .ok (.iconst 0, 1) := by decide +kernel
theorem dX10_init_101 : decode cX10_init 101 = .ok (.new 48, 3) := by decide +kernel
theorem dX10_init_104 : decode cX10_init 104 = .ok (.dup, 1) := by decide +kernel
theorem dX10_init_105 : decode cX10_init 105 = .ok (.invokespecial 50, 3) := by decide +kernel
theorem dX10_init_108 : decode cX10_init 108 = .ok (.aastore, 1) := by decide +kernel
theorem dX10_init_109 : decode cX10_init 109 = .ok (.dup, 1) := by decide +kernel
theorem dX10_init_110 : decode cX10_init 110 = .ok (.iconst 1, 1) := by decide +kernel
theorem dX10_init_111 : decode cX10_init 111 = .ok (.new 48, 3) := by decide +kernel
theorem dX10_init_114 : decode cX10_init 114 = .ok (.dup, 1) := by decide +kernel
theorem dX10_init_115 : decode cX10_init 115 = .ok (.invokespecial 50, 3) := by decide +kernel
theorem dX10_init_118 : decode cX10_init 118 = .ok (.aastore, 1) := by decide +kernel
theorem dX10_init_119 : decode cX10_init 119 = .ok (.dup, 1) := by decide +kernel
theorem dX10_init_120 : decode cX10_init 120 = .ok (.iconst 2, 1) := by decide +kernel
theorem dX10_init_121 : decode cX10_init 121 = .ok (.new 48, 3) := by decide +kernel
theorem dX10_init_124 : decode cX10_init 124 = .ok (.dup, 1) := by decide +kernel
theorem dX10_init_125 : decode cX10_init 125 = .ok (.invokespecial 50, 3) := by decide +kernel
theorem dX10_init_128 : decode cX10_init 128 = .ok (.aastore, 1) := by decide +kernel
theorem dX10_init_129 : decode cX10_init 129 = .ok (.dup, 1) := by decide +kernel
theorem dX10_init_130 : decode cX10_init 130 = .ok (.iconst 3, 1) := by decide +kernel
theorem dX10_init_131 : decode cX10_init 131 = .ok (.new 48, 3) := by decide +kernel
theorem dX10_init_134 : decode cX10_init 134 = .ok (.dup, 1) := by decide +kernel
theorem dX10_init_135 : decode cX10_init 135 = .ok (.invokespecial 50, 3) := by decide +kernel
theorem dX10_init_138 : decode cX10_init 138 = .ok (.aastore, 1) := by decide +kernel
theorem dX10_init_139 : decode cX10_init 139 = .ok (.putfield 51, 3) := by decide +kernel
theorem dX10_init_142 : decode cX10_init 142 = .ok (.aload_n 0, 1) := by decide +kernel
theorem dX10_init_143 : decode cX10_init 143 = .ok (.new 55, 3) := by decide +kernel
theorem dX10_init_146 : decode cX10_init 146 = .ok (.dup, 1) := by decide +kernel
theorem dX10_init_147 : decode cX10_init 147 = .ok (.invokespecial 57, 3) := by decide +kernel
theorem dX10_init_150 : decode cX10_init 150 = .ok (.putfield 58, 3) := by decide +kernel
theorem dX10_init_153 : decode cX10_init 153 = .ok (.aload_n 0, 1) := by decide +kernel
theorem dX10_init_154 : decode cX10_init 154 = .ok (.new 62, 3) := by decide +kernel
theorem dX10_init_157 : decode cX10_init 157 = .ok (.dup, 1) := by decide +kernel
theorem dX10_init_158 : decode cX10_init 158 = .ok (.invokespecial 64, 3) := by decide +kernel
theorem dX10_init_161 : decode cX10_init 161 = .ok (.putfield 65, 3) := by decide +kernel
theorem dX10_init_164 : decode cX10_init 164 = .ok (.return_, 1) := by decide +kernel
theorem dX10_feed_0 : decode cX10_feed 0 = .ok (.iload_n 1, 1) := by decide +kernel
theorem dX10_feed_1 : decode cX10_feed 1 = .ok (.ifCond .lt 9, 3) := by decide +kernel
theorem dX10_feed_4 : decode cX10_feed 4 = .ok (.iload_n 1, 1) := by decide +kernel
theorem dX10_feed_5 : decode cX10_feed 5 = .ok (.bipush 127, 2) := by decide +kernel
theorem dX10_feed_7 : decode cX10_feed 7 = .ok (.if_icmp .le 5, 3) := by decide +kernel
theorem dX10_feed_10 : decode cX10_feed 10 = .ok (.iconst (-1), 1) := by decide +kernel
theorem dX10_feed_11 : decode cX10_feed 11 = .ok (.ireturn, 1) := by decide +kernel
theorem dX10_feed_12 : decode cX10_feed 12 = .ok (.aload_n 0, 1) := by decide +kernel
theorem dX10_feed_13 : decode cX10_feed 13 = .ok (.getfield 30, 3) := by decide +kernel
theorem dX10_feed_16 : decode cX10_feed 16 = .ok (.getfield 69, 3) := by decide +kernel
theorem dX10_feed_19 : decode cX10_feed 19 = .ok (.iload_n 1, 1) := by decide +kernel
theorem dX10_feed_20 : decode cX10_feed 20 = .ok (.invokevirtual 73, 3) := by decide +kernel
theorem dX10_feed_23 : decode cX10_feed 23 = .ok (.ifCond .eq 16, 3) := by decide +kernel
theorem dX10_feed_26 : decode cX10_feed 26 = .ok (.aload_n 0, 1) := by decide +kernel
theorem dX10_feed_27 : decode cX10_feed 27 = .ok (.getfield 30, 3) := by decide +kernel
theorem dX10_feed_30 : decode cX10_feed 30 = .ok (.getfield 69, 3) := by decide +kernel
theorem dX10_feed_33 : decode cX10_feed 33 = .ok (.getfield 79, 3) := by decide +kernel
theorem dX10_feed_36 : decode cX10_feed 36 = .ok (.goto 5, 3) := by decide +kernel
theorem dX10_feed_39 : decode cX10_feed 39 = .ok (.bipush (-3), 2) := by decide +kernel
theorem dX10_feed_41 : decode cX10_feed 41 = .ok (.ireturn, 1) := by decide +kernel
theorem dX10_end_0 : decode cX10_end 0 = .ok (.aload_n 0, 1) := by decide +kernel
theorem dX10_end_1 : decode cX10_end 1 = .ok (.getfield 30, 3) := by decide +kernel
theorem dX10_end_4 : decode cX10_end 4 = .ok (.getfield 69, 3) := by decide +kernel
theorem dX10_end_7 : decode cX10_end 7 = .ok (.astore_n 2, 1) := by decide +kernel
theorem dX10_end_8 : decode cX10_end 8 = .ok (.iload_n 1, 1) := by decide +kernel
theorem dX10_end_9 : decode cX10_end 9 = .ok (.ifCond .lt 11, 3) := by decide +kernel
theorem dX10_end_12 : decode cX10_end 12 = .ok (.iload_n 1, 1) := by decide +kernel
theorem dX10_end_13 : decode cX10_end 13 = .ok (.aload_n 2, 1) := by decide +kernel
theorem dX10_end_14 : decode cX10_end 14 = .ok (.getfield 79, 3) := by decide +kernel
theorem dX10_end_17 : decode cX10_end 17 = .ok (.if_icmp .le 5, 3) := by decide +kernel
theorem dX10_end_20 : decode cX10_end 20 = .ok (.iconst (-1), 1) := by decide +kernel
theorem dX10_end_21 : decode cX10_end 21 = .ok (.ireturn, 1) := by decide +kernel
theorem dX10_end_22 : decode cX10_end 22 = .ok (.aload_n 2, 1) := by decide +kernel
theorem dX10_end_23 : decode cX10_end 23 = .ok (.getfield 79, 3) := by decide +kernel
theorem dX10_end_26 : decode cX10_end 26 = .ok (.istore_n 3, 1) := by decide +kernel
theorem dX10_end_27 : decode cX10_end 27 = .ok (.aload_n 2, 1) := by decide +kernel
theorem dX10_end_28 : decode cX10_end 28 = .ok (.iload_n 1, 1) := by decide +kernel
theorem dX10_end_29 : decode cX10_end 29 = .ok (.putfield 79, 3) := by decide +kernel
theorem dX10_end_32 : decode cX10_end 32 = .ok (.iload_n 3, 1) := by decide +kernel
theorem dX10_end_33 : decode cX10_end 33 = .ok (.ireturn, 1) := by decide +kernel
theorem dX10_text_0 : decode cX10_text 0 = .ok (.aload_n 0, 1) := by decide +kernel
theorem dX10_text_1 : decode cX10_text 1 = .ok (.getfield 30, 3) := by decide +kernel
theorem dX10_text_4 : decode cX10_text 4 = .ok (.getfield 69, 3) := by decide +kernel
theorem dX10_text_7 : decode cX10_text 7 = .ok (.astore_n 1, 1) := by decide +kernel
theorem dX10_text_8 : decode cX10_text 8 = .ok (.aload_n 0, 1) := by decide +kernel
theorem dX10_text_9 : decode cX10_text 9 = .ok (.getfield 30, 3) := by decide +kernel
theorem dX10_text_12 : decode cX10_text 12 = .ok (.invokevirtual 83, 3) := by decide +kernel
theorem dX10_text_15 : decode cX10_text 15 = .ok (.aload_n 1, 1) := by decide +kernel
theorem dX10_text_16 : decode cX10_text 16 = .ok (.iconst 0, 1) := by decide +kernel
theorem dX10_text_17 : decode cX10_text 17 = .ok (.putfield 79, 3) := by decide +kernel
theorem dX10_text_20 : decode cX10_text 20 = .ok (.aload_n 0, 1) := by decide +kernel
theorem dX10_text_21 : decode cX10_text 21 = .ok (.aload_n 1, 1) := by decide +kernel
theorem dX10_text_22 : decode cX10_text 22 = .ok (.getfield 86, 3) := by decide +kernel
theorem dX10_text_25 : decode cX10_text 25 = .ok (.putfield 89, 3) := by decide +kernel
theorem dX10_text_28 : decode cX10_text 28 = .ok (.aload_n 0, 1) := by decide +kernel
theorem dX10_text_29 : decode cX10_text 29 = .ok (.getfield 89, 3) := by decide +kernel
theorem dX10_text_32 : decode cX10_text 32 = .ok (.ifCond .eq 11, 3) := by decide +kernel
theorem dX10_text_35 : decode cX10_text 35 = .ok (.bipush (-10), 2) := by decide +kernel
theorem dX10_text_37 : decode cX10_text 37 = .ok (.aload_n 1, 1) := by decide +kernel
theorem dX10_text_38 : decode cX10_text 38 = .ok (.getfield 92, 3) := by decide +kernel
theorem dX10_text_41 : decode cX10_text 41 = .ok (.isub, 1) := by decide +kernel
theorem dX10_text_42 : decode cX10_text 42 = .ok (.ireturn, 1) := by decide +kernel
theorem dX10_text_43 : decode cX10_text 43 = .ok (.aload_n 0, 1) := by decide +kernel
theorem dX10_text_44 : decode cX10_text 44 = .ok (.getfield 12, 3) := by decide +kernel
theorem dX10_text_47 : decode cX10_text 47 = .ok (.aload_n 0, 1) := by decide +kernel
theorem dX10_text_48 : decode cX10_text 48 = .ok (.getfield 30, 3) := by decide +kernel
theorem dX10_text_51 : decode cX10_text 51 = .ok (.getfield 95, 3) := by decide +kernel
theorem dX10_text_54 : decode cX10_text 54 = .ok (.invokevirtual 98, 3) := by decide +kernel
theorem dX10_text_57 : decode cX10_text 57 = .ok (.aload_n 0, 1) := by decide +kernel
theorem dX10_text_58 : decode cX10_text 58 = .ok (.getfield 23, 3) := by decide +kernel
theorem dX10_text_61 : decode cX10_text 61 = .ok (.iconst 0, 1) := by decide +kernel
theorem dX10_text_62 : decode cX10_text 62 = .ok (.iconst 0, 1) := by decide +kernel
theorem dX10_text_63 : decode cX10_text 63 = .ok (.bastore, 1) := by decide +kernel
theorem dX10_text_64 : decode cX10_text 64 = .ok (.aload_n 0, 1) := by decide +kernel
theorem dX10_text_65 : decode cX10_text 65 = .ok (.getfield 23, 3) := by decide +kernel
theorem dX10_text_68 : decode cX10_text 68 = .ok (.iconst 1, 1) := by decide +kernel
theorem dX10_text_69 : decode cX10_text 69 = .ok (.iconst 0, 1) := by decide +kernel
theorem dX10_text_70 : decode cX10_text 70 = .ok (.bastore, 1) := by decide +kernel
theorem dX10_text_71 : decode cX10_text 71 = .ok (.aload_n 0, 1) := by decide +kernel
theorem dX10_text_72 : decode cX10_text 72 = .ok (.getfield 30, 3) := by decide +kernel
theorem dX10_text_75 : decode cX10_text 75 = .ok (.getfield 102, 3) := by decide +kernel
theorem dX10_text_78 : decode cX10_text 78 = .ok (.ireturn, 1) := by decide +kernel
theorem dX10_fault_0 : decode cX10_fault 0 = .ok (.aload_n 0, 1) := by decide +kernel
theorem dX10_fault_1 : decode cX10_fault 1 = .ok (.getfield 89, 3) := by decide +kernel
theorem dX10_fault_4 : decode cX10_fault 4 = .ok (.ireturn, 1) := by decide +kernel
theorem dX10_rule_0 : decode cX10_rule 0 = .ok (.iload_n 1, 1) := by decide +kernel
theorem dX10_rule_1 : decode cX10_rule 1 = .ok (.tableswitch 111 0 6 #[43, 54, 65, 76, 87, 95, 103], 43) := by decide +kernel
theorem dX10_rule_44 : decode cX10_rule 44 = .ok (.aload_n 0, 1) := by decide +kernel
theorem dX10_rule_45 : decode cX10_rule 45 = .ok (.getfield 12, 3) := by decide +kernel
theorem dX10_rule_48 : decode cX10_rule 48 = .ok (.getfield 105, 3) := by decide +kernel
theorem dX10_rule_51 : decode cX10_rule 51 = .ok (.getfield 109, 3) := by decide +kernel
theorem dX10_rule_54 : decode cX10_rule 54 = .ok (.ireturn, 1) := by decide +kernel
theorem dX10_rule_55 : decode cX10_rule 55 = .ok (.aload_n 0, 1) := by decide +kernel
theorem dX10_rule_56 : decode cX10_rule 56 = .ok (.getfield 12, 3) := by decide +kernel
theorem dX10_rule_59 : decode cX10_rule 59 = .ok (.getfield 105, 3) := by decide +kernel
theorem dX10_rule_62 : decode cX10_rule 62 = .ok (.getfield 114, 3) := by decide +kernel
theorem dX10_rule_65 : decode cX10_rule 65 = .ok (.ireturn, 1) := by decide +kernel
theorem dX10_rule_66 : decode cX10_rule 66 = .ok (.aload_n 0, 1) := by decide +kernel
theorem dX10_rule_67 : decode cX10_rule 67 = .ok (.getfield 12, 3) := by decide +kernel
theorem dX10_rule_70 : decode cX10_rule 70 = .ok (.getfield 105, 3) := by decide +kernel
theorem dX10_rule_73 : decode cX10_rule 73 = .ok (.getfield 117, 3) := by decide +kernel
theorem dX10_rule_76 : decode cX10_rule 76 = .ok (.ireturn, 1) := by decide +kernel
theorem dX10_rule_77 : decode cX10_rule 77 = .ok (.aload_n 0, 1) := by decide +kernel
theorem dX10_rule_78 : decode cX10_rule 78 = .ok (.getfield 12, 3) := by decide +kernel
theorem dX10_rule_81 : decode cX10_rule 81 = .ok (.getfield 105, 3) := by decide +kernel
theorem dX10_rule_84 : decode cX10_rule 84 = .ok (.getfield 120, 3) := by decide +kernel
theorem dX10_rule_87 : decode cX10_rule 87 = .ok (.ireturn, 1) := by decide +kernel
theorem dX10_rule_88 : decode cX10_rule 88 = .ok (.aload_n 0, 1) := by decide +kernel
theorem dX10_rule_89 : decode cX10_rule 89 = .ok (.getfield 12, 3) := by decide +kernel
theorem dX10_rule_92 : decode cX10_rule 92 = .ok (.getfield 123, 3) := by decide +kernel
theorem dX10_rule_95 : decode cX10_rule 95 = .ok (.ireturn, 1) := by decide +kernel
theorem dX10_rule_96 : decode cX10_rule 96 = .ok (.aload_n 0, 1) := by decide +kernel
theorem dX10_rule_97 : decode cX10_rule 97 = .ok (.getfield 12, 3) := by decide +kernel
theorem dX10_rule_100 : decode cX10_rule 100 = .ok (.getfield 126, 3) := by decide +kernel
theorem dX10_rule_103 : decode cX10_rule 103 = .ok (.ireturn, 1) := by decide +kernel
theorem dX10_rule_104 : decode cX10_rule 104 = .ok (.aload_n 0, 1) := by decide +kernel
theorem dX10_rule_105 : decode cX10_rule 105 = .ok (.getfield 12, 3) := by decide +kernel
theorem dX10_rule_108 : decode cX10_rule 108 = .ok (.getfield 129, 3) := by decide +kernel
theorem dX10_rule_111 : decode cX10_rule 111 = .ok (.ireturn, 1) := by decide +kernel
theorem dX10_rule_112 : decode cX10_rule 112 = .ok (.iconst (-1), 1) := by decide +kernel
theorem dX10_rule_113 : decode cX10_rule 113 = .ok (.ireturn, 1) := by decide +kernel
theorem dX10_heat_0 : decode cX10_heat 0 = .ok (.aload_n 0, 1) := by decide +kernel
theorem dX10_heat_1 : decode cX10_heat 1 = .ok (.getfield 12, 3) := by decide +kernel
theorem dX10_heat_4 : decode cX10_heat 4 = .ok (.getfield 105, 3) := by decide +kernel
theorem dX10_heat_7 : decode cX10_heat 7 = .ok (.iload_n 1, 1) := by decide +kernel
theorem dX10_heat_8 : decode cX10_heat 8 = .ok (.invokevirtual 132, 3) := by decide +kernel
theorem dX10_heat_11 : decode cX10_heat 11 = .ok (.ifCond .eq 18, 3) := by decide +kernel
theorem dX10_heat_14 : decode cX10_heat 14 = .ok (.aload_n 0, 1) := by decide +kernel
theorem dX10_heat_15 : decode cX10_heat 15 = .ok (.getfield 12, 3) := by decide +kernel
theorem dX10_heat_18 : decode cX10_heat 18 = .ok (.getfield 105, 3) := by decide +kernel
theorem dX10_heat_21 : decode cX10_heat 21 = .ok (.getfield 135, 3) := by decide +kernel
theorem dX10_heat_24 : decode cX10_heat 24 = .ok (.iload_n 1, 1) := by decide +kernel
theorem dX10_heat_25 : decode cX10_heat 25 = .ok (.iaload, 1) := by decide +kernel
theorem dX10_heat_26 : decode cX10_heat 26 = .ok (.goto 4, 3) := by decide +kernel
theorem dX10_heat_29 : decode cX10_heat 29 = .ok (.iconst (-1), 1) := by decide +kernel
theorem dX10_heat_30 : decode cX10_heat 30 = .ok (.ireturn, 1) := by decide +kernel
theorem dX10_wood_0 : decode cX10_wood 0 = .ok (.iload_n 1, 1) := by decide +kernel
theorem dX10_wood_1 : decode cX10_wood 1 = .ok (.ifCond .lt 17, 3) := by decide +kernel
theorem dX10_wood_4 : decode cX10_wood 4 = .ok (.iload_n 1, 1) := by decide +kernel
theorem dX10_wood_5 : decode cX10_wood 5 = .ok (.aload_n 0, 1) := by decide +kernel
theorem dX10_wood_6 : decode cX10_wood 6 = .ok (.getfield 12, 3) := by decide +kernel
theorem dX10_wood_9 : decode cX10_wood 9 = .ok (.getfield 105, 3) := by decide +kernel
theorem dX10_wood_12 : decode cX10_wood 12 = .ok (.getfield 120, 3) := by decide +kernel
theorem dX10_wood_15 : decode cX10_wood 15 = .ok (.if_icmp .lt 5, 3) := by decide +kernel
theorem dX10_wood_18 : decode cX10_wood 18 = .ok (.iconst (-1), 1) := by decide +kernel
theorem dX10_wood_19 : decode cX10_wood 19 = .ok (.ireturn, 1) := by decide +kernel
theorem dX10_wood_20 : decode cX10_wood 20 = .ok (.iload_n 2, 1) := by decide +kernel
theorem dX10_wood_21 : decode cX10_wood 21 = .ok (.tableswitch 66 0 2 #[27, 40, 53], 27) := by decide +kernel
theorem dX10_wood_48 : decode cX10_wood 48 = .ok (.aload_n 0, 1) := by decide +kernel
theorem dX10_wood_49 : decode cX10_wood 49 = .ok (.getfield 12, 3) := by decide +kernel
theorem dX10_wood_52 : decode cX10_wood 52 = .ok (.getfield 105, 3) := by decide +kernel
theorem dX10_wood_55 : decode cX10_wood 55 = .ok (.getfield 139, 3) := by decide +kernel
theorem dX10_wood_58 : decode cX10_wood 58 = .ok (.iload_n 1, 1) := by decide +kernel
theorem dX10_wood_59 : decode cX10_wood 59 = .ok (.iaload, 1) := by decide +kernel
theorem dX10_wood_60 : decode cX10_wood 60 = .ok (.ireturn, 1) := by decide +kernel
theorem dX10_wood_61 : decode cX10_wood 61 = .ok (.aload_n 0, 1) := by decide +kernel
theorem dX10_wood_62 : decode cX10_wood 62 = .ok (.getfield 12, 3) := by decide +kernel
theorem dX10_wood_65 : decode cX10_wood 65 = .ok (.getfield 105, 3) := by decide +kernel
theorem dX10_wood_68 : decode cX10_wood 68 = .ok (.getfield 142, 3) := by decide +kernel
theorem dX10_wood_71 : decode cX10_wood 71 = .ok (.iload_n 1, 1) := by decide +kernel
theorem dX10_wood_72 : decode cX10_wood 72 = .ok (.iaload, 1) := by decide +kernel
theorem dX10_wood_73 : decode cX10_wood 73 = .ok (.ireturn, 1) := by decide +kernel
theorem dX10_wood_74 : decode cX10_wood 74 = .ok (.aload_n 0, 1) := by decide +kernel
theorem dX10_wood_75 : decode cX10_wood 75 = .ok (.getfield 12, 3) := by decide +kernel
theorem dX10_wood_78 : decode cX10_wood 78 = .ok (.getfield 105, 3) := by decide +kernel
theorem dX10_wood_81 : decode cX10_wood 81 = .ok (.getfield 145, 3) := by decide +kernel
theorem dX10_wood_84 : decode cX10_wood 84 = .ok (.iload_n 1, 1) := by decide +kernel
theorem dX10_wood_85 : decode cX10_wood 85 = .ok (.iaload, 1) := by decide +kernel
theorem dX10_wood_86 : decode cX10_wood 86 = .ok (.ireturn, 1) := by decide +kernel
theorem dX10_wood_87 : decode cX10_wood 87 = .ok (.iconst (-1), 1) := by decide +kernel
theorem dX10_wood_88 : decode cX10_wood 88 = .ok (.ireturn, 1) := by decide +kernel
theorem dX10_spud_0 : decode cX10_spud 0 = .ok (.aload_n 0, 1) := by decide +kernel
theorem dX10_spud_1 : decode cX10_spud 1 = .ok (.getfield 12, 3) := by decide +kernel
theorem dX10_spud_4 : decode cX10_spud 4 = .ok (.iload_n 1, 1) := by decide +kernel
theorem dX10_spud_5 : decode cX10_spud 5 = .ok (.invokevirtual 148, 3) := by decide +kernel
theorem dX10_spud_8 : decode cX10_spud 8 = .ok (.ifCond .eq 19, 3) := by decide +kernel
theorem dX10_spud_11 : decode cX10_spud 11 = .ok (.aload_n 0, 1) := by decide +kernel
theorem dX10_spud_12 : decode cX10_spud 12 = .ok (.getfield 12, 3) := by decide +kernel
theorem dX10_spud_15 : decode cX10_spud 15 = .ok (.getfield 151, 3) := by decide +kernel
theorem dX10_spud_18 : decode cX10_spud 18 = .ok (.iload_n 1, 1) := by decide +kernel
theorem dX10_spud_19 : decode cX10_spud 19 = .ok (.aaload, 1) := by decide +kernel
theorem dX10_spud_20 : decode cX10_spud 20 = .ok (.iload_n 2, 1) := by decide +kernel
theorem dX10_spud_21 : decode cX10_spud 21 = .ok (.invokevirtual 155, 3) := by decide +kernel
theorem dX10_spud_24 : decode cX10_spud 24 = .ok (.goto 4, 3) := by decide +kernel
theorem dX10_spud_27 : decode cX10_spud 27 = .ok (.iconst (-1), 1) := by decide +kernel
theorem dX10_spud_28 : decode cX10_spud 28 = .ok (.ireturn, 1) := by decide +kernel
theorem dX10_fan_0 : decode cX10_fan 0 = .ok (.aload_n 0, 1) := by decide +kernel
theorem dX10_fan_1 : decode cX10_fan 1 = .ok (.getfield 12, 3) := by decide +kernel
theorem dX10_fan_4 : decode cX10_fan 4 = .ok (.getfield 105, 3) := by decide +kernel
theorem dX10_fan_7 : decode cX10_fan 7 = .ok (.iload_n 1, 1) := by decide +kernel
theorem dX10_fan_8 : decode cX10_fan 8 = .ok (.invokevirtual 132, 3) := by decide +kernel
theorem dX10_fan_11 : decode cX10_fan 11 = .ok (.ifCond .eq 10, 3) := by decide +kernel
theorem dX10_fan_14 : decode cX10_fan 14 = .ok (.iload_n 2, 1) := by decide +kernel
theorem dX10_fan_15 : decode cX10_fan 15 = .ok (.invokestatic 161, 3) := by decide +kernel
theorem dX10_fan_18 : decode cX10_fan 18 = .ok (.ifCond .ne 5, 3) := by decide +kernel
theorem dX10_fan_21 : decode cX10_fan 21 = .ok (.iconst (-1), 1) := by decide +kernel
theorem dX10_fan_22 : decode cX10_fan 22 = .ok (.ireturn, 1) := by decide +kernel
theorem dX10_fan_23 : decode cX10_fan 23 = .ok (.aload_n 0, 1) := by decide +kernel
theorem dX10_fan_24 : decode cX10_fan 24 = .ok (.getfield 12, 3) := by decide +kernel
theorem dX10_fan_27 : decode cX10_fan 27 = .ok (.getfield 105, 3) := by decide +kernel
theorem dX10_fan_30 : decode cX10_fan 30 = .ok (.getfield 135, 3) := by decide +kernel
theorem dX10_fan_33 : decode cX10_fan 33 = .ok (.iload_n 1, 1) := by decide +kernel
theorem dX10_fan_34 : decode cX10_fan 34 = .ok (.iaload, 1) := by decide +kernel
theorem dX10_fan_35 : decode cX10_fan 35 = .ok (.istore_n 3, 1) := by decide +kernel
theorem dX10_fan_36 : decode cX10_fan 36 = .ok (.aload_n 0, 1) := by decide +kernel
theorem dX10_fan_37 : decode cX10_fan 37 = .ok (.getfield 12, 3) := by decide +kernel
theorem dX10_fan_40 : decode cX10_fan 40 = .ok (.getfield 105, 3) := by decide +kernel
theorem dX10_fan_43 : decode cX10_fan 43 = .ok (.getfield 135, 3) := by decide +kernel
theorem dX10_fan_46 : decode cX10_fan 46 = .ok (.iload_n 1, 1) := by decide +kernel
theorem dX10_fan_47 : decode cX10_fan 47 = .ok (.iload_n 2, 1) := by decide +kernel
theorem dX10_fan_48 : decode cX10_fan 48 = .ok (.iastore, 1) := by decide +kernel
theorem dX10_fan_49 : decode cX10_fan 49 = .ok (.iload_n 3, 1) := by decide +kernel
theorem dX10_fan_50 : decode cX10_fan 50 = .ok (.ireturn, 1) := by decide +kernel
theorem dX10_ash_0 : decode cX10_ash 0 = .ok (.iload_n 1, 1) := by decide +kernel
theorem dX10_ash_1 : decode cX10_ash 1 = .ok (.ifCond .lt 18, 3) := by decide +kernel
theorem dX10_ash_4 : decode cX10_ash 4 = .ok (.iload_n 1, 1) := by decide +kernel
theorem dX10_ash_5 : decode cX10_ash 5 = .ok (.iconst 1, 1) := by decide +kernel
theorem dX10_ash_6 : decode cX10_ash 6 = .ok (.if_icmp .gt 13, 3) := by decide +kernel
theorem dX10_ash_9 : decode cX10_ash 9 = .ok (.iload_n 2, 1) := by decide +kernel
theorem dX10_ash_10 : decode cX10_ash 10 = .ok (.ifCond .lt 9, 3) := by decide +kernel
theorem dX10_ash_13 : decode cX10_ash 13 = .ok (.iload_n 2, 1) := by decide +kernel
theorem dX10_ash_14 : decode cX10_ash 14 = .ok (.bipush 9, 2) := by decide +kernel
theorem dX10_ash_16 : decode cX10_ash 16 = .ok (.if_icmp .le 5, 3) := by decide +kernel
theorem dX10_ash_19 : decode cX10_ash 19 = .ok (.iconst (-1), 1) := by decide +kernel
theorem dX10_ash_20 : decode cX10_ash 20 = .ok (.ireturn, 1) := by decide +kernel
theorem dX10_ash_21 : decode cX10_ash 21 = .ok (.iload_n 1, 1) := by decide +kernel
theorem dX10_ash_22 : decode cX10_ash 22 = .ok (.ifCond .ne 16, 3) := by decide +kernel
theorem dX10_ash_25 : decode cX10_ash 25 = .ok (.aload_n 0, 1) := by decide +kernel
theorem dX10_ash_26 : decode cX10_ash 26 = .ok (.getfield 12, 3) := by decide +kernel
theorem dX10_ash_29 : decode cX10_ash 29 = .ok (.getfield 105, 3) := by decide +kernel
theorem dX10_ash_32 : decode cX10_ash 32 = .ok (.getfield 114, 3) := by decide +kernel
theorem dX10_ash_35 : decode cX10_ash 35 = .ok (.goto 13, 3) := by decide +kernel
theorem dX10_ash_38 : decode cX10_ash 38 = .ok (.aload_n 0, 1) := by decide +kernel
theorem dX10_ash_39 : decode cX10_ash 39 = .ok (.getfield 12, 3) := by decide +kernel
theorem dX10_ash_42 : decode cX10_ash 42 = .ok (.getfield 105, 3) := by decide +kernel
theorem dX10_ash_45 : decode cX10_ash 45 = .ok (.getfield 117, 3) := by decide +kernel
theorem dX10_ash_48 : decode cX10_ash 48 = .ok (.istore_n 3, 1) := by decide +kernel
theorem dX10_ash_49 : decode cX10_ash 49 = .ok (.iload_n 1, 1) := by decide +kernel
theorem dX10_ash_50 : decode cX10_ash 50 = .ok (.ifCond .ne 17, 3) := by decide +kernel
theorem dX10_ash_53 : decode cX10_ash 53 = .ok (.aload_n 0, 1) := by decide +kernel
theorem dX10_ash_54 : decode cX10_ash 54 = .ok (.getfield 12, 3) := by decide +kernel
theorem dX10_ash_57 : decode cX10_ash 57 = .ok (.getfield 105, 3) := by decide +kernel
theorem dX10_ash_60 : decode cX10_ash 60 = .ok (.iload_n 2, 1) := by decide +kernel
theorem dX10_ash_61 : decode cX10_ash 61 = .ok (.putfield 114, 3) := by decide +kernel
theorem dX10_ash_64 : decode cX10_ash 64 = .ok (.goto 14, 3) := by decide +kernel
theorem dX10_ash_67 : decode cX10_ash 67 = .ok (.aload_n 0, 1) := by decide +kernel
theorem dX10_ash_68 : decode cX10_ash 68 = .ok (.getfield 12, 3) := by decide +kernel
theorem dX10_ash_71 : decode cX10_ash 71 = .ok (.getfield 105, 3) := by decide +kernel
theorem dX10_ash_74 : decode cX10_ash 74 = .ok (.iload_n 2, 1) := by decide +kernel
theorem dX10_ash_75 : decode cX10_ash 75 = .ok (.putfield 117, 3) := by decide +kernel
theorem dX10_ash_78 : decode cX10_ash 78 = .ok (.iload_n 3, 1) := by decide +kernel
theorem dX10_ash_79 : decode cX10_ash 79 = .ok (.ireturn, 1) := by decide +kernel
theorem dX10_stoke_0 : decode cX10_stoke 0 = .ok (.aload_n 0, 1) := by decide +kernel
theorem dX10_stoke_1 : decode cX10_stoke 1 = .ok (.getfield 12, 3) := by decide +kernel
theorem dX10_stoke_4 : decode cX10_stoke 4 = .ok (.getfield 105, 3) := by decide +kernel
theorem dX10_stoke_7 : decode cX10_stoke 7 = .ok (.iload_n 1, 1) := by decide +kernel
theorem dX10_stoke_8 : decode cX10_stoke 8 = .ok (.invokevirtual 164, 3) := by decide +kernel
theorem dX10_stoke_11 : decode cX10_stoke 11 = .ok (.ifCond .eq 29, 3) := by decide +kernel
theorem dX10_stoke_14 : decode cX10_stoke 14 = .ok (.iload_n 2, 1) := by decide +kernel
theorem dX10_stoke_15 : decode cX10_stoke 15 = .ok (.iconst 1, 1) := by decide +kernel
theorem dX10_stoke_16 : decode cX10_stoke 16 = .ok (.if_icmp .lt 24, 3) := by decide +kernel
theorem dX10_stoke_19 : decode cX10_stoke 19 = .ok (.iload_n 2, 1) := by decide +kernel
theorem dX10_stoke_20 : decode cX10_stoke 20 = .ok (.bipush 99, 2) := by decide +kernel
theorem dX10_stoke_22 : decode cX10_stoke 22 = .ok (.if_icmp .gt 18, 3) := by decide +kernel
theorem dX10_stoke_25 : decode cX10_stoke 25 = .ok (.iload_n 3, 1) := by decide +kernel
theorem dX10_stoke_26 : decode cX10_stoke 26 = .ok (.iconst 1, 1) := by decide +kernel
theorem dX10_stoke_27 : decode cX10_stoke 27 = .ok (.if_icmp .lt 13, 3) := by decide +kernel
theorem dX10_stoke_30 : decode cX10_stoke 30 = .ok (.iload_n 3, 1) := by decide +kernel
theorem dX10_stoke_31 : decode cX10_stoke 31 = .ok (.bipush 9, 2) := by decide +kernel
theorem dX10_stoke_33 : decode cX10_stoke 33 = .ok (.if_icmp .gt 7, 3) := by decide +kernel
theorem dX10_stoke_36 : decode cX10_stoke 36 = .ok (.iconst 1, 1) := by decide +kernel
theorem dX10_stoke_37 : decode cX10_stoke 37 = .ok (.goto 4, 3) := by decide +kernel
theorem dX10_stoke_40 : decode cX10_stoke 40 = .ok (.iconst 0, 1) := by decide +kernel
theorem dX10_stoke_41 : decode cX10_stoke 41 = .ok (.istore 4, 2) := by decide +kernel
theorem dX10_stoke_43 : decode cX10_stoke 43 = .ok (.iload 4, 2) := by decide +kernel
theorem dX10_stoke_45 : decode cX10_stoke 45 = .ok (.ifCond .ne 5, 3) := by decide +kernel
theorem dX10_stoke_48 : decode cX10_stoke 48 = .ok (.iconst (-1), 1) := by decide +kernel
theorem dX10_stoke_49 : decode cX10_stoke 49 = .ok (.ireturn, 1) := by decide +kernel
theorem dX10_stoke_50 : decode cX10_stoke 50 = .ok (.aload_n 0, 1) := by decide +kernel
theorem dX10_stoke_51 : decode cX10_stoke 51 = .ok (.getfield 12, 3) := by decide +kernel
theorem dX10_stoke_54 : decode cX10_stoke 54 = .ok (.getfield 105, 3) := by decide +kernel
theorem dX10_stoke_57 : decode cX10_stoke 57 = .ok (.iload_n 1, 1) := by decide +kernel
theorem dX10_stoke_58 : decode cX10_stoke 58 = .ok (.iload_n 2, 1) := by decide +kernel
theorem dX10_stoke_59 : decode cX10_stoke 59 = .ok (.iload_n 3, 1) := by decide +kernel
theorem dX10_stoke_60 : decode cX10_stoke 60 = .ok (.invokevirtual 167, 3) := by decide +kernel
theorem dX10_stoke_63 : decode cX10_stoke 63 = .ok (.ifCond .eq 16, 3) := by decide +kernel
theorem dX10_stoke_66 : decode cX10_stoke 66 = .ok (.aload_n 0, 1) := by decide +kernel
theorem dX10_stoke_67 : decode cX10_stoke 67 = .ok (.getfield 12, 3) := by decide +kernel
theorem dX10_stoke_70 : decode cX10_stoke 70 = .ok (.getfield 105, 3) := by decide +kernel
theorem dX10_stoke_73 : decode cX10_stoke 73 = .ok (.getfield 120, 3) := by decide +kernel
theorem dX10_stoke_76 : decode cX10_stoke 76 = .ok (.goto 5, 3) := by decide +kernel
theorem dX10_stoke_79 : decode cX10_stoke 79 = .ok (.bipush (-3), 2) := by decide +kernel
theorem dX10_stoke_81 : decode cX10_stoke 81 = .ok (.ireturn, 1) := by decide +kernel
theorem dX10_add_0 : decode cX10_add 0 = .ok (.iload_n 1, 1) := by decide +kernel
theorem dX10_add_1 : decode cX10_add 1 = .ok (.iload_n 2, 1) := by decide +kernel
theorem dX10_add_2 : decode cX10_add 2 = .ok (.invokestatic 171, 3) := by decide +kernel
theorem dX10_add_5 : decode cX10_add 5 = .ok (.ifCond .ne 5, 3) := by decide +kernel
theorem dX10_add_8 : decode cX10_add 8 = .ok (.iconst (-1), 1) := by decide +kernel
theorem dX10_add_9 : decode cX10_add 9 = .ok (.ireturn, 1) := by decide +kernel
theorem dX10_add_10 : decode cX10_add 10 = .ok (.aload_n 0, 1) := by decide +kernel
theorem dX10_add_11 : decode cX10_add 11 = .ok (.getfield 12, 3) := by decide +kernel
theorem dX10_add_14 : decode cX10_add 14 = .ok (.iload_n 1, 1) := by decide +kernel
theorem dX10_add_15 : decode cX10_add 15 = .ok (.iload_n 2, 1) := by decide +kernel
theorem dX10_add_16 : decode cX10_add 16 = .ok (.invokevirtual 175, 3) := by decide +kernel
theorem dX10_add_19 : decode cX10_add 19 = .ok (.ifCond .eq 13, 3) := by decide +kernel
theorem dX10_add_22 : decode cX10_add 22 = .ok (.aload_n 0, 1) := by decide +kernel
theorem dX10_add_23 : decode cX10_add 23 = .ok (.getfield 12, 3) := by decide +kernel
theorem dX10_add_26 : decode cX10_add 26 = .ok (.getfield 126, 3) := by decide +kernel
theorem dX10_add_29 : decode cX10_add 29 = .ok (.goto 5, 3) := by decide +kernel
theorem dX10_add_32 : decode cX10_add 32 = .ok (.bipush (-3), 2) := by decide +kernel
theorem dX10_add_34 : decode cX10_add 34 = .ok (.ireturn, 1) := by decide +kernel
theorem dX10_dig_0 : decode cX10_dig 0 = .ok (.aload_n 0, 1) := by decide +kernel
theorem dX10_dig_1 : decode cX10_dig 1 = .ok (.getfield 12, 3) := by decide +kernel
theorem dX10_dig_4 : decode cX10_dig 4 = .ok (.iload_n 1, 1) := by decide +kernel
theorem dX10_dig_5 : decode cX10_dig 5 = .ok (.invokevirtual 148, 3) := by decide +kernel
theorem dX10_dig_8 : decode cX10_dig 8 = .ok (.ifCond .eq 23, 3) := by decide +kernel
theorem dX10_dig_11 : decode cX10_dig 11 = .ok (.iload_n 2, 1) := by decide +kernel
theorem dX10_dig_12 : decode cX10_dig 12 = .ok (.bipush (-4), 2) := by decide +kernel
theorem dX10_dig_14 : decode cX10_dig 14 = .ok (.if_icmp .eq 19, 3) := by decide +kernel
theorem dX10_dig_17 : decode cX10_dig 17 = .ok (.aload_n 0, 1) := by decide +kernel
theorem dX10_dig_18 : decode cX10_dig 18 = .ok (.getfield 12, 3) := by decide +kernel
theorem dX10_dig_21 : decode cX10_dig 21 = .ok (.getfield 105, 3) := by decide +kernel
theorem dX10_dig_24 : decode cX10_dig 24 = .ok (.iload_n 2, 1) := by decide +kernel
theorem dX10_dig_25 : decode cX10_dig 25 = .ok (.invokevirtual 132, 3) := by decide +kernel
theorem dX10_dig_28 : decode cX10_dig 28 = .ok (.ifCond .ne 5, 3) := by decide +kernel
theorem dX10_dig_31 : decode cX10_dig 31 = .ok (.iconst (-1), 1) := by decide +kernel
theorem dX10_dig_32 : decode cX10_dig 32 = .ok (.ireturn, 1) := by decide +kernel
theorem dX10_dig_33 : decode cX10_dig 33 = .ok (.iload_n 2, 1) := by decide +kernel
theorem dX10_dig_34 : decode cX10_dig 34 = .ok (.bipush (-4), 2) := by decide +kernel
theorem dX10_dig_36 : decode cX10_dig 36 = .ok (.if_icmp .ne 8, 3) := by decide +kernel
theorem dX10_dig_39 : decode cX10_dig 39 = .ok (.bipush (-4), 2) := by decide +kernel
theorem dX10_dig_41 : decode cX10_dig 41 = .ok (.goto 11, 3) := by decide +kernel
theorem dX10_dig_44 : decode cX10_dig 44 = .ok (.aload_n 0, 1) := by decide +kernel
theorem dX10_dig_45 : decode cX10_dig 45 = .ok (.getfield 12, 3) := by decide +kernel
theorem dX10_dig_48 : decode cX10_dig 48 = .ok (.iload_n 2, 1) := by decide +kernel
theorem dX10_dig_49 : decode cX10_dig 49 = .ok (.invokevirtual 178, 3) := by decide +kernel
theorem dX10_dig_52 : decode cX10_dig 52 = .ok (.istore_n 3, 1) := by decide +kernel
theorem dX10_dig_53 : decode cX10_dig 53 = .ok (.iload_n 3, 1) := by decide +kernel
theorem dX10_dig_54 : decode cX10_dig 54 = .ok (.bipush (-4), 2) := by decide +kernel
theorem dX10_dig_56 : decode cX10_dig 56 = .ok (.if_icmp .eq 11, 3) := by decide +kernel
theorem dX10_dig_59 : decode cX10_dig 59 = .ok (.iload_n 3, 1) := by decide +kernel
theorem dX10_dig_60 : decode cX10_dig 60 = .ok (.iload_n 1, 1) := by decide +kernel
theorem dX10_dig_61 : decode cX10_dig 61 = .ok (.if_icmp .eq 6, 3) := by decide +kernel
theorem dX10_dig_64 : decode cX10_dig 64 = .ok (.bipush (-2), 2) := by decide +kernel
theorem dX10_dig_66 : decode cX10_dig 66 = .ok (.ireturn, 1) := by decide +kernel
theorem dX10_dig_67 : decode cX10_dig 67 = .ok (.aload_n 0, 1) := by decide +kernel
theorem dX10_dig_68 : decode cX10_dig 68 = .ok (.getfield 12, 3) := by decide +kernel
theorem dX10_dig_71 : decode cX10_dig 71 = .ok (.getfield 151, 3) := by decide +kernel
theorem dX10_dig_74 : decode cX10_dig 74 = .ok (.iload_n 1, 1) := by decide +kernel
theorem dX10_dig_75 : decode cX10_dig 75 = .ok (.aaload, 1) := by decide +kernel
theorem dX10_dig_76 : decode cX10_dig 76 = .ok (.getfield 181, 3) := by decide +kernel
theorem dX10_dig_79 : decode cX10_dig 79 = .ok (.istore 4, 2) := by decide +kernel
theorem dX10_dig_81 : decode cX10_dig 81 = .ok (.aload_n 0, 1) := by decide +kernel
theorem dX10_dig_82 : decode cX10_dig 82 = .ok (.getfield 12, 3) := by decide +kernel
theorem dX10_dig_85 : decode cX10_dig 85 = .ok (.getfield 151, 3) := by decide +kernel
theorem dX10_dig_88 : decode cX10_dig 88 = .ok (.iload_n 1, 1) := by decide +kernel
theorem dX10_dig_89 : decode cX10_dig 89 = .ok (.aaload, 1) := by decide +kernel
theorem dX10_dig_90 : decode cX10_dig 90 = .ok (.iload_n 2, 1) := by decide +kernel
theorem dX10_dig_91 : decode cX10_dig 91 = .ok (.putfield 181, 3) := by decide +kernel
theorem dX10_dig_94 : decode cX10_dig 94 = .ok (.iload 4, 2) := by decide +kernel
theorem dX10_dig_96 : decode cX10_dig 96 = .ok (.ireturn, 1) := by decide +kernel
theorem dX10_turn_0 : decode cX10_turn 0 = .ok (.aload_n 0, 1) := by decide +kernel
theorem dX10_turn_1 : decode cX10_turn 1 = .ok (.getfield 12, 3) := by decide +kernel
theorem dX10_turn_4 : decode cX10_turn 4 = .ok (.iload_n 1, 1) := by decide +kernel
theorem dX10_turn_5 : decode cX10_turn 5 = .ok (.invokevirtual 148, 3) := by decide +kernel
theorem dX10_turn_8 : decode cX10_turn 8 = .ok (.ifCond .ne 5, 3) := by decide +kernel
theorem dX10_turn_11 : decode cX10_turn 11 = .ok (.iconst (-1), 1) := by decide +kernel
theorem dX10_turn_12 : decode cX10_turn 12 = .ok (.ireturn, 1) := by decide +kernel
theorem dX10_turn_13 : decode cX10_turn 13 = .ok (.aload_n 0, 1) := by decide +kernel
theorem dX10_turn_14 : decode cX10_turn 14 = .ok (.getfield 12, 3) := by decide +kernel
theorem dX10_turn_17 : decode cX10_turn 17 = .ok (.getfield 151, 3) := by decide +kernel
theorem dX10_turn_20 : decode cX10_turn 20 = .ok (.iload_n 1, 1) := by decide +kernel
theorem dX10_turn_21 : decode cX10_turn 21 = .ok (.aaload, 1) := by decide +kernel
theorem dX10_turn_22 : decode cX10_turn 22 = .ok (.invokevirtual 184, 3) := by decide +kernel
theorem dX10_turn_25 : decode cX10_turn 25 = .ok (.aload_n 0, 1) := by decide +kernel
theorem dX10_turn_26 : decode cX10_turn 26 = .ok (.getfield 12, 3) := by decide +kernel
theorem dX10_turn_29 : decode cX10_turn 29 = .ok (.getfield 151, 3) := by decide +kernel
theorem dX10_turn_32 : decode cX10_turn 32 = .ok (.iload_n 1, 1) := by decide +kernel
theorem dX10_turn_33 : decode cX10_turn 33 = .ok (.aaload, 1) := by decide +kernel
theorem dX10_turn_34 : decode cX10_turn 34 = .ok (.getfield 187, 3) := by decide +kernel
theorem dX10_turn_37 : decode cX10_turn 37 = .ok (.ireturn, 1) := by decide +kernel
theorem dX10_wrap_0 : decode cX10_wrap 0 = .ok (.aload_n 0, 1) := by decide +kernel
theorem dX10_wrap_1 : decode cX10_wrap 1 = .ok (.getfield 12, 3) := by decide +kernel
theorem dX10_wrap_4 : decode cX10_wrap 4 = .ok (.iload_n 1, 1) := by decide +kernel
theorem dX10_wrap_5 : decode cX10_wrap 5 = .ok (.invokevirtual 148, 3) := by decide +kernel
theorem dX10_wrap_8 : decode cX10_wrap 8 = .ok (.ifCond .eq 12, 3) := by decide +kernel
theorem dX10_wrap_11 : decode cX10_wrap 11 = .ok (.iload_n 2, 1) := by decide +kernel
theorem dX10_wrap_12 : decode cX10_wrap 12 = .ok (.ifCond .lt 8, 3) := by decide +kernel
theorem dX10_wrap_15 : decode cX10_wrap 15 = .ok (.iload_n 2, 1) := by decide +kernel
theorem dX10_wrap_16 : decode cX10_wrap 16 = .ok (.iconst 2, 1) := by decide +kernel
theorem dX10_wrap_17 : decode cX10_wrap 17 = .ok (.if_icmp .le 5, 3) := by decide +kernel
theorem dX10_wrap_20 : decode cX10_wrap 20 = .ok (.iconst (-1), 1) := by decide +kernel
theorem dX10_wrap_21 : decode cX10_wrap 21 = .ok (.ireturn, 1) := by decide +kernel
theorem dX10_wrap_22 : decode cX10_wrap 22 = .ok (.aload_n 0, 1) := by decide +kernel
theorem dX10_wrap_23 : decode cX10_wrap 23 = .ok (.getfield 12, 3) := by decide +kernel
theorem dX10_wrap_26 : decode cX10_wrap 26 = .ok (.getfield 151, 3) := by decide +kernel
theorem dX10_wrap_29 : decode cX10_wrap 29 = .ok (.iload_n 1, 1) := by decide +kernel
theorem dX10_wrap_30 : decode cX10_wrap 30 = .ok (.aaload, 1) := by decide +kernel
theorem dX10_wrap_31 : decode cX10_wrap 31 = .ok (.getfield 190, 3) := by decide +kernel
theorem dX10_wrap_34 : decode cX10_wrap 34 = .ok (.istore_n 3, 1) := by decide +kernel
theorem dX10_wrap_35 : decode cX10_wrap 35 = .ok (.aload_n 0, 1) := by decide +kernel
theorem dX10_wrap_36 : decode cX10_wrap 36 = .ok (.getfield 12, 3) := by decide +kernel
theorem dX10_wrap_39 : decode cX10_wrap 39 = .ok (.getfield 151, 3) := by decide +kernel
theorem dX10_wrap_42 : decode cX10_wrap 42 = .ok (.iload_n 1, 1) := by decide +kernel
theorem dX10_wrap_43 : decode cX10_wrap 43 = .ok (.aaload, 1) := by decide +kernel
theorem dX10_wrap_44 : decode cX10_wrap 44 = .ok (.iload_n 2, 1) := by decide +kernel
theorem dX10_wrap_45 : decode cX10_wrap 45 = .ok (.putfield 190, 3) := by decide +kernel
theorem dX10_wrap_48 : decode cX10_wrap 48 = .ok (.iload_n 3, 1) := by decide +kernel
theorem dX10_wrap_49 : decode cX10_wrap 49 = .ok (.ireturn, 1) := by decide +kernel
theorem dX10_memo_0 : decode cX10_memo 0 = .ok (.aload_n 0, 1) := by decide +kernel
theorem dX10_memo_1 : decode cX10_memo 1 = .ok (.getfield 12, 3) := by decide +kernel
theorem dX10_memo_4 : decode cX10_memo 4 = .ok (.iload_n 1, 1) := by decide +kernel
theorem dX10_memo_5 : decode cX10_memo 5 = .ok (.invokevirtual 148, 3) := by decide +kernel
theorem dX10_memo_8 : decode cX10_memo 8 = .ok (.ifCond .eq 23, 3) := by decide +kernel
theorem dX10_memo_11 : decode cX10_memo 11 = .ok (.iload_n 2, 1) := by decide +kernel
theorem dX10_memo_12 : decode cX10_memo 12 = .ok (.bipush (-4), 2) := by decide +kernel
theorem dX10_memo_14 : decode cX10_memo 14 = .ok (.if_icmp .eq 19, 3) := by decide +kernel
theorem dX10_memo_17 : decode cX10_memo 17 = .ok (.aload_n 0, 1) := by decide +kernel
theorem dX10_memo_18 : decode cX10_memo 18 = .ok (.getfield 12, 3) := by decide +kernel
theorem dX10_memo_21 : decode cX10_memo 21 = .ok (.getfield 105, 3) := by decide +kernel
theorem dX10_memo_24 : decode cX10_memo 24 = .ok (.iload_n 2, 1) := by decide +kernel
theorem dX10_memo_25 : decode cX10_memo 25 = .ok (.invokevirtual 164, 3) := by decide +kernel
theorem dX10_memo_28 : decode cX10_memo 28 = .ok (.ifCond .ne 5, 3) := by decide +kernel
theorem dX10_memo_31 : decode cX10_memo 31 = .ok (.iconst (-1), 1) := by decide +kernel
theorem dX10_memo_32 : decode cX10_memo 32 = .ok (.ireturn, 1) := by decide +kernel
theorem dX10_memo_33 : decode cX10_memo 33 = .ok (.aload_n 0, 1) := by decide +kernel
theorem dX10_memo_34 : decode cX10_memo 34 = .ok (.getfield 12, 3) := by decide +kernel
theorem dX10_memo_37 : decode cX10_memo 37 = .ok (.getfield 151, 3) := by decide +kernel
theorem dX10_memo_40 : decode cX10_memo 40 = .ok (.iload_n 1, 1) := by decide +kernel
theorem dX10_memo_41 : decode cX10_memo 41 = .ok (.aaload, 1) := by decide +kernel
theorem dX10_memo_42 : decode cX10_memo 42 = .ok (.getfield 193, 3) := by decide +kernel
theorem dX10_memo_45 : decode cX10_memo 45 = .ok (.istore_n 3, 1) := by decide +kernel
theorem dX10_memo_46 : decode cX10_memo 46 = .ok (.aload_n 0, 1) := by decide +kernel
theorem dX10_memo_47 : decode cX10_memo 47 = .ok (.getfield 12, 3) := by decide +kernel
theorem dX10_memo_50 : decode cX10_memo 50 = .ok (.getfield 151, 3) := by decide +kernel
theorem dX10_memo_53 : decode cX10_memo 53 = .ok (.iload_n 1, 1) := by decide +kernel
theorem dX10_memo_54 : decode cX10_memo 54 = .ok (.aaload, 1) := by decide +kernel
theorem dX10_memo_55 : decode cX10_memo 55 = .ok (.iload_n 2, 1) := by decide +kernel
theorem dX10_memo_56 : decode cX10_memo 56 = .ok (.putfield 193, 3) := by decide +kernel
theorem dX10_memo_59 : decode cX10_memo 59 = .ok (.iload_n 3, 1) := by decide +kernel
theorem dX10_memo_60 : decode cX10_memo 60 = .ok (.ireturn, 1) := by decide +kernel
theorem dX10_rake_0 : decode cX10_rake 0 = .ok (.aload_n 0, 1) := by decide +kernel
theorem dX10_rake_1 : decode cX10_rake 1 = .ok (.getfield 12, 3) := by decide +kernel
theorem dX10_rake_4 : decode cX10_rake 4 = .ok (.getfield 105, 3) := by decide +kernel
theorem dX10_rake_7 : decode cX10_rake 7 = .ok (.iload_n 1, 1) := by decide +kernel
theorem dX10_rake_8 : decode cX10_rake 8 = .ok (.invokevirtual 132, 3) := by decide +kernel
theorem dX10_rake_11 : decode cX10_rake 11 = .ok (.ifCond .ne 5, 3) := by decide +kernel
theorem dX10_rake_14 : decode cX10_rake 14 = .ok (.iconst (-1), 1) := by decide +kernel
theorem dX10_rake_15 : decode cX10_rake 15 = .ok (.ireturn, 1) := by decide +kernel
theorem dX10_rake_16 : decode cX10_rake 16 = .ok (.iconst 1, 1) := by decide +kernel
theorem dX10_rake_17 : decode cX10_rake 17 = .ok (.iload_n 1, 1) := by decide +kernel
theorem dX10_rake_18 : decode cX10_rake 18 = .ok (.ishl, 1) := by decide +kernel
theorem dX10_rake_19 : decode cX10_rake 19 = .ok (.istore_n 3, 1) := by decide +kernel
theorem dX10_rake_20 : decode cX10_rake 20 = .ok (.aload_n 0, 1) := by decide +kernel
theorem dX10_rake_21 : decode cX10_rake 21 = .ok (.getfield 12, 3) := by decide +kernel
theorem dX10_rake_24 : decode cX10_rake 24 = .ok (.getfield 129, 3) := by decide +kernel
theorem dX10_rake_27 : decode cX10_rake 27 = .ok (.iload_n 3, 1) := by decide +kernel
theorem dX10_rake_28 : decode cX10_rake 28 = .ok (.iand, 1) := by decide +kernel
theorem dX10_rake_29 : decode cX10_rake 29 = .ok (.ifCond .eq 7, 3) := by decide +kernel
theorem dX10_rake_32 : decode cX10_rake 32 = .ok (.iconst 1, 1) := by decide +kernel
theorem dX10_rake_33 : decode cX10_rake 33 = .ok (.goto 4, 3) := by decide +kernel
theorem dX10_rake_36 : decode cX10_rake 36 = .ok (.iconst 0, 1) := by decide +kernel
theorem dX10_rake_37 : decode cX10_rake 37 = .ok (.istore 4, 2) := by decide +kernel
theorem dX10_rake_39 : decode cX10_rake 39 = .ok (.aload_n 0, 1) := by decide +kernel
theorem dX10_rake_40 : decode cX10_rake 40 = .ok (.getfield 12, 3) := by decide +kernel
theorem dX10_rake_43 : decode cX10_rake 43 = .ok (.iload_n 2, 1) := by decide +kernel
theorem dX10_rake_44 : decode cX10_rake 44 = .ok (.ifCond .eq 15, 3) := by decide +kernel
theorem dX10_rake_47 : decode cX10_rake 47 = .ok (.aload_n 0, 1) := by decide +kernel
theorem dX10_rake_48 : decode cX10_rake 48 = .ok (.getfield 12, 3) := by decide +kernel
theorem dX10_rake_51 : decode cX10_rake 51 = .ok (.getfield 129, 3) := by decide +kernel
theorem dX10_rake_54 : decode cX10_rake 54 = .ok (.iload_n 3, 1) := by decide +kernel
theorem dX10_rake_55 : decode cX10_rake 55 = .ok (.ior, 1) := by decide +kernel
theorem dX10_rake_56 : decode cX10_rake 56 = .ok (.goto 14, 3) := by decide +kernel
theorem dX10_rake_59 : decode cX10_rake 59 = .ok (.aload_n 0, 1) := by decide +kernel
theorem dX10_rake_60 : decode cX10_rake 60 = .ok (.getfield 12, 3) := by decide +kernel
theorem dX10_rake_63 : decode cX10_rake 63 = .ok (.getfield 129, 3) := by decide +kernel
theorem dX10_rake_66 : decode cX10_rake 66 = .ok (.iload_n 3, 1) := by decide +kernel
theorem dX10_rake_67 : decode cX10_rake 67 = .ok (.iconst (-1), 1) := by decide +kernel
theorem dX10_rake_68 : decode cX10_rake 68 = .ok (.ixor, 1) := by decide +kernel
theorem dX10_rake_69 : decode cX10_rake 69 = .ok (.iand, 1) := by decide +kernel
theorem dX10_rake_70 : decode cX10_rake 70 = .ok (.putfield 129, 3) := by decide +kernel
theorem dX10_rake_73 : decode cX10_rake 73 = .ok (.iload 4, 2) := by decide +kernel
theorem dX10_rake_75 : decode cX10_rake 75 = .ok (.ireturn, 1) := by decide +kernel
theorem dX10_go_0 : decode cX10_go 0 = .ok (.iload_n 1, 1) := by decide +kernel
theorem dX10_go_1 : decode cX10_go 1 = .ok (.ifCond .lt 9, 3) := by decide +kernel
theorem dX10_go_4 : decode cX10_go 4 = .ok (.iload_n 1, 1) := by decide +kernel
theorem dX10_go_5 : decode cX10_go 5 = .ok (.bipush 60, 2) := by decide +kernel
theorem dX10_go_7 : decode cX10_go 7 = .ok (.if_icmp .le 5, 3) := by decide +kernel
theorem dX10_go_10 : decode cX10_go 10 = .ok (.iconst (-1), 1) := by decide +kernel
theorem dX10_go_11 : decode cX10_go 11 = .ok (.ireturn, 1) := by decide +kernel
theorem dX10_go_12 : decode cX10_go 12 = .ok (.aload_n 0, 1) := by decide +kernel
theorem dX10_go_13 : decode cX10_go 13 = .ok (.getfield 12, 3) := by decide +kernel
theorem dX10_go_16 : decode cX10_go 16 = .ok (.getfield 123, 3) := by decide +kernel
theorem dX10_go_19 : decode cX10_go 19 = .ok (.iload_n 1, 1) := by decide +kernel
theorem dX10_go_20 : decode cX10_go 20 = .ok (.iadd, 1) := by decide +kernel
theorem dX10_go_21 : decode cX10_go 21 = .ok (.sipush 1000, 3) := by decide +kernel
theorem dX10_go_24 : decode cX10_go 24 = .ok (.if_icmp .lt 6, 3) := by decide +kernel
theorem dX10_go_27 : decode cX10_go 27 = .ok (.bipush (-3), 2) := by decide +kernel
theorem dX10_go_29 : decode cX10_go 29 = .ok (.ireturn, 1) := by decide +kernel
theorem dX10_go_30 : decode cX10_go 30 = .ok (.aload_n 0, 1) := by decide +kernel
theorem dX10_go_31 : decode cX10_go 31 = .ok (.getfield 12, 3) := by decide +kernel
theorem dX10_go_34 : decode cX10_go 34 = .ok (.iload_n 1, 1) := by decide +kernel
theorem dX10_go_35 : decode cX10_go 35 = .ok (.invokevirtual 196, 3) := by decide +kernel
theorem dX10_go_38 : decode cX10_go 38 = .ok (.aload_n 0, 1) := by decide +kernel
theorem dX10_go_39 : decode cX10_go 39 = .ok (.getfield 12, 3) := by decide +kernel
theorem dX10_go_42 : decode cX10_go 42 = .ok (.iconst 2, 1) := by decide +kernel
theorem dX10_go_43 : decode cX10_go 43 = .ok (.invokevirtual 200, 3) := by decide +kernel
theorem dX10_go_46 : decode cX10_go 46 = .ok (.ireturn, 1) := by decide +kernel
theorem dX10_ahead_0 : decode cX10_ahead 0 = .ok (.aload_n 0, 1) := by decide +kernel
theorem dX10_ahead_1 : decode cX10_ahead 1 = .ok (.getfield 12, 3) := by decide +kernel
theorem dX10_ahead_4 : decode cX10_ahead 4 = .ok (.iload_n 1, 1) := by decide +kernel
theorem dX10_ahead_5 : decode cX10_ahead 5 = .ok (.invokevirtual 148, 3) := by decide +kernel
theorem dX10_ahead_8 : decode cX10_ahead 8 = .ok (.ifCond .eq 13, 3) := by decide +kernel
theorem dX10_ahead_11 : decode cX10_ahead 11 = .ok (.iload_n 2, 1) := by decide +kernel
theorem dX10_ahead_12 : decode cX10_ahead 12 = .ok (.ifCond .lt 9, 3) := by decide +kernel
theorem dX10_ahead_15 : decode cX10_ahead 15 = .ok (.iload_n 2, 1) := by decide +kernel
theorem dX10_ahead_16 : decode cX10_ahead 16 = .ok (.bipush 60, 2) := by decide +kernel
theorem dX10_ahead_18 : decode cX10_ahead 18 = .ok (.if_icmp .le 5, 3) := by decide +kernel
theorem dX10_ahead_21 : decode cX10_ahead 21 = .ok (.iconst (-1), 1) := by decide +kernel
theorem dX10_ahead_22 : decode cX10_ahead 22 = .ok (.ireturn, 1) := by decide +kernel
theorem dX10_ahead_23 : decode cX10_ahead 23 = .ok (.aload_n 0, 1) := by decide +kernel
theorem dX10_ahead_24 : decode cX10_ahead 24 = .ok (.getfield 16, 3) := by decide +kernel
theorem dX10_ahead_27 : decode cX10_ahead 27 = .ok (.aload_n 0, 1) := by decide +kernel
theorem dX10_ahead_28 : decode cX10_ahead 28 = .ok (.getfield 12, 3) := by decide +kernel
theorem dX10_ahead_31 : decode cX10_ahead 31 = .ok (.invokevirtual 98, 3) := by decide +kernel
theorem dX10_ahead_34 : decode cX10_ahead 34 = .ok (.aload_n 0, 1) := by decide +kernel
theorem dX10_ahead_35 : decode cX10_ahead 35 = .ok (.getfield 16, 3) := by decide +kernel
theorem dX10_ahead_38 : decode cX10_ahead 38 = .ok (.iload_n 2, 1) := by decide +kernel
theorem dX10_ahead_39 : decode cX10_ahead 39 = .ok (.invokevirtual 196, 3) := by decide +kernel
theorem dX10_ahead_42 : decode cX10_ahead 42 = .ok (.aload_n 0, 1) := by decide +kernel
theorem dX10_ahead_43 : decode cX10_ahead 43 = .ok (.getfield 16, 3) := by decide +kernel
theorem dX10_ahead_46 : decode cX10_ahead 46 = .ok (.getfield 151, 3) := by decide +kernel
theorem dX10_ahead_49 : decode cX10_ahead 49 = .ok (.iload_n 1, 1) := by decide +kernel
theorem dX10_ahead_50 : decode cX10_ahead 50 = .ok (.aaload, 1) := by decide +kernel
theorem dX10_ahead_51 : decode cX10_ahead 51 = .ok (.iload_n 3, 1) := by decide +kernel
theorem dX10_ahead_52 : decode cX10_ahead 52 = .ok (.invokevirtual 155, 3) := by decide +kernel
theorem dX10_ahead_55 : decode cX10_ahead 55 = .ok (.ireturn, 1) := by decide +kernel
theorem dX10_later_0 : decode cX10_later 0 = .ok (.aload_n 0, 1) := by decide +kernel
theorem dX10_later_1 : decode cX10_later 1 = .ok (.getfield 12, 3) := by decide +kernel
theorem dX10_later_4 : decode cX10_later 4 = .ok (.getfield 105, 3) := by decide +kernel
theorem dX10_later_7 : decode cX10_later 7 = .ok (.iload_n 1, 1) := by decide +kernel
theorem dX10_later_8 : decode cX10_later 8 = .ok (.invokevirtual 132, 3) := by decide +kernel
theorem dX10_later_11 : decode cX10_later 11 = .ok (.ifCond .eq 13, 3) := by decide +kernel
theorem dX10_later_14 : decode cX10_later 14 = .ok (.iload_n 2, 1) := by decide +kernel
theorem dX10_later_15 : decode cX10_later 15 = .ok (.ifCond .lt 9, 3) := by decide +kernel
theorem dX10_later_18 : decode cX10_later 18 = .ok (.iload_n 2, 1) := by decide +kernel
theorem dX10_later_19 : decode cX10_later 19 = .ok (.bipush 60, 2) := by decide +kernel
theorem dX10_later_21 : decode cX10_later 21 = .ok (.if_icmp .le 5, 3) := by decide +kernel
theorem dX10_later_24 : decode cX10_later 24 = .ok (.iconst (-1), 1) := by decide +kernel
theorem dX10_later_25 : decode cX10_later 25 = .ok (.ireturn, 1) := by decide +kernel
theorem dX10_later_26 : decode cX10_later 26 = .ok (.aload_n 0, 1) := by decide +kernel
theorem dX10_later_27 : decode cX10_later 27 = .ok (.getfield 16, 3) := by decide +kernel
theorem dX10_later_30 : decode cX10_later 30 = .ok (.aload_n 0, 1) := by decide +kernel
theorem dX10_later_31 : decode cX10_later 31 = .ok (.getfield 12, 3) := by decide +kernel
theorem dX10_later_34 : decode cX10_later 34 = .ok (.invokevirtual 98, 3) := by decide +kernel
theorem dX10_later_37 : decode cX10_later 37 = .ok (.aload_n 0, 1) := by decide +kernel
theorem dX10_later_38 : decode cX10_later 38 = .ok (.getfield 16, 3) := by decide +kernel
theorem dX10_later_41 : decode cX10_later 41 = .ok (.iload_n 2, 1) := by decide +kernel
theorem dX10_later_42 : decode cX10_later 42 = .ok (.invokevirtual 196, 3) := by decide +kernel
theorem dX10_later_45 : decode cX10_later 45 = .ok (.aload_n 0, 1) := by decide +kernel
theorem dX10_later_46 : decode cX10_later 46 = .ok (.getfield 16, 3) := by decide +kernel
theorem dX10_later_49 : decode cX10_later 49 = .ok (.getfield 105, 3) := by decide +kernel
theorem dX10_later_52 : decode cX10_later 52 = .ok (.getfield 135, 3) := by decide +kernel
theorem dX10_later_55 : decode cX10_later 55 = .ok (.iload_n 1, 1) := by decide +kernel
theorem dX10_later_56 : decode cX10_later 56 = .ok (.iaload, 1) := by decide +kernel
theorem dX10_later_57 : decode cX10_later 57 = .ok (.ireturn, 1) := by decide +kernel
theorem dX10_when_0 : decode cX10_when 0 = .ok (.aload_n 0, 1) := by decide +kernel
theorem dX10_when_1 : decode cX10_when 1 = .ok (.getfield 12, 3) := by decide +kernel
theorem dX10_when_4 : decode cX10_when 4 = .ok (.iload_n 1, 1) := by decide +kernel
theorem dX10_when_5 : decode cX10_when 5 = .ok (.invokevirtual 148, 3) := by decide +kernel
theorem dX10_when_8 : decode cX10_when 8 = .ok (.ifCond .eq 12, 3) := by decide +kernel
theorem dX10_when_11 : decode cX10_when 11 = .ok (.iload_n 2, 1) := by decide +kernel
theorem dX10_when_12 : decode cX10_when 12 = .ok (.ifCond .lt 8, 3) := by decide +kernel
theorem dX10_when_15 : decode cX10_when 15 = .ok (.iload_n 2, 1) := by decide +kernel
theorem dX10_when_16 : decode cX10_when 16 = .ok (.iconst 2, 1) := by decide +kernel
theorem dX10_when_17 : decode cX10_when 17 = .ok (.if_icmp .le 5, 3) := by decide +kernel
theorem dX10_when_20 : decode cX10_when 20 = .ok (.iconst (-1), 1) := by decide +kernel
theorem dX10_when_21 : decode cX10_when 21 = .ok (.ireturn, 1) := by decide +kernel
theorem dX10_when_22 : decode cX10_when 22 = .ok (.aload_n 0, 1) := by decide +kernel
theorem dX10_when_23 : decode cX10_when 23 = .ok (.getfield 16, 3) := by decide +kernel
theorem dX10_when_26 : decode cX10_when 26 = .ok (.aload_n 0, 1) := by decide +kernel
theorem dX10_when_27 : decode cX10_when 27 = .ok (.getfield 12, 3) := by decide +kernel
theorem dX10_when_30 : decode cX10_when 30 = .ok (.invokevirtual 98, 3) := by decide +kernel
theorem dX10_when_33 : decode cX10_when 33 = .ok (.aload_n 0, 1) := by decide +kernel
theorem dX10_when_34 : decode cX10_when 34 = .ok (.getfield 16, 3) := by decide +kernel
theorem dX10_when_37 : decode cX10_when 37 = .ok (.getfield 151, 3) := by decide +kernel
theorem dX10_when_40 : decode cX10_when 40 = .ok (.iload_n 1, 1) := by decide +kernel
theorem dX10_when_41 : decode cX10_when 41 = .ok (.aaload, 1) := by decide +kernel
theorem dX10_when_42 : decode cX10_when 42 = .ok (.astore_n 3, 1) := by decide +kernel
theorem dX10_when_43 : decode cX10_when 43 = .ok (.iconst 0, 1) := by decide +kernel
theorem dX10_when_44 : decode cX10_when 44 = .ok (.istore 4, 2) := by decide +kernel
theorem dX10_when_46 : decode cX10_when 46 = .ok (.iconst 0, 1) := by decide +kernel
theorem dX10_when_47 : decode cX10_when 47 = .ok (.istore 5, 2) := by decide +kernel
theorem dX10_when_49 : decode cX10_when 49 = .ok (.iload 5, 2) := by decide +kernel
theorem dX10_when_51 : decode cX10_when 51 = .ok (.bipush 40, 2) := by decide +kernel
theorem dX10_when_53 : decode cX10_when 53 = .ok (.if_icmp .gt 52, 3) := by decide +kernel
theorem dX10_when_56 : decode cX10_when 56 = .ok (.iload_n 2, 1) := by decide +kernel
theorem dX10_when_57 : decode cX10_when 57 = .ok (.ifCond .ne 10, 3) := by decide +kernel
theorem dX10_when_60 : decode cX10_when 60 = .ok (.aload_n 3, 1) := by decide +kernel
theorem dX10_when_61 : decode cX10_when 61 = .ok (.invokevirtual 203, 3) := by decide +kernel
theorem dX10_when_64 : decode cX10_when 64 = .ok (.ifCond .ne 15, 3) := by decide +kernel
theorem dX10_when_67 : decode cX10_when 67 = .ok (.iload_n 2, 1) := by decide +kernel
theorem dX10_when_68 : decode cX10_when 68 = .ok (.iconst 1, 1) := by decide +kernel
theorem dX10_when_69 : decode cX10_when 69 = .ok (.if_icmp .ne 13, 3) := by decide +kernel
theorem dX10_when_72 : decode cX10_when 72 = .ok (.aload_n 3, 1) := by decide +kernel
theorem dX10_when_73 : decode cX10_when 73 = .ok (.invokevirtual 207, 3) := by decide +kernel
theorem dX10_when_76 : decode cX10_when 76 = .ok (.ifCond .eq 6, 3) := by decide +kernel
theorem dX10_when_79 : decode cX10_when 79 = .ok (.iload 5, 2) := by decide +kernel
theorem dX10_when_81 : decode cX10_when 81 = .ok (.ireturn, 1) := by decide +kernel
theorem dX10_when_82 : decode cX10_when 82 = .ok (.aload_n 3, 1) := by decide +kernel
theorem dX10_when_83 : decode cX10_when 83 = .ok (.invokevirtual 210, 3) := by decide +kernel
theorem dX10_when_86 : decode cX10_when 86 = .ok (.ifCond .eq 6, 3) := by decide +kernel
theorem dX10_when_89 : decode cX10_when 89 = .ok (.iinc 4 1, 3) := by decide +kernel
theorem dX10_when_92 : decode cX10_when 92 = .ok (.aload_n 0, 1) := by decide +kernel
theorem dX10_when_93 : decode cX10_when 93 = .ok (.getfield 16, 3) := by decide +kernel
theorem dX10_when_96 : decode cX10_when 96 = .ok (.invokevirtual 213, 3) := by decide +kernel
theorem dX10_when_99 : decode cX10_when 99 = .ok (.iinc 5 1, 3) := by decide +kernel
theorem dX10_when_102 : decode cX10_when 102 = .ok (.goto (-53), 3) := by decide +kernel
theorem dX10_when_105 : decode cX10_when 105 = .ok (.iload_n 2, 1) := by decide +kernel
theorem dX10_when_106 : decode cX10_when 106 = .ok (.iconst 2, 1) := by decide +kernel
theorem dX10_when_107 : decode cX10_when 107 = .ok (.if_icmp .ne 8, 3) := by decide +kernel
theorem dX10_when_110 : decode cX10_when 110 = .ok (.iload 4, 2) := by decide +kernel
theorem dX10_when_112 : decode cX10_when 112 = .ok (.goto 5, 3) := by decide +kernel
theorem dX10_when_115 : decode cX10_when 115 = .ok (.bipush (-4), 2) := by decide +kernel
theorem dX10_when_117 : decode cX10_when 117 = .ok (.ireturn, 1) := by decide +kernel
theorem dX10_places_0 : decode cX10_places 0 = .ok (.iload_n 2, 1) := by decide +kernel
theorem dX10_places_1 : decode cX10_places 1 = .ok (.bipush 10, 2) := by decide +kernel
theorem dX10_places_3 : decode cX10_places 3 = .ok (.isub, 1) := by decide +kernel
theorem dX10_places_4 : decode cX10_places 4 = .ok (.istore_n 3, 1) := by decide +kernel
theorem dX10_places_5 : decode cX10_places 5 = .ok (.iload_n 1, 1) := by decide +kernel
theorem dX10_places_6 : decode cX10_places 6 = .ok (.ifCond .lt 24, 3) := by decide +kernel
theorem dX10_places_9 : decode cX10_places 9 = .ok (.iload_n 1, 1) := by decide +kernel
theorem dX10_places_10 : decode cX10_places 10 = .ok (.bipush 20, 2) := by decide +kernel
theorem dX10_places_12 : decode cX10_places 12 = .ok (.if_icmp .gt 18, 3) := by decide +kernel
theorem dX10_places_15 : decode cX10_places 15 = .ok (.iload_n 2, 1) := by decide +kernel
theorem dX10_places_16 : decode cX10_places 16 = .ok (.ifCond .eq 16, 3) := by decide +kernel
theorem dX10_places_19 : decode cX10_places 19 = .ok (.aload_n 0, 1) := by decide +kernel
theorem dX10_places_20 : decode cX10_places 20 = .ok (.getfield 12, 3) := by decide +kernel
theorem dX10_places_23 : decode cX10_places 23 = .ok (.iload_n 3, 1) := by decide +kernel
theorem dX10_places_24 : decode cX10_places 24 = .ok (.invokevirtual 148, 3) := by decide +kernel
theorem dX10_places_27 : decode cX10_places 27 = .ok (.ifCond .ne 5, 3) := by decide +kernel
theorem dX10_places_30 : decode cX10_places 30 = .ok (.iconst (-1), 1) := by decide +kernel
theorem dX10_places_31 : decode cX10_places 31 = .ok (.ireturn, 1) := by decide +kernel
theorem dX10_places_32 : decode cX10_places 32 = .ok (.aload_n 0, 1) := by decide +kernel
theorem dX10_places_33 : decode cX10_places 33 = .ok (.getfield 44, 3) := by decide +kernel
theorem dX10_places_36 : decode cX10_places 36 = .ok (.aload_n 0, 1) := by decide +kernel
theorem dX10_places_37 : decode cX10_places 37 = .ok (.getfield 12, 3) := by decide +kernel
theorem dX10_places_40 : decode cX10_places 40 = .ok (.aload_n 0, 1) := by decide +kernel
theorem dX10_places_41 : decode cX10_places 41 = .ok (.getfield 37, 3) := by decide +kernel
theorem dX10_places_44 : decode cX10_places 44 = .ok (.iload_n 1, 1) := by decide +kernel
theorem dX10_places_45 : decode cX10_places 45 = .ok (.invokevirtual 216, 3) := by decide +kernel
theorem dX10_places_48 : decode cX10_places 48 = .ok (.iload_n 2, 1) := by decide +kernel
theorem dX10_places_49 : decode cX10_places 49 = .ok (.ifCond .ne 13, 3) := by decide +kernel
theorem dX10_places_52 : decode cX10_places 52 = .ok (.aload_n 0, 1) := by decide +kernel
theorem dX10_places_53 : decode cX10_places 53 = .ok (.getfield 44, 3) := by decide +kernel
theorem dX10_places_56 : decode cX10_places 56 = .ok (.iconst 0, 1) := by decide +kernel
theorem dX10_places_57 : decode cX10_places 57 = .ok (.iconst 0, 1) := by decide +kernel
theorem dX10_places_58 : decode cX10_places 58 = .ok (.invokevirtual 220, 3) := by decide +kernel
theorem dX10_places_61 : decode cX10_places 61 = .ok (.ireturn, 1) := by decide +kernel
theorem dX10_places_62 : decode cX10_places 62 = .ok (.aload_n 0, 1) := by decide +kernel
theorem dX10_places_63 : decode cX10_places 63 = .ok (.getfield 44, 3) := by decide +kernel
theorem dX10_places_66 : decode cX10_places 66 = .ok (.aload_n 0, 1) := by decide +kernel
theorem dX10_places_67 : decode cX10_places 67 = .ok (.getfield 12, 3) := by decide +kernel
theorem dX10_places_70 : decode cX10_places 70 = .ok (.getfield 105, 3) := by decide +kernel
theorem dX10_places_73 : decode cX10_places 73 = .ok (.invokevirtual 224, 3) := by decide +kernel
theorem dX10_places_76 : decode cX10_places 76 = .ok (.invokevirtual 228, 3) := by decide +kernel
theorem dX10_places_79 : decode cX10_places 79 = .ok (.aload_n 0, 1) := by decide +kernel
theorem dX10_places_80 : decode cX10_places 80 = .ok (.getfield 44, 3) := by decide +kernel
theorem dX10_places_83 : decode cX10_places 83 = .ok (.getfield 231, 3) := by decide +kernel
theorem dX10_places_86 : decode cX10_places 86 = .ok (.iload_n 3, 1) := by decide +kernel
theorem dX10_places_87 : decode cX10_places 87 = .ok (.iaload, 1) := by decide +kernel
theorem dX10_places_88 : decode cX10_places 88 = .ok (.ireturn, 1) := by decide +kernel
theorem dX10_flip_0 : decode cX10_flip 0 = .ok (.aload_n 0, 1) := by decide +kernel
theorem dX10_flip_1 : decode cX10_flip 1 = .ok (.getfield 12, 3) := by decide +kernel
theorem dX10_flip_4 : decode cX10_flip 4 = .ok (.iload_n 1, 1) := by decide +kernel
theorem dX10_flip_5 : decode cX10_flip 5 = .ok (.invokevirtual 148, 3) := by decide +kernel
theorem dX10_flip_8 : decode cX10_flip 8 = .ok (.ifCond .eq 14, 3) := by decide +kernel
theorem dX10_flip_11 : decode cX10_flip 11 = .ok (.iload_n 2, 1) := by decide +kernel
theorem dX10_flip_12 : decode cX10_flip 12 = .ok (.iconst 1, 1) := by decide +kernel
theorem dX10_flip_13 : decode cX10_flip 13 = .ok (.if_icmp .lt 9, 3) := by decide +kernel
theorem dX10_flip_16 : decode cX10_flip 16 = .ok (.iload_n 2, 1) := by decide +kernel
theorem dX10_flip_17 : decode cX10_flip 17 = .ok (.bipush 20, 2) := by decide +kernel
theorem dX10_flip_19 : decode cX10_flip 19 = .ok (.if_icmp .le 5, 3) := by decide +kernel
theorem dX10_flip_22 : decode cX10_flip 22 = .ok (.iconst (-1), 1) := by decide +kernel
theorem dX10_flip_23 : decode cX10_flip 23 = .ok (.ireturn, 1) := by decide +kernel
theorem dX10_flip_24 : decode cX10_flip 24 = .ok (.aload_n 0, 1) := by decide +kernel
theorem dX10_flip_25 : decode cX10_flip 25 = .ok (.getfield 12, 3) := by decide +kernel
theorem dX10_flip_28 : decode cX10_flip 28 = .ok (.getfield 151, 3) := by decide +kernel
theorem dX10_flip_31 : decode cX10_flip 31 = .ok (.iload_n 1, 1) := by decide +kernel
theorem dX10_flip_32 : decode cX10_flip 32 = .ok (.aaload, 1) := by decide +kernel
theorem dX10_flip_33 : decode cX10_flip 33 = .ok (.astore_n 3, 1) := by decide +kernel
theorem dX10_flip_34 : decode cX10_flip 34 = .ok (.aload_n 0, 1) := by decide +kernel
theorem dX10_flip_35 : decode cX10_flip 35 = .ok (.getfield 37, 3) := by decide +kernel
theorem dX10_flip_38 : decode cX10_flip 38 = .ok (.aload_n 0, 1) := by decide +kernel
theorem dX10_flip_39 : decode cX10_flip 39 = .ok (.getfield 12, 3) := by decide +kernel
theorem dX10_flip_42 : decode cX10_flip 42 = .ok (.getfield 105, 3) := by decide +kernel
theorem dX10_flip_45 : decode cX10_flip 45 = .ok (.aload_n 3, 1) := by decide +kernel
theorem dX10_flip_46 : decode cX10_flip 46 = .ok (.getfield 181, 3) := by decide +kernel
theorem dX10_flip_49 : decode cX10_flip 49 = .ok (.iload_n 2, 1) := by decide +kernel
theorem dX10_flip_50 : decode cX10_flip 50 = .ok (.invokevirtual 234, 3) := by decide +kernel
theorem dX10_flip_53 : decode cX10_flip 53 = .ok (.aload_n 0, 1) := by decide +kernel
theorem dX10_flip_54 : decode cX10_flip 54 = .ok (.getfield 37, 3) := by decide +kernel
theorem dX10_flip_57 : decode cX10_flip 57 = .ok (.aload_n 3, 1) := by decide +kernel
theorem dX10_flip_58 : decode cX10_flip 58 = .ok (.getfield 190, 3) := by decide +kernel
theorem dX10_flip_61 : decode cX10_flip 61 = .ok (.iload_n 2, 1) := by decide +kernel
theorem dX10_flip_62 : decode cX10_flip 62 = .ok (.invokevirtual 238, 3) := by decide +kernel
theorem dX10_flip_65 : decode cX10_flip 65 = .ok (.istore 4, 2) := by decide +kernel
theorem dX10_flip_67 : decode cX10_flip 67 = .ok (.iconst 0, 1) := by decide +kernel
theorem dX10_flip_68 : decode cX10_flip 68 = .ok (.istore 5, 2) := by decide +kernel
theorem dX10_flip_70 : decode cX10_flip 70 = .ok (.iload 5, 2) := by decide +kernel
theorem dX10_flip_72 : decode cX10_flip 72 = .ok (.iload_n 2, 1) := by decide +kernel
theorem dX10_flip_73 : decode cX10_flip 73 = .ok (.if_icmp .ge 57, 3) := by decide +kernel
theorem dX10_flip_76 : decode cX10_flip 76 = .ok (.aload_n 0, 1) := by decide +kernel
theorem dX10_flip_77 : decode cX10_flip 77 = .ok (.getfield 37, 3) := by decide +kernel
theorem dX10_flip_80 : decode cX10_flip 80 = .ok (.aload_n 3, 1) := by decide +kernel
theorem dX10_flip_81 : decode cX10_flip 81 = .ok (.getfield 190, 3) := by decide +kernel
theorem dX10_flip_84 : decode cX10_flip 84 = .ok (.iconst 0, 1) := by decide +kernel
theorem dX10_flip_85 : decode cX10_flip 85 = .ok (.iload 5, 2) := by decide +kernel
theorem dX10_flip_87 : decode cX10_flip 87 = .ok (.invokevirtual 241, 3) := by decide +kernel
theorem dX10_flip_90 : decode cX10_flip 90 = .ok (.istore 6, 2) := by decide +kernel
theorem dX10_flip_92 : decode cX10_flip 92 = .ok (.aload_n 0, 1) := by decide +kernel
theorem dX10_flip_93 : decode cX10_flip 93 = .ok (.getfield 37, 3) := by decide +kernel
theorem dX10_flip_96 : decode cX10_flip 96 = .ok (.aload_n 3, 1) := by decide +kernel
theorem dX10_flip_97 : decode cX10_flip 97 = .ok (.getfield 190, 3) := by decide +kernel
theorem dX10_flip_100 : decode cX10_flip 100 = .ok (.iload 5, 2) := by decide +kernel
theorem dX10_flip_102 : decode cX10_flip 102 = .ok (.iload_n 2, 1) := by decide +kernel
theorem dX10_flip_103 : decode cX10_flip 103 = .ok (.invokevirtual 241, 3) := by decide +kernel
theorem dX10_flip_106 : decode cX10_flip 106 = .ok (.istore 7, 2) := by decide +kernel
theorem dX10_flip_108 : decode cX10_flip 108 = .ok (.aload_n 3, 1) := by decide +kernel
theorem dX10_flip_109 : decode cX10_flip 109 = .ok (.iload 4, 2) := by decide +kernel
theorem dX10_flip_111 : decode cX10_flip 111 = .ok (.iload 6, 2) := by decide +kernel
theorem dX10_flip_113 : decode cX10_flip 113 = .ok (.iload 7, 2) := by decide +kernel
theorem dX10_flip_115 : decode cX10_flip 115 = .ok (.invokevirtual 245, 3) := by decide +kernel
theorem dX10_flip_118 : decode cX10_flip 118 = .ok (.ifCond .eq 6, 3) := by decide +kernel
theorem dX10_flip_121 : decode cX10_flip 121 = .ok (.iload 5, 2) := by decide +kernel
theorem dX10_flip_123 : decode cX10_flip 123 = .ok (.ireturn, 1) := by decide +kernel
theorem dX10_flip_124 : decode cX10_flip 124 = .ok (.iinc 5 1, 3) := by decide +kernel
theorem dX10_flip_127 : decode cX10_flip 127 = .ok (.goto (-57), 3) := by decide +kernel
theorem dX10_flip_130 : decode cX10_flip 130 = .ok (.bipush (-4), 2) := by decide +kernel
theorem dX10_flip_132 : decode cX10_flip 132 = .ok (.ireturn, 1) := by decide +kernel
theorem dX10_least_0 : decode cX10_least 0 = .ok (.aload_n 0, 1) := by decide +kernel
theorem dX10_least_1 : decode cX10_least 1 = .ok (.getfield 12, 3) := by decide +kernel
theorem dX10_least_4 : decode cX10_least 4 = .ok (.iload_n 1, 1) := by decide +kernel
theorem dX10_least_5 : decode cX10_least 5 = .ok (.invokevirtual 148, 3) := by decide +kernel
theorem dX10_least_8 : decode cX10_least 8 = .ok (.ifCond .eq 14, 3) := by decide +kernel
theorem dX10_least_11 : decode cX10_least 11 = .ok (.iload_n 2, 1) := by decide +kernel
theorem dX10_least_12 : decode cX10_least 12 = .ok (.iconst 1, 1) := by decide +kernel
theorem dX10_least_13 : decode cX10_least 13 = .ok (.if_icmp .lt 9, 3) := by decide +kernel
theorem dX10_least_16 : decode cX10_least 16 = .ok (.iload_n 2, 1) := by decide +kernel
theorem dX10_least_17 : decode cX10_least 17 = .ok (.bipush 20, 2) := by decide +kernel
theorem dX10_least_19 : decode cX10_least 19 = .ok (.if_icmp .le 5, 3) := by decide +kernel
theorem dX10_least_22 : decode cX10_least 22 = .ok (.iconst (-1), 1) := by decide +kernel
theorem dX10_least_23 : decode cX10_least 23 = .ok (.ireturn, 1) := by decide +kernel
theorem dX10_least_24 : decode cX10_least 24 = .ok (.aload_n 0, 1) := by decide +kernel
theorem dX10_least_25 : decode cX10_least 25 = .ok (.getfield 12, 3) := by decide +kernel
theorem dX10_least_28 : decode cX10_least 28 = .ok (.getfield 151, 3) := by decide +kernel
theorem dX10_least_31 : decode cX10_least 31 = .ok (.iload_n 1, 1) := by decide +kernel
theorem dX10_least_32 : decode cX10_least 32 = .ok (.aaload, 1) := by decide +kernel
theorem dX10_least_33 : decode cX10_least 33 = .ok (.astore_n 3, 1) := by decide +kernel
theorem dX10_least_34 : decode cX10_least 34 = .ok (.aload_n 3, 1) := by decide +kernel
theorem dX10_least_35 : decode cX10_least 35 = .ok (.getfield 181, 3) := by decide +kernel
theorem dX10_least_38 : decode cX10_least 38 = .ok (.bipush (-4), 2) := by decide +kernel
theorem dX10_least_40 : decode cX10_least 40 = .ok (.if_icmp .ne 6, 3) := by decide +kernel
theorem dX10_least_43 : decode cX10_least 43 = .ok (.bipush (-2), 2) := by decide +kernel
theorem dX10_least_45 : decode cX10_least 45 = .ok (.ireturn, 1) := by decide +kernel
theorem dX10_least_46 : decode cX10_least 46 = .ok (.iconst 0, 1) := by decide +kernel
theorem dX10_least_47 : decode cX10_least 47 = .ok (.istore 4, 2) := by decide +kernel
theorem dX10_least_49 : decode cX10_least 49 = .ok (.iload 4, 2) := by decide +kernel
theorem dX10_least_51 : decode cX10_least 51 = .ok (.bipush 99, 2) := by decide +kernel
theorem dX10_least_53 : decode cX10_least 53 = .ok (.if_icmp .gt 99, 3) := by decide +kernel
theorem dX10_least_56 : decode cX10_least 56 = .ok (.aload_n 0, 1) := by decide +kernel
theorem dX10_least_57 : decode cX10_least 57 = .ok (.getfield 37, 3) := by decide +kernel
theorem dX10_least_60 : decode cX10_least 60 = .ok (.aload_n 0, 1) := by decide +kernel
theorem dX10_least_61 : decode cX10_least 61 = .ok (.getfield 12, 3) := by decide +kernel
theorem dX10_least_64 : decode cX10_least 64 = .ok (.getfield 105, 3) := by decide +kernel
theorem dX10_least_67 : decode cX10_least 67 = .ok (.aload_n 3, 1) := by decide +kernel
theorem dX10_least_68 : decode cX10_least 68 = .ok (.getfield 181, 3) := by decide +kernel
theorem dX10_least_71 : decode cX10_least 71 = .ok (.invokevirtual 248, 3) := by decide +kernel
theorem dX10_least_74 : decode cX10_least 74 = .ok (.aload_n 0, 1) := by decide +kernel
theorem dX10_least_75 : decode cX10_least 75 = .ok (.getfield 37, 3) := by decide +kernel
theorem dX10_least_78 : decode cX10_least 78 = .ok (.iload 4, 2) := by decide +kernel
theorem dX10_least_80 : decode cX10_least 80 = .ok (.aload_n 3, 1) := by decide +kernel
theorem dX10_least_81 : decode cX10_least 81 = .ok (.getfield 181, 3) := by decide +kernel
theorem dX10_least_84 : decode cX10_least 84 = .ok (.iconst 1, 1) := by decide +kernel
theorem dX10_least_85 : decode cX10_least 85 = .ok (.invokevirtual 252, 3) := by decide +kernel
theorem dX10_least_88 : decode cX10_least 88 = .ok (.aload_n 0, 1) := by decide +kernel
theorem dX10_least_89 : decode cX10_least 89 = .ok (.getfield 37, 3) := by decide +kernel
theorem dX10_least_92 : decode cX10_least 92 = .ok (.aload_n 0, 1) := by decide +kernel
theorem dX10_least_93 : decode cX10_least 93 = .ok (.getfield 12, 3) := by decide +kernel
theorem dX10_least_96 : decode cX10_least 96 = .ok (.getfield 105, 3) := by decide +kernel
theorem dX10_least_99 : decode cX10_least 99 = .ok (.aload_n 3, 1) := by decide +kernel
theorem dX10_least_100 : decode cX10_least 100 = .ok (.getfield 181, 3) := by decide +kernel
theorem dX10_least_103 : decode cX10_least 103 = .ok (.invokevirtual 256, 3) := by decide +kernel
theorem dX10_least_106 : decode cX10_least 106 = .ok (.aload_n 0, 1) := by decide +kernel
theorem dX10_least_107 : decode cX10_least 107 = .ok (.getfield 12, 3) := by decide +kernel
theorem dX10_least_110 : decode cX10_least 110 = .ok (.getfield 105, 3) := by decide +kernel
theorem dX10_least_113 : decode cX10_least 113 = .ok (.aload_n 3, 1) := by decide +kernel
theorem dX10_least_114 : decode cX10_least 114 = .ok (.getfield 181, 3) := by decide +kernel
theorem dX10_least_117 : decode cX10_least 117 = .ok (.invokevirtual 259, 3) := by decide +kernel
theorem dX10_least_120 : decode cX10_least 120 = .ok (.iload_n 2, 1) := by decide +kernel
theorem dX10_least_121 : decode cX10_least 121 = .ok (.invokevirtual 262, 3) := by decide +kernel
theorem dX10_least_124 : decode cX10_least 124 = .ok (.aload_n 3, 1) := by decide +kernel
theorem dX10_least_125 : decode cX10_least 125 = .ok (.aload_n 0, 1) := by decide +kernel
theorem dX10_least_126 : decode cX10_least 126 = .ok (.getfield 37, 3) := by decide +kernel
theorem dX10_least_129 : decode cX10_least 129 = .ok (.aload_n 3, 1) := by decide +kernel
theorem dX10_least_130 : decode cX10_least 130 = .ok (.getfield 190, 3) := by decide +kernel
theorem dX10_least_133 : decode cX10_least 133 = .ok (.iload_n 2, 1) := by decide +kernel
theorem dX10_least_134 : decode cX10_least 134 = .ok (.invokevirtual 238, 3) := by decide +kernel
theorem dX10_least_137 : decode cX10_least 137 = .ok (.invokevirtual 265, 3) := by decide +kernel
theorem dX10_least_140 : decode cX10_least 140 = .ok (.ifCond .eq 6, 3) := by decide +kernel
theorem dX10_least_143 : decode cX10_least 143 = .ok (.iload 4, 2) := by decide +kernel
theorem dX10_least_145 : decode cX10_least 145 = .ok (.ireturn, 1) := by decide +kernel
theorem dX10_least_146 : decode cX10_least 146 = .ok (.iinc 4 1, 3) := by decide +kernel
theorem dX10_least_149 : decode cX10_least 149 = .ok (.goto (-100), 3) := by decide +kernel
theorem dX10_least_152 : decode cX10_least 152 = .ok (.bipush (-4), 2) := by decide +kernel
theorem dX10_least_154 : decode cX10_least 154 = .ok (.ireturn, 1) := by decide +kernel
theorem dX10_best_0 : decode cX10_best 0 = .ok (.iload_n 1, 1) := by decide +kernel
theorem dX10_best_1 : decode cX10_best 1 = .ok (.ifCond .lt 8, 3) := by decide +kernel
theorem dX10_best_4 : decode cX10_best 4 = .ok (.iload_n 1, 1) := by decide +kernel
theorem dX10_best_5 : decode cX10_best 5 = .ok (.iconst 1, 1) := by decide +kernel
theorem dX10_best_6 : decode cX10_best 6 = .ok (.if_icmp .le 5, 3) := by decide +kernel
theorem dX10_best_9 : decode cX10_best 9 = .ok (.iconst (-1), 1) := by decide +kernel
theorem dX10_best_10 : decode cX10_best 10 = .ok (.ireturn, 1) := by decide +kernel
theorem dX10_best_11 : decode cX10_best 11 = .ok (.aload_n 0, 1) := by decide +kernel
theorem dX10_best_12 : decode cX10_best 12 = .ok (.getfield 16, 3) := by decide +kernel
theorem dX10_best_15 : decode cX10_best 15 = .ok (.aload_n 0, 1) := by decide +kernel
theorem dX10_best_16 : decode cX10_best 16 = .ok (.getfield 12, 3) := by decide +kernel
theorem dX10_best_19 : decode cX10_best 19 = .ok (.invokevirtual 98, 3) := by decide +kernel
theorem dX10_best_22 : decode cX10_best 22 = .ok (.iconst 0, 1) := by decide +kernel
theorem dX10_best_23 : decode cX10_best 23 = .ok (.istore_n 2, 1) := by decide +kernel
theorem dX10_best_24 : decode cX10_best 24 = .ok (.iconst 0, 1) := by decide +kernel
theorem dX10_best_25 : decode cX10_best 25 = .ok (.istore_n 3, 1) := by decide +kernel
theorem dX10_best_26 : decode cX10_best 26 = .ok (.iconst 0, 1) := by decide +kernel
theorem dX10_best_27 : decode cX10_best 27 = .ok (.istore 4, 2) := by decide +kernel
theorem dX10_best_29 : decode cX10_best 29 = .ok (.iload 4, 2) := by decide +kernel
theorem dX10_best_31 : decode cX10_best 31 = .ok (.bipush 20, 2) := by decide +kernel
theorem dX10_best_33 : decode cX10_best 33 = .ok (.if_icmp .gt 38, 3) := by decide +kernel
theorem dX10_best_36 : decode cX10_best 36 = .ok (.aload_n 0, 1) := by decide +kernel
theorem dX10_best_37 : decode cX10_best 37 = .ok (.getfield 16, 3) := by decide +kernel
theorem dX10_best_40 : decode cX10_best 40 = .ok (.iconst 2, 1) := by decide +kernel
theorem dX10_best_41 : decode cX10_best 41 = .ok (.invokevirtual 200, 3) := by decide +kernel
theorem dX10_best_44 : decode cX10_best 44 = .ok (.istore 5, 2) := by decide +kernel
theorem dX10_best_46 : decode cX10_best 46 = .ok (.iload 5, 2) := by decide +kernel
theorem dX10_best_48 : decode cX10_best 48 = .ok (.iload_n 3, 1) := by decide +kernel
theorem dX10_best_49 : decode cX10_best 49 = .ok (.if_icmp .le 9, 3) := by decide +kernel
theorem dX10_best_52 : decode cX10_best 52 = .ok (.iload 5, 2) := by decide +kernel
theorem dX10_best_54 : decode cX10_best 54 = .ok (.istore_n 3, 1) := by decide +kernel
theorem dX10_best_55 : decode cX10_best 55 = .ok (.iload 4, 2) := by decide +kernel
theorem dX10_best_57 : decode cX10_best 57 = .ok (.istore_n 2, 1) := by decide +kernel
theorem dX10_best_58 : decode cX10_best 58 = .ok (.aload_n 0, 1) := by decide +kernel
theorem dX10_best_59 : decode cX10_best 59 = .ok (.getfield 16, 3) := by decide +kernel
theorem dX10_best_62 : decode cX10_best 62 = .ok (.invokevirtual 213, 3) := by decide +kernel
theorem dX10_best_65 : decode cX10_best 65 = .ok (.iinc 4 1, 3) := by decide +kernel
theorem dX10_best_68 : decode cX10_best 68 = .ok (.goto (-39), 3) := by decide +kernel
theorem dX10_best_71 : decode cX10_best 71 = .ok (.iload_n 1, 1) := by decide +kernel
theorem dX10_best_72 : decode cX10_best 72 = .ok (.ifCond .ne 7, 3) := by decide +kernel
theorem dX10_best_75 : decode cX10_best 75 = .ok (.iload_n 2, 1) := by decide +kernel
theorem dX10_best_76 : decode cX10_best 76 = .ok (.goto 4, 3) := by decide +kernel
theorem dX10_best_79 : decode cX10_best 79 = .ok (.iload_n 3, 1) := by decide +kernel
theorem dX10_best_80 : decode cX10_best 80 = .ok (.ireturn, 1) := by decide +kernel
theorem dX10_feel_0 : decode cX10_feel 0 = .ok (.iload_n 1, 1) := by decide +kernel
theorem dX10_feel_1 : decode cX10_feel 1 = .ok (.ifCond .lt 30, 3) := by decide +kernel
theorem dX10_feel_4 : decode cX10_feel 4 = .ok (.iload_n 1, 1) := by decide +kernel
theorem dX10_feel_5 : decode cX10_feel 5 = .ok (.bipush 20, 2) := by decide +kernel
theorem dX10_feel_7 : decode cX10_feel 7 = .ok (.if_icmp .gt 24, 3) := by decide +kernel
theorem dX10_feel_10 : decode cX10_feel 10 = .ok (.aload_n 0, 1) := by decide +kernel
theorem dX10_feel_11 : decode cX10_feel 11 = .ok (.getfield 12, 3) := by decide +kernel
theorem dX10_feel_14 : decode cX10_feel 14 = .ok (.getfield 105, 3) := by decide +kernel
theorem dX10_feel_17 : decode cX10_feel 17 = .ok (.iload_n 2, 1) := by decide +kernel
theorem dX10_feel_18 : decode cX10_feel 18 = .ok (.invokevirtual 132, 3) := by decide +kernel
theorem dX10_feel_21 : decode cX10_feel 21 = .ok (.ifCond .eq 10, 3) := by decide +kernel
theorem dX10_feel_24 : decode cX10_feel 24 = .ok (.iload_n 3, 1) := by decide +kernel
theorem dX10_feel_25 : decode cX10_feel 25 = .ok (.invokestatic 161, 3) := by decide +kernel
theorem dX10_feel_28 : decode cX10_feel 28 = .ok (.ifCond .ne 5, 3) := by decide +kernel
theorem dX10_feel_31 : decode cX10_feel 31 = .ok (.iconst (-1), 1) := by decide +kernel
theorem dX10_feel_32 : decode cX10_feel 32 = .ok (.ireturn, 1) := by decide +kernel
theorem dX10_feel_33 : decode cX10_feel 33 = .ok (.aload_n 0, 1) := by decide +kernel
theorem dX10_feel_34 : decode cX10_feel 34 = .ok (.getfield 12, 3) := by decide +kernel
theorem dX10_feel_37 : decode cX10_feel 37 = .ok (.iload_n 1, 1) := by decide +kernel
theorem dX10_feel_38 : decode cX10_feel 38 = .ok (.iload_n 2, 1) := by decide +kernel
theorem dX10_feel_39 : decode cX10_feel 39 = .ok (.iload_n 3, 1) := by decide +kernel
theorem dX10_feel_40 : decode cX10_feel 40 = .ok (.invokevirtual 268, 3) := by decide +kernel
theorem dX10_feel_43 : decode cX10_feel 43 = .ok (.ifCond .eq 13, 3) := by decide +kernel
theorem dX10_feel_46 : decode cX10_feel 46 = .ok (.aload_n 0, 1) := by decide +kernel
theorem dX10_feel_47 : decode cX10_feel 47 = .ok (.getfield 12, 3) := by decide +kernel
theorem dX10_feel_50 : decode cX10_feel 50 = .ok (.getfield 271, 3) := by decide +kernel
theorem dX10_feel_53 : decode cX10_feel 53 = .ok (.goto 5, 3) := by decide +kernel
theorem dX10_feel_56 : decode cX10_feel 56 = .ok (.bipush (-3), 2) := by decide +kernel
theorem dX10_feel_58 : decode cX10_feel 58 = .ok (.ireturn, 1) := by decide +kernel
theorem dX10_forget_0 : decode cX10_forget 0 = .ok (.iload_n 1, 1) := by decide +kernel
theorem dX10_forget_1 : decode cX10_forget 1 = .ok (.ifCond .lt 14, 3) := by decide +kernel
theorem dX10_forget_4 : decode cX10_forget 4 = .ok (.iload_n 1, 1) := by decide +kernel
theorem dX10_forget_5 : decode cX10_forget 5 = .ok (.aload_n 0, 1) := by decide +kernel
theorem dX10_forget_6 : decode cX10_forget 6 = .ok (.getfield 12, 3) := by decide +kernel
theorem dX10_forget_9 : decode cX10_forget 9 = .ok (.getfield 271, 3) := by decide +kernel
theorem dX10_forget_12 : decode cX10_forget 12 = .ok (.if_icmp .le 5, 3) := by decide +kernel
theorem dX10_forget_15 : decode cX10_forget 15 = .ok (.iconst (-1), 1) := by decide +kernel
theorem dX10_forget_16 : decode cX10_forget 16 = .ok (.ireturn, 1) := by decide +kernel
theorem dX10_forget_17 : decode cX10_forget 17 = .ok (.aload_n 0, 1) := by decide +kernel
theorem dX10_forget_18 : decode cX10_forget 18 = .ok (.getfield 12, 3) := by decide +kernel
theorem dX10_forget_21 : decode cX10_forget 21 = .ok (.getfield 271, 3) := by decide +kernel
theorem dX10_forget_24 : decode cX10_forget 24 = .ok (.istore_n 2, 1) := by decide +kernel
theorem dX10_forget_25 : decode cX10_forget 25 = .ok (.aload_n 0, 1) := by decide +kernel
theorem dX10_forget_26 : decode cX10_forget 26 = .ok (.getfield 12, 3) := by decide +kernel
theorem dX10_forget_29 : decode cX10_forget 29 = .ok (.iload_n 1, 1) := by decide +kernel
theorem dX10_forget_30 : decode cX10_forget 30 = .ok (.putfield 271, 3) := by decide +kernel
theorem dX10_forget_33 : decode cX10_forget 33 = .ok (.iload_n 2, 1) := by decide +kernel
theorem dX10_forget_34 : decode cX10_forget 34 = .ok (.ireturn, 1) := by decide +kernel
theorem dX10_fits_0 : decode cX10_fits 0 = .ok (.iload_n 1, 1) := by decide +kernel
theorem dX10_fits_1 : decode cX10_fits 1 = .ok (.ifCond .lt 8, 3) := by decide +kernel
theorem dX10_fits_4 : decode cX10_fits 4 = .ok (.iload_n 1, 1) := by decide +kernel
theorem dX10_fits_5 : decode cX10_fits 5 = .ok (.iconst 2, 1) := by decide +kernel
theorem dX10_fits_6 : decode cX10_fits 6 = .ok (.if_icmp .le 5, 3) := by decide +kernel
theorem dX10_fits_9 : decode cX10_fits 9 = .ok (.iconst (-1), 1) := by decide +kernel
theorem dX10_fits_10 : decode cX10_fits 10 = .ok (.ireturn, 1) := by decide +kernel
theorem dX10_fits_11 : decode cX10_fits 11 = .ok (.aload_n 0, 1) := by decide +kernel
theorem dX10_fits_12 : decode cX10_fits 12 = .ok (.getfield 58, 3) := by decide +kernel
theorem dX10_fits_15 : decode cX10_fits 15 = .ok (.aload_n 0, 1) := by decide +kernel
theorem dX10_fits_16 : decode cX10_fits 16 = .ok (.getfield 12, 3) := by decide +kernel
theorem dX10_fits_19 : decode cX10_fits 19 = .ok (.aload_n 0, 1) := by decide +kernel
theorem dX10_fits_20 : decode cX10_fits 20 = .ok (.getfield 37, 3) := by decide +kernel
theorem dX10_fits_23 : decode cX10_fits 23 = .ok (.invokevirtual 274, 3) := by decide +kernel
theorem dX10_fits_26 : decode cX10_fits 26 = .ok (.iload_n 1, 1) := by decide +kernel
theorem dX10_fits_27 : decode cX10_fits 27 = .ok (.lookupswitch 41 #[(0, 25), (1, 33)], 25) := by decide +kernel
theorem dX10_fits_52 : decode cX10_fits 52 = .ok (.aload_n 0, 1) := by decide +kernel
theorem dX10_fits_53 : decode cX10_fits 53 = .ok (.getfield 58, 3) := by decide +kernel
theorem dX10_fits_56 : decode cX10_fits 56 = .ok (.getfield 278, 3) := by decide +kernel
theorem dX10_fits_59 : decode cX10_fits 59 = .ok (.ireturn, 1) := by decide +kernel
theorem dX10_fits_60 : decode cX10_fits 60 = .ok (.aload_n 0, 1) := by decide +kernel
theorem dX10_fits_61 : decode cX10_fits 61 = .ok (.getfield 58, 3) := by decide +kernel
theorem dX10_fits_64 : decode cX10_fits 64 = .ok (.getfield 281, 3) := by decide +kernel
theorem dX10_fits_67 : decode cX10_fits 67 = .ok (.ireturn, 1) := by decide +kernel
theorem dX10_fits_68 : decode cX10_fits 68 = .ok (.aload_n 0, 1) := by decide +kernel
theorem dX10_fits_69 : decode cX10_fits 69 = .ok (.getfield 58, 3) := by decide +kernel
theorem dX10_fits_72 : decode cX10_fits 72 = .ok (.getfield 284, 3) := by decide +kernel
theorem dX10_fits_75 : decode cX10_fits 75 = .ok (.ireturn, 1) := by decide +kernel
theorem dX10_lies_0 : decode cX10_lies 0 = .ok (.aload_n 0, 1) := by decide +kernel
theorem dX10_lies_1 : decode cX10_lies 1 = .ok (.getfield 12, 3) := by decide +kernel
theorem dX10_lies_4 : decode cX10_lies 4 = .ok (.iload_n 1, 1) := by decide +kernel
theorem dX10_lies_5 : decode cX10_lies 5 = .ok (.invokevirtual 148, 3) := by decide +kernel
theorem dX10_lies_8 : decode cX10_lies 8 = .ok (.ifCond .eq 26, 3) := by decide +kernel
theorem dX10_lies_11 : decode cX10_lies 11 = .ok (.aload_n 0, 1) := by decide +kernel
theorem dX10_lies_12 : decode cX10_lies 12 = .ok (.getfield 12, 3) := by decide +kernel
theorem dX10_lies_15 : decode cX10_lies 15 = .ok (.getfield 105, 3) := by decide +kernel
theorem dX10_lies_18 : decode cX10_lies 18 = .ok (.iload_n 2, 1) := by decide +kernel
theorem dX10_lies_19 : decode cX10_lies 19 = .ok (.invokevirtual 132, 3) := by decide +kernel
theorem dX10_lies_22 : decode cX10_lies 22 = .ok (.ifCond .eq 12, 3) := by decide +kernel
theorem dX10_lies_25 : decode cX10_lies 25 = .ok (.iload_n 3, 1) := by decide +kernel
theorem dX10_lies_26 : decode cX10_lies 26 = .ok (.ifCond .lt 8, 3) := by decide +kernel
theorem dX10_lies_29 : decode cX10_lies 29 = .ok (.iload_n 3, 1) := by decide +kernel
theorem dX10_lies_30 : decode cX10_lies 30 = .ok (.iconst 1, 1) := by decide +kernel
theorem dX10_lies_31 : decode cX10_lies 31 = .ok (.if_icmp .le 7, 3) := by decide +kernel
theorem dX10_lies_34 : decode cX10_lies 34 = .ok (.ldc2_w 287, 3) := by decide +kernel
theorem dX10_lies_37 : decode cX10_lies 37 = .ok (.lreturn, 1) := by decide +kernel
theorem dX10_lies_38 : decode cX10_lies 38 = .ok (.aload_n 0, 1) := by decide +kernel
theorem dX10_lies_39 : decode cX10_lies 39 = .ok (.getfield 12, 3) := by decide +kernel
theorem dX10_lies_42 : decode cX10_lies 42 = .ok (.getfield 151, 3) := by decide +kernel
theorem dX10_lies_45 : decode cX10_lies 45 = .ok (.iload_n 1, 1) := by decide +kernel
theorem dX10_lies_46 : decode cX10_lies 46 = .ok (.aaload, 1) := by decide +kernel
theorem dX10_lies_47 : decode cX10_lies 47 = .ok (.getfield 193, 3) := by decide +kernel
theorem dX10_lies_50 : decode cX10_lies 50 = .ok (.istore 4, 2) := by decide +kernel
theorem dX10_lies_52 : decode cX10_lies 52 = .ok (.iload 4, 2) := by decide +kernel
theorem dX10_lies_54 : decode cX10_lies 54 = .ok (.bipush (-4), 2) := by decide +kernel
theorem dX10_lies_56 : decode cX10_lies 56 = .ok (.if_icmp .ne 7, 3) := by decide +kernel
theorem dX10_lies_59 : decode cX10_lies 59 = .ok (.ldc2_w 289, 3) := by decide +kernel
theorem dX10_lies_62 : decode cX10_lies 62 = .ok (.lreturn, 1) := by decide +kernel
theorem dX10_lies_63 : decode cX10_lies 63 = .ok (.aload_n 0, 1) := by decide +kernel
theorem dX10_lies_64 : decode cX10_lies 64 = .ok (.getfield 65, 3) := by decide +kernel
theorem dX10_lies_67 : decode cX10_lies 67 = .ok (.aload_n 0, 1) := by decide +kernel
theorem dX10_lies_68 : decode cX10_lies 68 = .ok (.getfield 12, 3) := by decide +kernel
theorem dX10_lies_71 : decode cX10_lies 71 = .ok (.iload 4, 2) := by decide +kernel
theorem dX10_lies_73 : decode cX10_lies 73 = .ok (.invokevirtual 291, 3) := by decide +kernel
theorem dX10_lies_76 : decode cX10_lies 76 = .ok (.istore 5, 2) := by decide +kernel
theorem dX10_lies_78 : decode cX10_lies 78 = .ok (.iload 5, 2) := by decide +kernel
theorem dX10_lies_80 : decode cX10_lies 80 = .ok (.ifCond .ne 7, 3) := by decide +kernel
theorem dX10_lies_83 : decode cX10_lies 83 = .ok (.ldc2_w 295, 3) := by decide +kernel
theorem dX10_lies_86 : decode cX10_lies 86 = .ok (.lreturn, 1) := by decide +kernel
theorem dX10_lies_87 : decode cX10_lies 87 = .ok (.aload_n 0, 1) := by decide +kernel
theorem dX10_lies_88 : decode cX10_lies 88 = .ok (.getfield 65, 3) := by decide +kernel
theorem dX10_lies_91 : decode cX10_lies 91 = .ok (.aload_n 0, 1) := by decide +kernel
theorem dX10_lies_92 : decode cX10_lies 92 = .ok (.getfield 12, 3) := by decide +kernel
theorem dX10_lies_95 : decode cX10_lies 95 = .ok (.iload 4, 2) := by decide +kernel
theorem dX10_lies_97 : decode cX10_lies 97 = .ok (.iload_n 2, 1) := by decide +kernel
theorem dX10_lies_98 : decode cX10_lies 98 = .ok (.invokevirtual 297, 3) := by decide +kernel
theorem dX10_lies_101 : decode cX10_lies 101 = .ok (.i2l, 1) := by decide +kernel
theorem dX10_lies_102 : decode cX10_lies 102 = .ok (.iload 5, 2) := by decide +kernel
theorem dX10_lies_104 : decode cX10_lies 104 = .ok (.i2l, 1) := by decide +kernel
theorem dX10_lies_105 : decode cX10_lies 105 = .ok (.iload_n 3, 1) := by decide +kernel
theorem dX10_lies_106 : decode cX10_lies 106 = .ok (.invokestatic 301, 3) := by decide +kernel
theorem dX10_lies_109 : decode cX10_lies 109 = .ok (.lreturn, 1) := by decide +kernel
theorem dX10_next_0 : decode cX10_next 0 = .ok (.iload_n 1, 1) := by decide +kernel
theorem dX10_next_1 : decode cX10_next 1 = .ok (.ifCond .lt 8, 3) := by decide +kernel
theorem dX10_next_4 : decode cX10_next 4 = .ok (.iload_n 1, 1) := by decide +kernel
theorem dX10_next_5 : decode cX10_next 5 = .ok (.iconst 2, 1) := by decide +kernel
theorem dX10_next_6 : decode cX10_next 6 = .ok (.if_icmp .le 7, 3) := by decide +kernel
theorem dX10_next_9 : decode cX10_next 9 = .ok (.ldc2_w 287, 3) := by decide +kernel
theorem dX10_next_12 : decode cX10_next 12 = .ok (.lreturn, 1) := by decide +kernel
theorem dX10_next_13 : decode cX10_next 13 = .ok (.aload_n 0, 1) := by decide +kernel
theorem dX10_next_14 : decode cX10_next 14 = .ok (.getfield 65, 3) := by decide +kernel
theorem dX10_next_17 : decode cX10_next 17 = .ok (.aload_n 0, 1) := by decide +kernel
theorem dX10_next_18 : decode cX10_next 18 = .ok (.getfield 12, 3) := by decide +kernel
theorem dX10_next_21 : decode cX10_next 21 = .ok (.invokevirtual 305, 3) := by decide +kernel
theorem dX10_next_24 : decode cX10_next 24 = .ok (.aload_n 0, 1) := by decide +kernel
theorem dX10_next_25 : decode cX10_next 25 = .ok (.getfield 65, 3) := by decide +kernel
theorem dX10_next_28 : decode cX10_next 28 = .ok (.getfield 308, 3) := by decide +kernel
theorem dX10_next_31 : decode cX10_next 31 = .ok (.bipush (-4), 2) := by decide +kernel
theorem dX10_next_33 : decode cX10_next 33 = .ok (.if_icmp .ne 7, 3) := by decide +kernel
theorem dX10_next_36 : decode cX10_next 36 = .ok (.ldc2_w 295, 3) := by decide +kernel
theorem dX10_next_39 : decode cX10_next 39 = .ok (.lreturn, 1) := by decide +kernel
theorem dX10_next_40 : decode cX10_next 40 = .ok (.iload_n 1, 1) := by decide +kernel
theorem dX10_next_41 : decode cX10_next 41 = .ok (.ifCond .ne 14, 3) := by decide +kernel
theorem dX10_next_44 : decode cX10_next 44 = .ok (.aload_n 0, 1) := by decide +kernel
theorem dX10_next_45 : decode cX10_next 45 = .ok (.getfield 65, 3) := by decide +kernel
theorem dX10_next_48 : decode cX10_next 48 = .ok (.getfield 308, 3) := by decide +kernel
theorem dX10_next_51 : decode cX10_next 51 = .ok (.i2l, 1) := by decide +kernel
theorem dX10_next_52 : decode cX10_next 52 = .ok (.goto 20, 3) := by decide +kernel
theorem dX10_next_55 : decode cX10_next 55 = .ok (.aload_n 0, 1) := by decide +kernel
theorem dX10_next_56 : decode cX10_next 56 = .ok (.getfield 65, 3) := by decide +kernel
theorem dX10_next_59 : decode cX10_next 59 = .ok (.getfield 311, 3) := by decide +kernel
theorem dX10_next_62 : decode cX10_next 62 = .ok (.i2l, 1) := by decide +kernel
theorem dX10_next_63 : decode cX10_next 63 = .ok (.ldc2_w 314, 3) := by decide +kernel
theorem dX10_next_66 : decode cX10_next 66 = .ok (.iload_n 1, 1) := by decide +kernel
theorem dX10_next_67 : decode cX10_next 67 = .ok (.iconst 1, 1) := by decide +kernel
theorem dX10_next_68 : decode cX10_next 68 = .ok (.isub, 1) := by decide +kernel
theorem dX10_next_69 : decode cX10_next 69 = .ok (.invokestatic 301, 3) := by decide +kernel
theorem dX10_next_72 : decode cX10_next 72 = .ok (.lreturn, 1) := by decide +kernel
theorem dX10_takes_0 : decode cX10_takes 0 = .ok (.iload_n 1, 1) := by decide +kernel
theorem dX10_takes_1 : decode cX10_takes 1 = .ok (.ifCond .ge 5, 3) := by decide +kernel
theorem dX10_takes_4 : decode cX10_takes 4 = .ok (.iconst (-1), 1) := by decide +kernel
theorem dX10_takes_5 : decode cX10_takes 5 = .ok (.ireturn, 1) := by decide +kernel
theorem dX10_takes_6 : decode cX10_takes 6 = .ok (.iload_n 1, 1) := by decide +kernel
theorem dX10_takes_7 : decode cX10_takes 7 = .ok (.aload_n 0, 1) := by decide +kernel
theorem dX10_takes_8 : decode cX10_takes 8 = .ok (.getfield 12, 3) := by decide +kernel
theorem dX10_takes_11 : decode cX10_takes 11 = .ok (.getfield 126, 3) := by decide +kernel
theorem dX10_takes_14 : decode cX10_takes 14 = .ok (.if_icmp .lt 6, 3) := by decide +kernel
theorem dX10_takes_17 : decode cX10_takes 17 = .ok (.bipush (-4), 2) := by decide +kernel
theorem dX10_takes_19 : decode cX10_takes 19 = .ok (.ireturn, 1) := by decide +kernel
theorem dX10_takes_20 : decode cX10_takes 20 = .ok (.iconst 0, 1) := by decide +kernel
theorem dX10_takes_21 : decode cX10_takes 21 = .ok (.istore_n 2, 1) := by decide +kernel
theorem dX10_takes_22 : decode cX10_takes 22 = .ok (.bipush (-4), 2) := by decide +kernel
theorem dX10_takes_24 : decode cX10_takes 24 = .ok (.istore_n 3, 1) := by decide +kernel
theorem dX10_takes_25 : decode cX10_takes 25 = .ok (.iconst 0, 1) := by decide +kernel
theorem dX10_takes_26 : decode cX10_takes 26 = .ok (.istore 4, 2) := by decide +kernel
theorem dX10_takes_28 : decode cX10_takes 28 = .ok (.iload 4, 2) := by decide +kernel
theorem dX10_takes_30 : decode cX10_takes 30 = .ok (.iload_n 1, 1) := by decide +kernel
theorem dX10_takes_31 : decode cX10_takes 31 = .ok (.if_icmp .gt 24, 3) := by decide +kernel
theorem dX10_takes_34 : decode cX10_takes 34 = .ok (.aload_n 0, 1) := by decide +kernel
theorem dX10_takes_35 : decode cX10_takes 35 = .ok (.getfield 12, 3) := by decide +kernel
theorem dX10_takes_38 : decode cX10_takes 38 = .ok (.iload_n 2, 1) := by decide +kernel
theorem dX10_takes_39 : decode cX10_takes 39 = .ok (.invokevirtual 316, 3) := by decide +kernel
theorem dX10_takes_42 : decode cX10_takes 42 = .ok (.istore_n 3, 1) := by decide +kernel
theorem dX10_takes_43 : decode cX10_takes 43 = .ok (.iload_n 2, 1) := by decide +kernel
theorem dX10_takes_44 : decode cX10_takes 44 = .ok (.iconst 1, 1) := by decide +kernel
theorem dX10_takes_45 : decode cX10_takes 45 = .ok (.iload_n 3, 1) := by decide +kernel
theorem dX10_takes_46 : decode cX10_takes 46 = .ok (.ishl, 1) := by decide +kernel
theorem dX10_takes_47 : decode cX10_takes 47 = .ok (.ior, 1) := by decide +kernel
theorem dX10_takes_48 : decode cX10_takes 48 = .ok (.istore_n 2, 1) := by decide +kernel
theorem dX10_takes_49 : decode cX10_takes 49 = .ok (.iinc 4 1, 3) := by decide +kernel
theorem dX10_takes_52 : decode cX10_takes 52 = .ok (.goto (-24), 3) := by decide +kernel
theorem dX10_takes_55 : decode cX10_takes 55 = .ok (.iload_n 3, 1) := by decide +kernel
theorem dX10_takes_56 : decode cX10_takes 56 = .ok (.ireturn, 1) := by decide +kernel
theorem dX10_morning_0 : decode cX10_morning 0 = .ok (.iload_n 1, 1) := by decide +kernel
theorem dX10_morning_1 : decode cX10_morning 1 = .ok (.ifCond .lt 8, 3) := by decide +kernel
theorem dX10_morning_4 : decode cX10_morning 4 = .ok (.iload_n 1, 1) := by decide +kernel
theorem dX10_morning_5 : decode cX10_morning 5 = .ok (.iconst 3, 1) := by decide +kernel
theorem dX10_morning_6 : decode cX10_morning 6 = .ok (.if_icmp .le 7, 3) := by decide +kernel
theorem dX10_morning_9 : decode cX10_morning 9 = .ok (.ldc2_w 287, 3) := by decide +kernel
theorem dX10_morning_12 : decode cX10_morning 12 = .ok (.lreturn, 1) := by decide +kernel
theorem dX10_morning_13 : decode cX10_morning 13 = .ok (.lconst 0, 1) := by decide +kernel
theorem dX10_morning_14 : decode cX10_morning 14 = .ok (.lstore_n 2, 1) := by decide +kernel
theorem dX10_morning_15 : decode cX10_morning 15 = .ok (.lconst 1, 1) := by decide +kernel
theorem dX10_morning_16 : decode cX10_morning 16 = .ok (.lstore 4, 2) := by decide +kernel
theorem dX10_morning_18 : decode cX10_morning 18 = .ok (.lconst 1, 1) := by decide +kernel
theorem dX10_morning_19 : decode cX10_morning 19 = .ok (.lstore 6, 2) := by decide +kernel
theorem dX10_morning_21 : decode cX10_morning 21 = .ok (.iconst 0, 1) := by decide +kernel
theorem dX10_morning_22 : decode cX10_morning 22 = .ok (.istore 8, 2) := by decide +kernel
theorem dX10_morning_24 : decode cX10_morning 24 = .ok (.iload 8, 2) := by decide +kernel
theorem dX10_morning_26 : decode cX10_morning 26 = .ok (.aload_n 0, 1) := by decide +kernel
theorem dX10_morning_27 : decode cX10_morning 27 = .ok (.getfield 12, 3) := by decide +kernel
theorem dX10_morning_30 : decode cX10_morning 30 = .ok (.getfield 126, 3) := by decide +kernel
theorem dX10_morning_33 : decode cX10_morning 33 = .ok (.if_icmp .ge 66, 3) := by decide +kernel
theorem dX10_morning_36 : decode cX10_morning 36 = .ok (.aload_n 0, 1) := by decide +kernel
theorem dX10_morning_37 : decode cX10_morning 37 = .ok (.getfield 12, 3) := by decide +kernel
theorem dX10_morning_40 : decode cX10_morning 40 = .ok (.getfield 151, 3) := by decide +kernel
theorem dX10_morning_43 : decode cX10_morning 43 = .ok (.iload 8, 2) := by decide +kernel
theorem dX10_morning_45 : decode cX10_morning 45 = .ok (.aaload, 1) := by decide +kernel
theorem dX10_morning_46 : decode cX10_morning 46 = .ok (.getfield 181, 3) := by decide +kernel
theorem dX10_morning_49 : decode cX10_morning 49 = .ok (.istore 9, 2) := by decide +kernel
theorem dX10_morning_51 : decode cX10_morning 51 = .ok (.iload 9, 2) := by decide +kernel
theorem dX10_morning_53 : decode cX10_morning 53 = .ok (.bipush (-4), 2) := by decide +kernel
theorem dX10_morning_55 : decode cX10_morning 55 = .ok (.if_icmp .eq 38, 3) := by decide +kernel
theorem dX10_morning_58 : decode cX10_morning 58 = .ok (.iconst 1, 1) := by decide +kernel
theorem dX10_morning_59 : decode cX10_morning 59 = .ok (.iconst 2, 1) := by decide +kernel
theorem dX10_morning_60 : decode cX10_morning 60 = .ok (.iload 9, 2) := by decide +kernel
theorem dX10_morning_62 : decode cX10_morning 62 = .ok (.iconst 3, 1) := by decide +kernel
theorem dX10_morning_63 : decode cX10_morning 63 = .ok (.irem, 1) := by decide +kernel
theorem dX10_morning_64 : decode cX10_morning 64 = .ok (.imul, 1) := by decide +kernel
theorem dX10_morning_65 : decode cX10_morning 65 = .ok (.iadd, 1) := by decide +kernel
theorem dX10_morning_66 : decode cX10_morning 66 = .ok (.istore 10, 2) := by decide +kernel
theorem dX10_morning_68 : decode cX10_morning 68 = .ok (.lload_n 2, 1) := by decide +kernel
theorem dX10_morning_69 : decode cX10_morning 69 = .ok (.iload 10, 2) := by decide +kernel
theorem dX10_morning_71 : decode cX10_morning 71 = .ok (.i2l, 1) := by decide +kernel
theorem dX10_morning_72 : decode cX10_morning 72 = .ok (.ladd, 1) := by decide +kernel
theorem dX10_morning_73 : decode cX10_morning 73 = .ok (.lstore_n 2, 1) := by decide +kernel
theorem dX10_morning_74 : decode cX10_morning 74 = .ok (.lload 4, 2) := by decide +kernel
theorem dX10_morning_76 : decode cX10_morning 76 = .ok (.bipush 10, 2) := by decide +kernel
theorem dX10_morning_78 : decode cX10_morning 78 = .ok (.iload 10, 2) := by decide +kernel
theorem dX10_morning_80 : decode cX10_morning 80 = .ok (.isub, 1) := by decide +kernel
theorem dX10_morning_81 : decode cX10_morning 81 = .ok (.i2l, 1) := by decide +kernel
theorem dX10_morning_82 : decode cX10_morning 82 = .ok (.lmul, 1) := by decide +kernel
theorem dX10_morning_83 : decode cX10_morning 83 = .ok (.lstore 4, 2) := by decide +kernel
theorem dX10_morning_85 : decode cX10_morning 85 = .ok (.lload 6, 2) := by decide +kernel
theorem dX10_morning_87 : decode cX10_morning 87 = .ok (.ldc2_w 319, 3) := by decide +kernel
theorem dX10_morning_90 : decode cX10_morning 90 = .ok (.lmul, 1) := by decide +kernel
theorem dX10_morning_91 : decode cX10_morning 91 = .ok (.lstore 6, 2) := by decide +kernel
theorem dX10_morning_93 : decode cX10_morning 93 = .ok (.iinc 8 1, 3) := by decide +kernel
theorem dX10_morning_96 : decode cX10_morning 96 = .ok (.goto (-72), 3) := by decide +kernel
theorem dX10_morning_99 : decode cX10_morning 99 = .ok (.iload_n 1, 1) := by decide +kernel
theorem dX10_morning_100 : decode cX10_morning 100 = .ok (.iconst 2, 1) := by decide +kernel
theorem dX10_morning_101 : decode cX10_morning 101 = .ok (.if_icmp .ge 14, 3) := by decide +kernel
theorem dX10_morning_104 : decode cX10_morning 104 = .ok (.lload_n 2, 1) := by decide +kernel
theorem dX10_morning_105 : decode cX10_morning 105 = .ok (.ldc2_w 319, 3) := by decide +kernel
theorem dX10_morning_108 : decode cX10_morning 108 = .ok (.iload_n 1, 1) := by decide +kernel
theorem dX10_morning_109 : decode cX10_morning 109 = .ok (.invokestatic 301, 3) := by decide +kernel
theorem dX10_morning_112 : decode cX10_morning 112 = .ok (.goto 13, 3) := by decide +kernel
theorem dX10_morning_115 : decode cX10_morning 115 = .ok (.lload 4, 2) := by decide +kernel
theorem dX10_morning_117 : decode cX10_morning 117 = .ok (.lload 6, 2) := by decide +kernel
theorem dX10_morning_119 : decode cX10_morning 119 = .ok (.iload_n 1, 1) := by decide +kernel
theorem dX10_morning_120 : decode cX10_morning 120 = .ok (.iconst 2, 1) := by decide +kernel
theorem dX10_morning_121 : decode cX10_morning 121 = .ok (.isub, 1) := by decide +kernel
theorem dX10_morning_122 : decode cX10_morning 122 = .ok (.invokestatic 301, 3) := by decide +kernel
theorem dX10_morning_125 : decode cX10_morning 125 = .ok (.lreturn, 1) := by decide +kernel
theorem dX10_drift_0 : decode cX10_drift 0 = .ok (.iload_n 2, 1) := by decide +kernel
theorem dX10_drift_1 : decode cX10_drift 1 = .ok (.iconst 1, 1) := by decide +kernel
theorem dX10_drift_2 : decode cX10_drift 2 = .ok (.if_icmp .lt 18, 3) := by decide +kernel
theorem dX10_drift_5 : decode cX10_drift 5 = .ok (.iload_n 2, 1) := by decide +kernel
theorem dX10_drift_6 : decode cX10_drift 6 = .ok (.bipush 60, 2) := by decide +kernel
theorem dX10_drift_8 : decode cX10_drift 8 = .ok (.if_icmp .gt 12, 3) := by decide +kernel
theorem dX10_drift_11 : decode cX10_drift 11 = .ok (.iload_n 3, 1) := by decide +kernel
theorem dX10_drift_12 : decode cX10_drift 12 = .ok (.ifCond .lt 8, 3) := by decide +kernel
theorem dX10_drift_15 : decode cX10_drift 15 = .ok (.iload_n 3, 1) := by decide +kernel
theorem dX10_drift_16 : decode cX10_drift 16 = .ok (.iconst 1, 1) := by decide +kernel
theorem dX10_drift_17 : decode cX10_drift 17 = .ok (.if_icmp .le 5, 3) := by decide +kernel
theorem dX10_drift_20 : decode cX10_drift 20 = .ok (.iconst (-1), 1) := by decide +kernel
theorem dX10_drift_21 : decode cX10_drift 21 = .ok (.ireturn, 1) := by decide +kernel
theorem dX10_drift_22 : decode cX10_drift 22 = .ok (.aload_n 0, 1) := by decide +kernel
theorem dX10_drift_23 : decode cX10_drift 23 = .ok (.getfield 12, 3) := by decide +kernel
theorem dX10_drift_26 : decode cX10_drift 26 = .ok (.getfield 126, 3) := by decide +kernel
theorem dX10_drift_29 : decode cX10_drift 29 = .ok (.istore 4, 2) := by decide +kernel
theorem dX10_drift_31 : decode cX10_drift 31 = .ok (.iload 4, 2) := by decide +kernel
theorem dX10_drift_33 : decode cX10_drift 33 = .ok (.ifCond .ne 6, 3) := by decide +kernel
theorem dX10_drift_36 : decode cX10_drift 36 = .ok (.bipush (-2), 2) := by decide +kernel
theorem dX10_drift_38 : decode cX10_drift 38 = .ok (.ireturn, 1) := by decide +kernel
theorem dX10_drift_39 : decode cX10_drift 39 = .ok (.aload_n 0, 1) := by decide +kernel
theorem dX10_drift_40 : decode cX10_drift 40 = .ok (.getfield 16, 3) := by decide +kernel
theorem dX10_drift_43 : decode cX10_drift 43 = .ok (.aload_n 0, 1) := by decide +kernel
theorem dX10_drift_44 : decode cX10_drift 44 = .ok (.getfield 12, 3) := by decide +kernel
theorem dX10_drift_47 : decode cX10_drift 47 = .ok (.invokevirtual 98, 3) := by decide +kernel
theorem dX10_drift_50 : decode cX10_drift 50 = .ok (.iload_n 1, 1) := by decide +kernel
theorem dX10_drift_51 : decode cX10_drift 51 = .ok (.istore 5, 2) := by decide +kernel
theorem dX10_drift_53 : decode cX10_drift 53 = .ok (.iconst 0, 1) := by decide +kernel
theorem dX10_drift_54 : decode cX10_drift 54 = .ok (.istore 6, 2) := by decide +kernel
theorem dX10_drift_56 : decode cX10_drift 56 = .ok (.iload 6, 2) := by decide +kernel
theorem dX10_drift_58 : decode cX10_drift 58 = .ok (.iload_n 2, 1) := by decide +kernel
theorem dX10_drift_59 : decode cX10_drift 59 = .ok (.if_icmp .ge 56, 3) := by decide +kernel
theorem dX10_drift_62 : decode cX10_drift 62 = .ok (.iload 5, 2) := by decide +kernel
theorem dX10_drift_64 : decode cX10_drift 64 = .ok (.invokestatic 321, 3) := by decide +kernel
theorem dX10_drift_67 : decode cX10_drift 67 = .ok (.istore 5, 2) := by decide +kernel
theorem dX10_drift_69 : decode cX10_drift 69 = .ok (.iload 5, 2) := by decide +kernel
theorem dX10_drift_71 : decode cX10_drift 71 = .ok (.invokestatic 324, 3) := by decide +kernel
theorem dX10_drift_74 : decode cX10_drift 74 = .ok (.iload 4, 2) := by decide +kernel
theorem dX10_drift_76 : decode cX10_drift 76 = .ok (.irem, 1) := by decide +kernel
theorem dX10_drift_77 : decode cX10_drift 77 = .ok (.istore 7, 2) := by decide +kernel
theorem dX10_drift_79 : decode cX10_drift 79 = .ok (.iload 5, 2) := by decide +kernel
theorem dX10_drift_81 : decode cX10_drift 81 = .ok (.invokestatic 321, 3) := by decide +kernel
theorem dX10_drift_84 : decode cX10_drift 84 = .ok (.istore 5, 2) := by decide +kernel
theorem dX10_drift_86 : decode cX10_drift 86 = .ok (.aload_n 0, 1) := by decide +kernel
theorem dX10_drift_87 : decode cX10_drift 87 = .ok (.getfield 16, 3) := by decide +kernel
theorem dX10_drift_90 : decode cX10_drift 90 = .ok (.iload 7, 2) := by decide +kernel
theorem dX10_drift_92 : decode cX10_drift 92 = .ok (.iload 5, 2) := by decide +kernel
theorem dX10_drift_94 : decode cX10_drift 94 = .ok (.invokestatic 324, 3) := by decide +kernel
theorem dX10_drift_97 : decode cX10_drift 97 = .ok (.iconst 3, 1) := by decide +kernel
theorem dX10_drift_98 : decode cX10_drift 98 = .ok (.irem, 1) := by decide +kernel
theorem dX10_drift_99 : decode cX10_drift 99 = .ok (.invokevirtual 327, 3) := by decide +kernel
theorem dX10_drift_102 : decode cX10_drift 102 = .ok (.aload_n 0, 1) := by decide +kernel
theorem dX10_drift_103 : decode cX10_drift 103 = .ok (.getfield 16, 3) := by decide +kernel
theorem dX10_drift_106 : decode cX10_drift 106 = .ok (.invokevirtual 213, 3) := by decide +kernel
theorem dX10_drift_109 : decode cX10_drift 109 = .ok (.iinc 6 1, 3) := by decide +kernel
theorem dX10_drift_112 : decode cX10_drift 112 = .ok (.goto (-56), 3) := by decide +kernel
theorem dX10_drift_115 : decode cX10_drift 115 = .ok (.aload_n 0, 1) := by decide +kernel
theorem dX10_drift_116 : decode cX10_drift 116 = .ok (.getfield 16, 3) := by decide +kernel
theorem dX10_drift_119 : decode cX10_drift 119 = .ok (.iload_n 3, 1) := by decide +kernel
theorem dX10_drift_120 : decode cX10_drift 120 = .ok (.ifCond .ne 7, 3) := by decide +kernel
theorem dX10_drift_123 : decode cX10_drift 123 = .ok (.iconst 2, 1) := by decide +kernel
theorem dX10_drift_124 : decode cX10_drift 124 = .ok (.goto 4, 3) := by decide +kernel
theorem dX10_drift_127 : decode cX10_drift 127 = .ok (.iconst 1, 1) := by decide +kernel
theorem dX10_drift_128 : decode cX10_drift 128 = .ok (.invokevirtual 200, 3) := by decide +kernel
theorem dX10_drift_131 : decode cX10_drift 131 = .ok (.ireturn, 1) := by decide +kernel
theorem dX10_keep_0 : decode cX10_keep 0 = .ok (.iload_n 1, 1) := by decide +kernel
theorem dX10_keep_1 : decode cX10_keep 1 = .ok (.ifCond .lt 8, 3) := by decide +kernel
theorem dX10_keep_4 : decode cX10_keep 4 = .ok (.iload_n 1, 1) := by decide +kernel
theorem dX10_keep_5 : decode cX10_keep 5 = .ok (.iconst 1, 1) := by decide +kernel
theorem dX10_keep_6 : decode cX10_keep 6 = .ok (.if_icmp .le 5, 3) := by decide +kernel
theorem dX10_keep_9 : decode cX10_keep 9 = .ok (.iconst (-1), 1) := by decide +kernel
theorem dX10_keep_10 : decode cX10_keep 10 = .ok (.ireturn, 1) := by decide +kernel
theorem dX10_keep_11 : decode cX10_keep 11 = .ok (.aload_n 0, 1) := by decide +kernel
theorem dX10_keep_12 : decode cX10_keep 12 = .ok (.getfield 23, 3) := by decide +kernel
theorem dX10_keep_15 : decode cX10_keep 15 = .ok (.iload_n 1, 1) := by decide +kernel
theorem dX10_keep_16 : decode cX10_keep 16 = .ok (.baload, 1) := by decide +kernel
theorem dX10_keep_17 : decode cX10_keep 17 = .ok (.ifCond .eq 7, 3) := by decide +kernel
theorem dX10_keep_20 : decode cX10_keep 20 = .ok (.iconst 1, 1) := by decide +kernel
theorem dX10_keep_21 : decode cX10_keep 21 = .ok (.goto 4, 3) := by decide +kernel
theorem dX10_keep_24 : decode cX10_keep 24 = .ok (.iconst 0, 1) := by decide +kernel
theorem dX10_keep_25 : decode cX10_keep 25 = .ok (.istore_n 2, 1) := by decide +kernel
theorem dX10_keep_26 : decode cX10_keep 26 = .ok (.aload_n 0, 1) := by decide +kernel
theorem dX10_keep_27 : decode cX10_keep 27 = .ok (.getfield 19, 3) := by decide +kernel
theorem dX10_keep_30 : decode cX10_keep 30 = .ok (.iload_n 1, 1) := by decide +kernel
theorem dX10_keep_31 : decode cX10_keep 31 = .ok (.aaload, 1) := by decide +kernel
theorem dX10_keep_32 : decode cX10_keep 32 = .ok (.aload_n 0, 1) := by decide +kernel
theorem dX10_keep_33 : decode cX10_keep 33 = .ok (.getfield 12, 3) := by decide +kernel
theorem dX10_keep_36 : decode cX10_keep 36 = .ok (.invokevirtual 98, 3) := by decide +kernel
theorem dX10_keep_39 : decode cX10_keep 39 = .ok (.aload_n 0, 1) := by decide +kernel
theorem dX10_keep_40 : decode cX10_keep 40 = .ok (.getfield 23, 3) := by decide +kernel
theorem dX10_keep_43 : decode cX10_keep 43 = .ok (.iload_n 1, 1) := by decide +kernel
theorem dX10_keep_44 : decode cX10_keep 44 = .ok (.iconst 1, 1) := by decide +kernel
theorem dX10_keep_45 : decode cX10_keep 45 = .ok (.bastore, 1) := by decide +kernel
theorem dX10_keep_46 : decode cX10_keep 46 = .ok (.iload_n 2, 1) := by decide +kernel
theorem dX10_keep_47 : decode cX10_keep 47 = .ok (.ireturn, 1) := by decide +kernel
theorem dX10_back_0 : decode cX10_back 0 = .ok (.iload_n 1, 1) := by decide +kernel
theorem dX10_back_1 : decode cX10_back 1 = .ok (.ifCond .lt 8, 3) := by decide +kernel
theorem dX10_back_4 : decode cX10_back 4 = .ok (.iload_n 1, 1) := by decide +kernel
theorem dX10_back_5 : decode cX10_back 5 = .ok (.iconst 1, 1) := by decide +kernel
theorem dX10_back_6 : decode cX10_back 6 = .ok (.if_icmp .le 5, 3) := by decide +kernel
theorem dX10_back_9 : decode cX10_back 9 = .ok (.iconst (-1), 1) := by decide +kernel
theorem dX10_back_10 : decode cX10_back 10 = .ok (.ireturn, 1) := by decide +kernel
theorem dX10_back_11 : decode cX10_back 11 = .ok (.aload_n 0, 1) := by decide +kernel
theorem dX10_back_12 : decode cX10_back 12 = .ok (.getfield 23, 3) := by decide +kernel
theorem dX10_back_15 : decode cX10_back 15 = .ok (.iload_n 1, 1) := by decide +kernel
theorem dX10_back_16 : decode cX10_back 16 = .ok (.baload, 1) := by decide +kernel
theorem dX10_back_17 : decode cX10_back 17 = .ok (.ifCond .ne 6, 3) := by decide +kernel
theorem dX10_back_20 : decode cX10_back 20 = .ok (.bipush (-2), 2) := by decide +kernel
theorem dX10_back_22 : decode cX10_back 22 = .ok (.ireturn, 1) := by decide +kernel
theorem dX10_back_23 : decode cX10_back 23 = .ok (.aload_n 0, 1) := by decide +kernel
theorem dX10_back_24 : decode cX10_back 24 = .ok (.getfield 12, 3) := by decide +kernel
theorem dX10_back_27 : decode cX10_back 27 = .ok (.aload_n 0, 1) := by decide +kernel
theorem dX10_back_28 : decode cX10_back 28 = .ok (.getfield 19, 3) := by decide +kernel
theorem dX10_back_31 : decode cX10_back 31 = .ok (.iload_n 1, 1) := by decide +kernel
theorem dX10_back_32 : decode cX10_back 32 = .ok (.aaload, 1) := by decide +kernel
theorem dX10_back_33 : decode cX10_back 33 = .ok (.invokevirtual 98, 3) := by decide +kernel
theorem dX10_back_36 : decode cX10_back 36 = .ok (.aload_n 0, 1) := by decide +kernel
theorem dX10_back_37 : decode cX10_back 37 = .ok (.getfield 12, 3) := by decide +kernel
theorem dX10_back_40 : decode cX10_back 40 = .ok (.getfield 123, 3) := by decide +kernel
theorem dX10_back_43 : decode cX10_back 43 = .ok (.ireturn, 1) := by decide +kernel
theorem dX10_sheet_0 : decode cX10_sheet 0 = .ok (.iload_n 1, 1) := by decide +kernel
theorem dX10_sheet_1 : decode cX10_sheet 1 = .ok (.invokestatic 331, 3) := by decide +kernel
theorem dX10_sheet_4 : decode cX10_sheet 4 = .ok (.ifCond .eq 16, 3) := by decide +kernel
theorem dX10_sheet_7 : decode cX10_sheet 7 = .ok (.iload_n 2, 1) := by decide +kernel
theorem dX10_sheet_8 : decode cX10_sheet 8 = .ok (.invokestatic 334, 3) := by decide +kernel
theorem dX10_sheet_11 : decode cX10_sheet 11 = .ok (.ifCond .eq 9, 3) := by decide +kernel
theorem dX10_sheet_14 : decode cX10_sheet 14 = .ok (.iload_n 3, 1) := by decide +kernel
theorem dX10_sheet_15 : decode cX10_sheet 15 = .ok (.bipush 40, 2) := by decide +kernel
theorem dX10_sheet_17 : decode cX10_sheet 17 = .ok (.if_icmp .le 5, 3) := by decide +kernel
theorem dX10_sheet_20 : decode cX10_sheet 20 = .ok (.iconst (-1), 1) := by decide +kernel
theorem dX10_sheet_21 : decode cX10_sheet 21 = .ok (.ireturn, 1) := by decide +kernel
theorem dX10_sheet_22 : decode cX10_sheet 22 = .ok (.iload_n 3, 1) := by decide +kernel
theorem dX10_sheet_23 : decode cX10_sheet 23 = .ok (.ifCond .ge 6, 3) := by decide +kernel
theorem dX10_sheet_26 : decode cX10_sheet 26 = .ok (.bipush (-14), 2) := by decide +kernel
theorem dX10_sheet_28 : decode cX10_sheet 28 = .ok (.ireturn, 1) := by decide +kernel
theorem dX10_sheet_29 : decode cX10_sheet 29 = .ok (.aload_n 0, 1) := by decide +kernel
theorem dX10_sheet_30 : decode cX10_sheet 30 = .ok (.getfield 51, 3) := by decide +kernel
theorem dX10_sheet_33 : decode cX10_sheet 33 = .ok (.iload_n 1, 1) := by decide +kernel
theorem dX10_sheet_34 : decode cX10_sheet 34 = .ok (.aaload, 1) := by decide +kernel
theorem dX10_sheet_35 : decode cX10_sheet 35 = .ok (.iload_n 2, 1) := by decide +kernel
theorem dX10_sheet_36 : decode cX10_sheet 36 = .ok (.iload_n 3, 1) := by decide +kernel
theorem dX10_sheet_37 : decode cX10_sheet 37 = .ok (.invokevirtual 337, 3) := by decide +kernel
theorem dX10_sheet_40 : decode cX10_sheet 40 = .ok (.iconst 1, 1) := by decide +kernel
theorem dX10_sheet_41 : decode cX10_sheet 41 = .ok (.ireturn, 1) := by decide +kernel
theorem dX10_lay_0 : decode cX10_lay 0 = .ok (.iload_n 1, 1) := by decide +kernel
theorem dX10_lay_1 : decode cX10_lay 1 = .ok (.invokestatic 331, 3) := by decide +kernel
theorem dX10_lay_4 : decode cX10_lay 4 = .ok (.ifCond .ne 5, 3) := by decide +kernel
theorem dX10_lay_7 : decode cX10_lay 7 = .ok (.iconst (-1), 1) := by decide +kernel
theorem dX10_lay_8 : decode cX10_lay 8 = .ok (.ireturn, 1) := by decide +kernel
theorem dX10_lay_9 : decode cX10_lay 9 = .ok (.aload_n 0, 1) := by decide +kernel
theorem dX10_lay_10 : decode cX10_lay 10 = .ok (.getfield 51, 3) := by decide +kernel
theorem dX10_lay_13 : decode cX10_lay 13 = .ok (.iload_n 1, 1) := by decide +kernel
theorem dX10_lay_14 : decode cX10_lay 14 = .ok (.aaload, 1) := by decide +kernel
theorem dX10_lay_15 : decode cX10_lay 15 = .ok (.iload_n 2, 1) := by decide +kernel
theorem dX10_lay_16 : decode cX10_lay 16 = .ok (.invokevirtual 340, 3) := by decide +kernel
theorem dX10_lay_19 : decode cX10_lay 19 = .ok (.istore 4, 2) := by decide +kernel
theorem dX10_lay_21 : decode cX10_lay 21 = .ok (.iload 4, 2) := by decide +kernel
theorem dX10_lay_23 : decode cX10_lay 23 = .ok (.ifCond .eq 9, 3) := by decide +kernel
theorem dX10_lay_26 : decode cX10_lay 26 = .ok (.bipush (-10), 2) := by decide +kernel
theorem dX10_lay_28 : decode cX10_lay 28 = .ok (.iload 4, 2) := by decide +kernel
theorem dX10_lay_30 : decode cX10_lay 30 = .ok (.isub, 1) := by decide +kernel
theorem dX10_lay_31 : decode cX10_lay 31 = .ok (.ireturn, 1) := by decide +kernel
theorem dX10_lay_32 : decode cX10_lay 32 = .ok (.aload_n 0, 1) := by decide +kernel
theorem dX10_lay_33 : decode cX10_lay 33 = .ok (.getfield 51, 3) := by decide +kernel
theorem dX10_lay_36 : decode cX10_lay 36 = .ok (.iload_n 1, 1) := by decide +kernel
theorem dX10_lay_37 : decode cX10_lay 37 = .ok (.aaload, 1) := by decide +kernel
theorem dX10_lay_38 : decode cX10_lay 38 = .ok (.iload_n 2, 1) := by decide +kernel
theorem dX10_lay_39 : decode cX10_lay 39 = .ok (.iload_n 3, 1) := by decide +kernel
theorem dX10_lay_40 : decode cX10_lay 40 = .ok (.invokevirtual 343, 3) := by decide +kernel
theorem dX10_lay_43 : decode cX10_lay 43 = .ok (.iconst 1, 1) := by decide +kernel
theorem dX10_lay_44 : decode cX10_lay 44 = .ok (.ireturn, 1) := by decide +kernel
theorem dX10_read_0 : decode cX10_read 0 = .ok (.iload_n 1, 1) := by decide +kernel
theorem dX10_read_1 : decode cX10_read 1 = .ok (.invokestatic 331, 3) := by decide +kernel
theorem dX10_read_4 : decode cX10_read 4 = .ok (.ifCond .eq 22, 3) := by decide +kernel
theorem dX10_read_7 : decode cX10_read 7 = .ok (.iload_n 2, 1) := by decide +kernel
theorem dX10_read_8 : decode cX10_read 8 = .ok (.invokestatic 334, 3) := by decide +kernel
theorem dX10_read_11 : decode cX10_read 11 = .ok (.ifCond .eq 15, 3) := by decide +kernel
theorem dX10_read_14 : decode cX10_read 14 = .ok (.iload 4, 2) := by decide +kernel
theorem dX10_read_16 : decode cX10_read 16 = .ok (.ifCond .lt 10, 3) := by decide +kernel
theorem dX10_read_19 : decode cX10_read 19 = .ok (.iload 4, 2) := by decide +kernel
theorem dX10_read_21 : decode cX10_read 21 = .ok (.bipush 13, 2) := by decide +kernel
theorem dX10_read_23 : decode cX10_read 23 = .ok (.if_icmp .le 5, 3) := by decide +kernel
theorem dX10_read_26 : decode cX10_read 26 = .ok (.iconst (-1), 1) := by decide +kernel
theorem dX10_read_27 : decode cX10_read 27 = .ok (.ireturn, 1) := by decide +kernel
theorem dX10_read_28 : decode cX10_read 28 = .ok (.aload_n 0, 1) := by decide +kernel
theorem dX10_read_29 : decode cX10_read 29 = .ok (.getfield 51, 3) := by decide +kernel
theorem dX10_read_32 : decode cX10_read 32 = .ok (.iload_n 1, 1) := by decide +kernel
theorem dX10_read_33 : decode cX10_read 33 = .ok (.aaload, 1) := by decide +kernel
theorem dX10_read_34 : decode cX10_read 34 = .ok (.astore 5, 2) := by decide +kernel
theorem dX10_read_36 : decode cX10_read 36 = .ok (.aload_n 0, 1) := by decide +kernel
theorem dX10_read_37 : decode cX10_read 37 = .ok (.getfield 12, 3) := by decide +kernel
theorem dX10_read_40 : decode cX10_read 40 = .ok (.getfield 126, 3) := by decide +kernel
theorem dX10_read_43 : decode cX10_read 43 = .ok (.istore 6, 2) := by decide +kernel
theorem dX10_read_45 : decode cX10_read 45 = .ok (.iconst 0, 1) := by decide +kernel
theorem dX10_read_46 : decode cX10_read 46 = .ok (.istore 7, 2) := by decide +kernel
theorem dX10_read_48 : decode cX10_read 48 = .ok (.iconst 0, 1) := by decide +kernel
theorem dX10_read_49 : decode cX10_read 49 = .ok (.istore 8, 2) := by decide +kernel
theorem dX10_read_51 : decode cX10_read 51 = .ok (.iload 8, 2) := by decide +kernel
theorem dX10_read_53 : decode cX10_read 53 = .ok (.iload 4, 2) := by decide +kernel
theorem dX10_read_55 : decode cX10_read 55 = .ok (.if_icmp .ge 75, 3) := by decide +kernel
theorem dX10_read_58 : decode cX10_read 58 = .ok (.iload 7, 2) := by decide +kernel
theorem dX10_read_60 : decode cX10_read 60 = .ok (.ifCond .ne 70, 3) := by decide +kernel
theorem dX10_read_63 : decode cX10_read 63 = .ok (.iload_n 3, 1) := by decide +kernel
theorem dX10_read_64 : decode cX10_read 64 = .ok (.iconst 2, 1) := by decide +kernel
theorem dX10_read_65 : decode cX10_read 65 = .ok (.iload 8, 2) := by decide +kernel
theorem dX10_read_67 : decode cX10_read 67 = .ok (.imul, 1) := by decide +kernel
theorem dX10_read_68 : decode cX10_read 68 = .ok (.iadd, 1) := by decide +kernel
theorem dX10_read_69 : decode cX10_read 69 = .ok (.istore 9, 2) := by decide +kernel
theorem dX10_read_71 : decode cX10_read 71 = .ok (.aload 5, 2) := by decide +kernel
theorem dX10_read_73 : decode cX10_read 73 = .ok (.iload_n 2, 1) := by decide +kernel
theorem dX10_read_74 : decode cX10_read 74 = .ok (.iload 9, 2) := by decide +kernel
theorem dX10_read_76 : decode cX10_read 76 = .ok (.invokevirtual 346, 3) := by decide +kernel
theorem dX10_read_79 : decode cX10_read 79 = .ok (.istore 7, 2) := by decide +kernel
theorem dX10_read_81 : decode cX10_read 81 = .ok (.iload 7, 2) := by decide +kernel
theorem dX10_read_83 : decode cX10_read 83 = .ok (.ifCond .ne 41, 3) := by decide +kernel
theorem dX10_read_86 : decode cX10_read 86 = .ok (.aload_n 0, 1) := by decide +kernel
theorem dX10_read_87 : decode cX10_read 87 = .ok (.aload 5, 2) := by decide +kernel
theorem dX10_read_89 : decode cX10_read 89 = .ok (.iload 9, 2) := by decide +kernel
theorem dX10_read_91 : decode cX10_read 91 = .ok (.invokevirtual 349, 3) := by decide +kernel
theorem dX10_read_94 : decode cX10_read 94 = .ok (.aload 5, 2) := by decide +kernel
theorem dX10_read_96 : decode cX10_read 96 = .ok (.iload 9, 2) := by decide +kernel
theorem dX10_read_98 : decode cX10_read 98 = .ok (.iconst 1, 1) := by decide +kernel
theorem dX10_read_99 : decode cX10_read 99 = .ok (.iadd, 1) := by decide +kernel
theorem dX10_read_100 : decode cX10_read 100 = .ok (.invokevirtual 349, 3) := by decide +kernel
theorem dX10_read_103 : decode cX10_read 103 = .ok (.invokevirtual 352, 3) := by decide +kernel
theorem dX10_read_106 : decode cX10_read 106 = .ok (.ifCond .ne 18, 3) := by decide +kernel
theorem dX10_read_109 : decode cX10_read 109 = .ok (.aload_n 0, 1) := by decide +kernel
theorem dX10_read_110 : decode cX10_read 110 = .ok (.getfield 12, 3) := by decide +kernel
theorem dX10_read_113 : decode cX10_read 113 = .ok (.iload 6, 2) := by decide +kernel
theorem dX10_read_115 : decode cX10_read 115 = .ok (.putfield 126, 3) := by decide +kernel
theorem dX10_read_118 : decode cX10_read 118 = .ok (.bipush (-20), 2) := by decide +kernel
theorem dX10_read_120 : decode cX10_read 120 = .ok (.iload 8, 2) := by decide +kernel
theorem dX10_read_122 : decode cX10_read 122 = .ok (.isub, 1) := by decide +kernel
theorem dX10_read_123 : decode cX10_read 123 = .ok (.ireturn, 1) := by decide +kernel
theorem dX10_read_124 : decode cX10_read 124 = .ok (.iinc 8 1, 3) := by decide +kernel
theorem dX10_read_127 : decode cX10_read 127 = .ok (.goto (-76), 3) := by decide +kernel
theorem dX10_read_130 : decode cX10_read 130 = .ok (.aload_n 0, 1) := by decide +kernel
theorem dX10_read_131 : decode cX10_read 131 = .ok (.iload 7, 2) := by decide +kernel
theorem dX10_read_133 : decode cX10_read 133 = .ok (.putfield 355, 3) := by decide +kernel
theorem dX10_read_136 : decode cX10_read 136 = .ok (.aload_n 0, 1) := by decide +kernel
theorem dX10_read_137 : decode cX10_read 137 = .ok (.getfield 12, 3) := by decide +kernel
theorem dX10_read_140 : decode cX10_read 140 = .ok (.getfield 126, 3) := by decide +kernel
theorem dX10_read_143 : decode cX10_read 143 = .ok (.iload 6, 2) := by decide +kernel
theorem dX10_read_145 : decode cX10_read 145 = .ok (.isub, 1) := by decide +kernel
theorem dX10_read_146 : decode cX10_read 146 = .ok (.ireturn, 1) := by decide +kernel
theorem dX10_torn_0 : decode cX10_torn 0 = .ok (.aload_n 0, 1) := by decide +kernel
theorem dX10_torn_1 : decode cX10_torn 1 = .ok (.getfield 355, 3) := by decide +kernel
theorem dX10_torn_4 : decode cX10_torn 4 = .ok (.ireturn, 1) := by decide +kernel
theorem dX10_count_0 : decode cX10_count 0 = .ok (.iload_n 1, 1) := by decide +kernel
theorem dX10_count_1 : decode cX10_count 1 = .ok (.tableswitch 157 0 8 #[51, 60, 69, 78, 87, 95, 125, 136, 146], 51) := by decide +kernel
theorem dX10_count_52 : decode cX10_count 52 = .ok (.aload_n 0, 1) := by decide +kernel
theorem dX10_count_53 : decode cX10_count 53 = .ok (.getfield 12, 3) := by decide +kernel
theorem dX10_count_56 : decode cX10_count 56 = .ok (.iconst 0, 1) := by decide +kernel
theorem dX10_count_57 : decode cX10_count 57 = .ok (.invokevirtual 200, 3) := by decide +kernel
theorem dX10_count_60 : decode cX10_count 60 = .ok (.ireturn, 1) := by decide +kernel
theorem dX10_count_61 : decode cX10_count 61 = .ok (.aload_n 0, 1) := by decide +kernel
theorem dX10_count_62 : decode cX10_count 62 = .ok (.getfield 12, 3) := by decide +kernel
theorem dX10_count_65 : decode cX10_count 65 = .ok (.iconst 1, 1) := by decide +kernel
theorem dX10_count_66 : decode cX10_count 66 = .ok (.invokevirtual 200, 3) := by decide +kernel
theorem dX10_count_69 : decode cX10_count 69 = .ok (.ireturn, 1) := by decide +kernel
theorem dX10_count_70 : decode cX10_count 70 = .ok (.aload_n 0, 1) := by decide +kernel
theorem dX10_count_71 : decode cX10_count 71 = .ok (.getfield 12, 3) := by decide +kernel
theorem dX10_count_74 : decode cX10_count 74 = .ok (.iconst 2, 1) := by decide +kernel
theorem dX10_count_75 : decode cX10_count 75 = .ok (.invokevirtual 200, 3) := by decide +kernel
theorem dX10_count_78 : decode cX10_count 78 = .ok (.ireturn, 1) := by decide +kernel
theorem dX10_count_79 : decode cX10_count 79 = .ok (.aload_n 0, 1) := by decide +kernel
theorem dX10_count_80 : decode cX10_count 80 = .ok (.getfield 12, 3) := by decide +kernel
theorem dX10_count_83 : decode cX10_count 83 = .ok (.iconst 3, 1) := by decide +kernel
theorem dX10_count_84 : decode cX10_count 84 = .ok (.invokevirtual 200, 3) := by decide +kernel
theorem dX10_count_87 : decode cX10_count 87 = .ok (.ireturn, 1) := by decide +kernel
theorem dX10_count_88 : decode cX10_count 88 = .ok (.aload_n 0, 1) := by decide +kernel
theorem dX10_count_89 : decode cX10_count 89 = .ok (.getfield 12, 3) := by decide +kernel
theorem dX10_count_92 : decode cX10_count 92 = .ok (.getfield 271, 3) := by decide +kernel
theorem dX10_count_95 : decode cX10_count 95 = .ok (.ireturn, 1) := by decide +kernel
theorem dX10_count_96 : decode cX10_count 96 = .ok (.aload_n 0, 1) := by decide +kernel
theorem dX10_count_97 : decode cX10_count 97 = .ok (.getfield 23, 3) := by decide +kernel
theorem dX10_count_100 : decode cX10_count 100 = .ok (.iconst 0, 1) := by decide +kernel
theorem dX10_count_101 : decode cX10_count 101 = .ok (.baload, 1) := by decide +kernel
theorem dX10_count_102 : decode cX10_count 102 = .ok (.ifCond .eq 7, 3) := by decide +kernel
theorem dX10_count_105 : decode cX10_count 105 = .ok (.iconst 1, 1) := by decide +kernel
theorem dX10_count_106 : decode cX10_count 106 = .ok (.goto 4, 3) := by decide +kernel
theorem dX10_count_109 : decode cX10_count 109 = .ok (.iconst 0, 1) := by decide +kernel
theorem dX10_count_110 : decode cX10_count 110 = .ok (.aload_n 0, 1) := by decide +kernel
theorem dX10_count_111 : decode cX10_count 111 = .ok (.getfield 23, 3) := by decide +kernel
theorem dX10_count_114 : decode cX10_count 114 = .ok (.iconst 1, 1) := by decide +kernel
theorem dX10_count_115 : decode cX10_count 115 = .ok (.baload, 1) := by decide +kernel
theorem dX10_count_116 : decode cX10_count 116 = .ok (.ifCond .eq 7, 3) := by decide +kernel
theorem dX10_count_119 : decode cX10_count 119 = .ok (.iconst 1, 1) := by decide +kernel
theorem dX10_count_120 : decode cX10_count 120 = .ok (.goto 4, 3) := by decide +kernel
theorem dX10_count_123 : decode cX10_count 123 = .ok (.iconst 0, 1) := by decide +kernel
theorem dX10_count_124 : decode cX10_count 124 = .ok (.iadd, 1) := by decide +kernel
theorem dX10_count_125 : decode cX10_count 125 = .ok (.ireturn, 1) := by decide +kernel
theorem dX10_count_126 : decode cX10_count 126 = .ok (.aload_n 0, 1) := by decide +kernel
theorem dX10_count_127 : decode cX10_count 127 = .ok (.getfield 30, 3) := by decide +kernel
theorem dX10_count_130 : decode cX10_count 130 = .ok (.getfield 69, 3) := by decide +kernel
theorem dX10_count_133 : decode cX10_count 133 = .ok (.getfield 79, 3) := by decide +kernel
theorem dX10_count_136 : decode cX10_count 136 = .ok (.ireturn, 1) := by decide +kernel
theorem dX10_count_137 : decode cX10_count 137 = .ok (.aload_n 0, 1) := by decide +kernel
theorem dX10_count_138 : decode cX10_count 138 = .ok (.getfield 51, 3) := by decide +kernel
theorem dX10_count_141 : decode cX10_count 141 = .ok (.iconst 0, 1) := by decide +kernel
theorem dX10_count_142 : decode cX10_count 142 = .ok (.aaload, 1) := by decide +kernel
theorem dX10_count_143 : decode cX10_count 143 = .ok (.getfield 358, 3) := by decide +kernel
theorem dX10_count_146 : decode cX10_count 146 = .ok (.ireturn, 1) := by decide +kernel
theorem dX10_count_147 : decode cX10_count 147 = .ok (.aload_n 0, 1) := by decide +kernel
theorem dX10_count_148 : decode cX10_count 148 = .ok (.getfield 12, 3) := by decide +kernel
theorem dX10_count_151 : decode cX10_count 151 = .ok (.getfield 105, 3) := by decide +kernel
theorem dX10_count_154 : decode cX10_count 154 = .ok (.invokevirtual 359, 3) := by decide +kernel
theorem dX10_count_157 : decode cX10_count 157 = .ok (.ireturn, 1) := by decide +kernel
theorem dX10_count_158 : decode cX10_count 158 = .ok (.iconst (-1), 1) := by decide +kernel
theorem dX10_count_159 : decode cX10_count 159 = .ok (.ireturn, 1) := by decide +kernel
theorem dX10_bringSort_0 : decode cX10_bringSort 0 = .ok (.iload_n 1, 1) := by decide +kernel
theorem dX10_bringSort_1 : decode cX10_bringSort 1 = .ok (.iload_n 2, 1) := by decide +kernel
theorem dX10_bringSort_2 : decode cX10_bringSort 2 = .ok (.invokestatic 171, 3) := by decide +kernel
theorem dX10_bringSort_5 : decode cX10_bringSort 5 = .ok (.ifCond .eq 19, 3) := by decide +kernel
theorem dX10_bringSort_8 : decode cX10_bringSort 8 = .ok (.aload_n 0, 1) := by decide +kernel
theorem dX10_bringSort_9 : decode cX10_bringSort 9 = .ok (.getfield 12, 3) := by decide +kernel
theorem dX10_bringSort_12 : decode cX10_bringSort 12 = .ok (.iload_n 1, 1) := by decide +kernel
theorem dX10_bringSort_13 : decode cX10_bringSort 13 = .ok (.iload_n 2, 1) := by decide +kernel
theorem dX10_bringSort_14 : decode cX10_bringSort 14 = .ok (.invokevirtual 175, 3) := by decide +kernel
theorem dX10_bringSort_17 : decode cX10_bringSort 17 = .ok (.ifCond .eq 7, 3) := by decide +kernel
theorem dX10_bringSort_20 : decode cX10_bringSort 20 = .ok (.iconst 1, 1) := by decide +kernel
theorem dX10_bringSort_21 : decode cX10_bringSort 21 = .ok (.goto 4, 3) := by decide +kernel
theorem dX10_bringSort_24 : decode cX10_bringSort 24 = .ok (.iconst 0, 1) := by decide +kernel
theorem dX10_bringSort_25 : decode cX10_bringSort 25 = .ok (.ireturn, 1) := by decide +kernel
theorem dX10_isSort_0 : decode cX10_isSort 0 = .ok (.iload_n 0, 1) := by decide +kernel
theorem dX10_isSort_1 : decode cX10_isSort 1 = .ok (.iconst 1, 1) := by decide +kernel
theorem dX10_isSort_2 : decode cX10_isSort 2 = .ok (.if_icmp .lt 22, 3) := by decide +kernel
theorem dX10_isSort_5 : decode cX10_isSort 5 = .ok (.iload_n 0, 1) := by decide +kernel
theorem dX10_isSort_6 : decode cX10_isSort 6 = .ok (.bipush 9, 2) := by decide +kernel
theorem dX10_isSort_8 : decode cX10_isSort 8 = .ok (.if_icmp .gt 16, 3) := by decide +kernel
theorem dX10_isSort_11 : decode cX10_isSort 11 = .ok (.iload_n 1, 1) := by decide +kernel
theorem dX10_isSort_12 : decode cX10_isSort 12 = .ok (.ifCond .lt 12, 3) := by decide +kernel
theorem dX10_isSort_15 : decode cX10_isSort 15 = .ok (.iload_n 1, 1) := by decide +kernel
theorem dX10_isSort_16 : decode cX10_isSort 16 = .ok (.iconst 2, 1) := by decide +kernel
theorem dX10_isSort_17 : decode cX10_isSort 17 = .ok (.if_icmp .gt 7, 3) := by decide +kernel
theorem dX10_isSort_20 : decode cX10_isSort 20 = .ok (.iconst 1, 1) := by decide +kernel
theorem dX10_isSort_21 : decode cX10_isSort 21 = .ok (.goto 4, 3) := by decide +kernel
theorem dX10_isSort_24 : decode cX10_isSort 24 = .ok (.iconst 0, 1) := by decide +kernel
theorem dX10_isSort_25 : decode cX10_isSort 25 = .ok (.ireturn, 1) := by decide +kernel
theorem dX10_isHeat_0 : decode cX10_isHeat 0 = .ok (.iload_n 0, 1) := by decide +kernel
theorem dX10_isHeat_1 : decode cX10_isHeat 1 = .ok (.ifCond .lt 13, 3) := by decide +kernel
theorem dX10_isHeat_4 : decode cX10_isHeat 4 = .ok (.iload_n 0, 1) := by decide +kernel
theorem dX10_isHeat_5 : decode cX10_isHeat 5 = .ok (.bipush 99, 2) := by decide +kernel
theorem dX10_isHeat_7 : decode cX10_isHeat 7 = .ok (.if_icmp .gt 7, 3) := by decide +kernel
theorem dX10_isHeat_10 : decode cX10_isHeat 10 = .ok (.iconst 1, 1) := by decide +kernel
theorem dX10_isHeat_11 : decode cX10_isHeat 11 = .ok (.goto 4, 3) := by decide +kernel
theorem dX10_isHeat_14 : decode cX10_isHeat 14 = .ok (.iconst 0, 1) := by decide +kernel
theorem dX10_isHeat_15 : decode cX10_isHeat 15 = .ok (.ireturn, 1) := by decide +kernel
theorem dX10_isSheet_0 : decode cX10_isSheet 0 = .ok (.iload_n 0, 1) := by decide +kernel
theorem dX10_isSheet_1 : decode cX10_isSheet 1 = .ok (.ifCond .lt 12, 3) := by decide +kernel
theorem dX10_isSheet_4 : decode cX10_isSheet 4 = .ok (.iload_n 0, 1) := by decide +kernel
theorem dX10_isSheet_5 : decode cX10_isSheet 5 = .ok (.iconst 4, 1) := by decide +kernel
theorem dX10_isSheet_6 : decode cX10_isSheet 6 = .ok (.if_icmp .ge 7, 3) := by decide +kernel
theorem dX10_isSheet_9 : decode cX10_isSheet 9 = .ok (.iconst 1, 1) := by decide +kernel
theorem dX10_isSheet_10 : decode cX10_isSheet 10 = .ok (.goto 4, 3) := by decide +kernel
theorem dX10_isSheet_13 : decode cX10_isSheet 13 = .ok (.iconst 0, 1) := by decide +kernel
theorem dX10_isSheet_14 : decode cX10_isSheet 14 = .ok (.ireturn, 1) := by decide +kernel
theorem dX10_isLane_0 : decode cX10_isLane 0 = .ok (.iload_n 0, 1) := by decide +kernel
theorem dX10_isLane_1 : decode cX10_isLane 1 = .ok (.ifCond .lt 12, 3) := by decide +kernel
theorem dX10_isLane_4 : decode cX10_isLane 4 = .ok (.iload_n 0, 1) := by decide +kernel
theorem dX10_isLane_5 : decode cX10_isLane 5 = .ok (.iconst 2, 1) := by decide +kernel
theorem dX10_isLane_6 : decode cX10_isLane 6 = .ok (.if_icmp .gt 7, 3) := by decide +kernel
theorem dX10_isLane_9 : decode cX10_isLane 9 = .ok (.iconst 1, 1) := by decide +kernel
theorem dX10_isLane_10 : decode cX10_isLane 10 = .ok (.goto 4, 3) := by decide +kernel
theorem dX10_isLane_13 : decode cX10_isLane 13 = .ok (.iconst 0, 1) := by decide +kernel
theorem dX10_isLane_14 : decode cX10_isLane 14 = .ok (.ireturn, 1) := by decide +kernel
theorem dX10_stepSeed_0 : decode cX10_stepSeed 0 = .ok (.iload_n 0, 1) := by decide +kernel
theorem dX10_stepSeed_1 : decode cX10_stepSeed 1 = .ok (.ldc_w 362, 3) := by decide +kernel
theorem dX10_stepSeed_4 : decode cX10_stepSeed 4 = .ok (.imul, 1) := by decide +kernel
theorem dX10_stepSeed_5 : decode cX10_stepSeed 5 = .ok (.sipush 12345, 3) := by decide +kernel
theorem dX10_stepSeed_8 : decode cX10_stepSeed 8 = .ok (.iadd, 1) := by decide +kernel
theorem dX10_stepSeed_9 : decode cX10_stepSeed 9 = .ok (.ireturn, 1) := by decide +kernel
theorem dX10_seedBits_0 : decode cX10_seedBits 0 = .ok (.iload_n 0, 1) := by decide +kernel
theorem dX10_seedBits_1 : decode cX10_seedBits 1 = .ok (.bipush 16, 2) := by decide +kernel
theorem dX10_seedBits_3 : decode cX10_seedBits 3 = .ok (.iushr, 1) := by decide +kernel
theorem dX10_seedBits_4 : decode cX10_seedBits 4 = .ok (.sipush 32767, 3) := by decide +kernel
theorem dX10_seedBits_7 : decode cX10_seedBits 7 = .ok (.iand, 1) := by decide +kernel
theorem dX10_seedBits_8 : decode cX10_seedBits 8 = .ok (.ireturn, 1) := by decide +kernel
theorem dX10_fractionPart_0 : decode cX10_fractionPart 0 = .ok (.lload_n 0, 1) := by decide +kernel
theorem dX10_fractionPart_1 : decode cX10_fractionPart 1 = .ok (.lload_n 2, 1) := by decide +kernel
theorem dX10_fractionPart_2 : decode cX10_fractionPart 2 = .ok (.invokestatic 363, 3) := by decide +kernel
theorem dX10_fractionPart_5 : decode cX10_fractionPart 5 = .ok (.lstore 5, 2) := by decide +kernel
theorem dX10_fractionPart_7 : decode cX10_fractionPart 7 = .ok (.lload 5, 2) := by decide +kernel
theorem dX10_fractionPart_9 : decode cX10_fractionPart 9 = .ok (.lconst 0, 1) := by decide +kernel
theorem dX10_fractionPart_10 : decode cX10_fractionPart 10 = .ok (.lcmp, 1) := by decide +kernel
theorem dX10_fractionPart_11 : decode cX10_fractionPart 11 = .ok (.ifCond .ne 7, 3) := by decide +kernel
theorem dX10_fractionPart_14 : decode cX10_fractionPart 14 = .ok (.iload 4, 2) := by decide +kernel
theorem dX10_fractionPart_16 : decode cX10_fractionPart 16 = .ok (.i2l, 1) := by decide +kernel
theorem dX10_fractionPart_17 : decode cX10_fractionPart 17 = .ok (.lreturn, 1) := by decide +kernel
theorem dX10_fractionPart_18 : decode cX10_fractionPart 18 = .ok (.iload 4, 2) := by decide +kernel
theorem dX10_fractionPart_20 : decode cX10_fractionPart 20 = .ok (.ifCond .ne 7, 3) := by decide +kernel
theorem dX10_fractionPart_23 : decode cX10_fractionPart 23 = .ok (.lload_n 0, 1) := by decide +kernel
theorem dX10_fractionPart_24 : decode cX10_fractionPart 24 = .ok (.goto 4, 3) := by decide +kernel
theorem dX10_fractionPart_27 : decode cX10_fractionPart 27 = .ok (.lload_n 2, 1) := by decide +kernel
theorem dX10_fractionPart_28 : decode cX10_fractionPart 28 = .ok (.lload 5, 2) := by decide +kernel
theorem dX10_fractionPart_30 : decode cX10_fractionPart 30 = .ok (.ldiv, 1) := by decide +kernel
theorem dX10_fractionPart_31 : decode cX10_fractionPart 31 = .ok (.lreturn, 1) := by decide +kernel
theorem dX10_commonDivisor_0 : decode cX10_commonDivisor 0 = .ok (.lload_n 0, 1) := by decide +kernel
theorem dX10_commonDivisor_1 : decode cX10_commonDivisor 1 = .ok (.lstore 4, 2) := by decide +kernel
theorem dX10_commonDivisor_3 : decode cX10_commonDivisor 3 = .ok (.lload_n 2, 1) := by decide +kernel
theorem dX10_commonDivisor_4 : decode cX10_commonDivisor 4 = .ok (.lstore 6, 2) := by decide +kernel
theorem dX10_commonDivisor_6 : decode cX10_commonDivisor 6 = .ok (.iconst 0, 1) := by decide +kernel
theorem dX10_commonDivisor_7 : decode cX10_commonDivisor 7 = .ok (.istore 8, 2) := by decide +kernel
theorem dX10_commonDivisor_9 : decode cX10_commonDivisor 9 = .ok (.iload 8, 2) := by decide +kernel
theorem dX10_commonDivisor_11 : decode cX10_commonDivisor 11 = .ok (.sipush 200, 3) := by decide +kernel
theorem dX10_commonDivisor_14 : decode cX10_commonDivisor 14 = .ok (.if_icmp .ge 31, 3) := by decide +kernel
theorem dX10_commonDivisor_17 : decode cX10_commonDivisor 17 = .ok (.lload 6, 2) := by decide +kernel
theorem dX10_commonDivisor_19 : decode cX10_commonDivisor 19 = .ok (.lconst 0, 1) := by decide +kernel
theorem dX10_commonDivisor_20 : decode cX10_commonDivisor 20 = .ok (.lcmp, 1) := by decide +kernel
theorem dX10_commonDivisor_21 : decode cX10_commonDivisor 21 = .ok (.ifCond .eq 24, 3) := by decide +kernel
theorem dX10_commonDivisor_24 : decode cX10_commonDivisor 24 = .ok (.lload 4, 2) := by decide +kernel
theorem dX10_commonDivisor_26 : decode cX10_commonDivisor 26 = .ok (.lload 6, 2) := by decide +kernel
theorem dX10_commonDivisor_28 : decode cX10_commonDivisor 28 = .ok (.lrem, 1) := by decide +kernel
theorem dX10_commonDivisor_29 : decode cX10_commonDivisor 29 = .ok (.lstore 9, 2) := by decide +kernel
theorem dX10_commonDivisor_31 : decode cX10_commonDivisor 31 = .ok (.lload 6, 2) := by decide +kernel
theorem dX10_commonDivisor_33 : decode cX10_commonDivisor 33 = .ok (.lstore 4, 2) := by decide +kernel
theorem dX10_commonDivisor_35 : decode cX10_commonDivisor 35 = .ok (.lload 9, 2) := by decide +kernel
theorem dX10_commonDivisor_37 : decode cX10_commonDivisor 37 = .ok (.lstore 6, 2) := by decide +kernel
theorem dX10_commonDivisor_39 : decode cX10_commonDivisor 39 = .ok (.iinc 8 1, 3) := by decide +kernel
theorem dX10_commonDivisor_42 : decode cX10_commonDivisor 42 = .ok (.goto (-33), 3) := by decide +kernel
theorem dX10_commonDivisor_45 : decode cX10_commonDivisor 45 = .ok (.lload 4, 2) := by decide +kernel
theorem dX10_commonDivisor_47 : decode cX10_commonDivisor 47 = .ok (.lreturn, 1) := by decide +kernel
end
section
theorem dX11_init_0 : decode cX11_init 0 = .ok (.aload_n 0, 1) := by decide +kernel
theorem dX11_init_1 : decode cX11_init 1 = .ok (.invokespecial 1, 3) := by decide +kernel
theorem dX11_init_4 : decode cX11_init 4 = .ok (.aload_n 0, 1) := by decide +kernel
theorem dX11_init_5 : decode cX11_init 5 = .ok (.sipush 345, 3) := by decide +kernel
theorem dX11_init_8 : decode cX11_init 8 = .ok (.newarray .int, 2) := by decide +kernel
theorem dX11_init_10 : decode cX11_init 10 = .ok (.putfield 7, 3) := by decide +kernel
theorem dX11_init_13 : decode cX11_init 13 = .ok (.aload_n 0, 1) := by decide +kernel
theorem dX11_init_14 : decode cX11_init 14 = .ok (.bipush 115, 2) := by decide +kernel
theorem dX11_init_16 : decode cX11_init 16 = .ok (.newarray .int, 2) := by decide +kernel
theorem dX11_init_18 : decode cX11_init 18 = .ok (.putfield 13, 3) := by decide +kernel
theorem dX11_init_21 : decode cX11_init 21 = .ok (.aload_n 0, 1) := by decide +kernel
theorem dX11_init_22 : decode cX11_init 22 = .ok (.iconst 2, 1) := by decide +kernel
theorem dX11_init_23 : decode cX11_init 23 = .ok (.newarray .boolean, 2) := by decide +kernel
theorem dX11_init_25 : decode cX11_init 25 = .ok (.putfield 16, 3) := by decide +kernel
theorem dX11_init_28 : decode cX11_init 28 = .ok (.aload_n 0, 1) := by decide +kernel
theorem dX11_init_29 : decode cX11_init 29 = .ok (.bipush 115, 2) := by decide +kernel
theorem dX11_init_31 : decode cX11_init 31 = .ok (.newarray .int, 2) := by decide +kernel
theorem dX11_init_33 : decode cX11_init 33 = .ok (.putfield 20, 3) := by decide +kernel
theorem dX11_init_36 : decode cX11_init 36 = .ok (.aload_n 0, 1) := by decide +kernel
theorem dX11_init_37 : decode cX11_init 37 = .ok (.sipush 160, 3) := by decide +kernel
theorem dX11_init_40 : decode cX11_init 40 = .ok (.newarray .int, 2) := by decide +kernel
theorem dX11_init_42 : decode cX11_init 42 = .ok (.putfield 23, 3) := by decide +kernel
theorem dX11_init_45 : decode cX11_init 45 = .ok (.aload_n 0, 1) := by decide +kernel
theorem dX11_init_46 : decode cX11_init 46 = .ok (.bipush 6, 2) := by decide +kernel
theorem dX11_init_48 : decode cX11_init 48 = .ok (.newarray .int, 2) := by decide +kernel
theorem dX11_init_50 : decode cX11_init 50 = .ok (.putfield 26, 3) := by decide +kernel
theorem dX11_init_53 : decode cX11_init 53 = .ok (.aload_n 0, 1) := by decide +kernel
theorem dX11_init_54 : decode cX11_init 54 = .ok (.bipush 6, 2) := by decide +kernel
theorem dX11_init_56 : decode cX11_init 56 = .ok (.newarray .boolean, 2) := by decide +kernel
theorem dX11_init_58 : decode cX11_init 58 = .ok (.putfield 29, 3) := by decide +kernel
theorem dX11_init_61 : decode cX11_init 61 = .ok (.aload_n 0, 1) := by decide +kernel
theorem dX11_init_62 : decode cX11_init 62 = .ok (.bipush 64, 2) := by decide +kernel
theorem dX11_init_64 : decode cX11_init 64 = .ok (.newarray .boolean, 2) := by decide +kernel
theorem dX11_init_66 : decode cX11_init 66 = .ok (.putfield 32, 3) := by decide +kernel
theorem dX11_init_69 : decode cX11_init 69 = .ok (.aload_n 0, 1) := by decide +kernel
theorem dX11_init_70 : decode cX11_init 70 = .ok (.iconst 4, 1) := by decide +kernel
theorem dX11_init_71 : decode cX11_init 71 = .ok (.newarray .int, 2) := by decide +kernel
theorem dX11_init_73 : decode cX11_init 73 = .ok (.putfield 35, 3) := by decide +kernel
theorem dX11_init_76 : decode cX11_init 76 = .ok (.aload_n 0, 1) := by decide +kernel
theorem dX11_init_77 : decode cX11_init 77 = .ok (.iconst 4, 1) := by decide +kernel
theorem dX11_init_78 : decode cX11_init 78 = .ok (.newarray .int, 2) := by decide +kernel
theorem dX11_init_80 : decode cX11_init 80 = .ok (.putfield 38, 3) := by decide +kernel
theorem dX11_init_83 : decode cX11_init 83 = .ok (.aload_n 0, 1) := by decide +kernel
theorem dX11_init_84 : decode cX11_init 84 = .ok (.sipush 160, 3) := by decide +kernel
theorem dX11_init_87 : decode cX11_init 87 = .ok (.newarray .int, 2) := by decide +kernel
theorem dX11_init_89 : decode cX11_init 89 = .ok (.putfield 41, 3) := by decide +kernel
theorem dX11_init_92 : decode cX11_init 92 = .ok (.iconst 0, 1) := by decide +kernel
theorem dX11_init_93 : decode cX11_init 93 = .ok (.istore_n 1, 1) := by decide +kernel
theorem dX11_init_94 : decode cX11_init 94 = .ok (.iload_n 1, 1) := by decide +kernel
theorem dX11_init_95 : decode cX11_init 95 = .ok (.iconst 4, 1) := by decide +kernel
theorem dX11_init_96 : decode cX11_init 96 = .ok (.if_icmp .ge 17, 3) := by decide +kernel
theorem dX11_init_99 : decode cX11_init 99 = .ok (.aload_n 0, 1) := by decide +kernel
theorem dX11_init_100 : decode cX11_init 100 = .ok (.getfield 35, 3) := by decide +kernel
theorem dX11_init_103 : decode cX11_init 103 = .ok (.iload_n 1, 1) := by decide +kernel
theorem dX11_init_104 : decode cX11_init 104 = .ok (.bipush (-4), 2) := by decide +kernel
theorem dX11_init_106 : decode cX11_init 106 = .ok (.iastore, 1) := by decide +kernel
theorem dX11_init_107 : decode cX11_init 107 = .ok (.iinc 1 1, 3) := by decide +kernel
theorem dX11_init_110 : decode cX11_init 110 = .ok (.goto (-16), 3) := by decide +kernel
theorem dX11_init_113 : decode cX11_init 113 = .ok (.aload_n 0, 1) := by decide +kernel
theorem dX11_init_114 : decode cX11_init 114 = .ok (.invokevirtual 44, 3) := by decide +kernel
theorem dX11_init_117 : decode cX11_init 117 = .ok (.aload_n 0, 1) := by decide +kernel
theorem dX11_init_118 : decode cX11_init 118 = .ok (.invokevirtual 47, 3) := by decide +kernel
theorem dX11_init_121 : decode cX11_init 121 = .ok (.return_, 1) := by decide +kernel
theorem dX11_in_0 : decode cX11_in 0 = .ok (.lload_n 0, 1) := by decide +kernel
theorem dX11_in_1 : decode cX11_in 1 = .ok (.lload_n 2, 1) := by decide +kernel
theorem dX11_in_2 : decode cX11_in 2 = .ok (.lcmp, 1) := by decide +kernel
theorem dX11_in_3 : decode cX11_in 3 = .ok (.ifCond .lt 14, 3) := by decide +kernel
theorem dX11_in_6 : decode cX11_in 6 = .ok (.lload_n 0, 1) := by decide +kernel
theorem dX11_in_7 : decode cX11_in 7 = .ok (.lload 4, 2) := by decide +kernel
theorem dX11_in_9 : decode cX11_in 9 = .ok (.lcmp, 1) := by decide +kernel
theorem dX11_in_10 : decode cX11_in 10 = .ok (.ifCond .gt 7, 3) := by decide +kernel
theorem dX11_in_13 : decode cX11_in 13 = .ok (.iconst 1, 1) := by decide +kernel
theorem dX11_in_14 : decode cX11_in 14 = .ok (.goto 4, 3) := by decide +kernel
theorem dX11_in_17 : decode cX11_in 17 = .ok (.iconst 0, 1) := by decide +kernel
theorem dX11_in_18 : decode cX11_in 18 = .ok (.ireturn, 1) := by decide +kernel
theorem dX11_flag_0 : decode cX11_flag 0 = .ok (.iload_n 0, 1) := by decide +kernel
theorem dX11_flag_1 : decode cX11_flag 1 = .ok (.ifCond .eq 7, 3) := by decide +kernel
theorem dX11_flag_4 : decode cX11_flag 4 = .ok (.iconst 1, 1) := by decide +kernel
theorem dX11_flag_5 : decode cX11_flag 5 = .ok (.goto 4, 3) := by decide +kernel
theorem dX11_flag_8 : decode cX11_flag 8 = .ok (.iconst 0, 1) := by decide +kernel
theorem dX11_flag_9 : decode cX11_flag 9 = .ok (.ireturn, 1) := by decide +kernel
theorem dX11_firstDraft_0 : decode cX11_firstDraft 0 = .ok (.iconst 0, 1) := by decide +kernel
theorem dX11_firstDraft_1 : decode cX11_firstDraft 1 = .ok (.istore_n 1, 1) := by decide +kernel
theorem dX11_firstDraft_2 : decode cX11_firstDraft 2 = .ok (.iload_n 1, 1) := by decide +kernel
theorem dX11_firstDraft_3 : decode cX11_firstDraft 3 = .ok (.bipush 115, 2) := by decide +kernel
theorem dX11_firstDraft_5 : decode cX11_firstDraft 5 = .ok (.if_icmp .ge 16, 3) := by decide +kernel
theorem dX11_firstDraft_8 : decode cX11_firstDraft 8 = .ok (.aload_n 0, 1) := by decide +kernel
theorem dX11_firstDraft_9 : decode cX11_firstDraft 9 = .ok (.getfield 20, 3) := by decide +kernel
theorem dX11_firstDraft_12 : decode cX11_firstDraft 12 = .ok (.iload_n 1, 1) := by decide +kernel
theorem dX11_firstDraft_13 : decode cX11_firstDraft 13 = .ok (.iconst 0, 1) := by decide +kernel
theorem dX11_firstDraft_14 : decode cX11_firstDraft 14 = .ok (.iastore, 1) := by decide +kernel
theorem dX11_firstDraft_15 : decode cX11_firstDraft 15 = .ok (.iinc 1 1, 3) := by decide +kernel
theorem dX11_firstDraft_18 : decode cX11_firstDraft 18 = .ok (.goto (-16), 3) := by decide +kernel
theorem dX11_firstDraft_21 : decode cX11_firstDraft 21 = .ok (.iconst 0, 1) := by decide +kernel
theorem dX11_firstDraft_22 : decode cX11_firstDraft 22 = .ok (.istore_n 1, 1) := by decide +kernel
theorem dX11_firstDraft_23 : decode cX11_firstDraft 23 = .ok (.iload_n 1, 1) := by decide +kernel
theorem dX11_firstDraft_24 : decode cX11_firstDraft 24 = .ok (.bipush 6, 2) := by decide +kernel
theorem dX11_firstDraft_26 : decode cX11_firstDraft 26 = .ok (.if_icmp .ge 42, 3) := by decide +kernel
theorem dX11_firstDraft_29 : decode cX11_firstDraft 29 = .ok (.aload_n 0, 1) := by decide +kernel
theorem dX11_firstDraft_30 : decode cX11_firstDraft 30 = .ok (.getfield 20, 3) := by decide +kernel
theorem dX11_firstDraft_33 : decode cX11_firstDraft 33 = .ok (.bipush 47, 2) := by decide +kernel
theorem dX11_firstDraft_35 : decode cX11_firstDraft 35 = .ok (.bipush 8, 2) := by decide +kernel
theorem dX11_firstDraft_37 : decode cX11_firstDraft 37 = .ok (.iload_n 1, 1) := by decide +kernel
theorem dX11_firstDraft_38 : decode cX11_firstDraft 38 = .ok (.imul, 1) := by decide +kernel
theorem dX11_firstDraft_39 : decode cX11_firstDraft 39 = .ok (.iadd, 1) := by decide +kernel
theorem dX11_firstDraft_40 : decode cX11_firstDraft 40 = .ok (.iconst 2, 1) := by decide +kernel
theorem dX11_firstDraft_41 : decode cX11_firstDraft 41 = .ok (.iadd, 1) := by decide +kernel
theorem dX11_firstDraft_42 : decode cX11_firstDraft 42 = .ok (.bipush (-4), 2) := by decide +kernel
theorem dX11_firstDraft_44 : decode cX11_firstDraft 44 = .ok (.iastore, 1) := by decide +kernel
theorem dX11_firstDraft_45 : decode cX11_firstDraft 45 = .ok (.aload_n 0, 1) := by decide +kernel
theorem dX11_firstDraft_46 : decode cX11_firstDraft 46 = .ok (.getfield 20, 3) := by decide +kernel
theorem dX11_firstDraft_49 : decode cX11_firstDraft 49 = .ok (.bipush 47, 2) := by decide +kernel
theorem dX11_firstDraft_51 : decode cX11_firstDraft 51 = .ok (.bipush 8, 2) := by decide +kernel
theorem dX11_firstDraft_53 : decode cX11_firstDraft 53 = .ok (.iload_n 1, 1) := by decide +kernel
theorem dX11_firstDraft_54 : decode cX11_firstDraft 54 = .ok (.imul, 1) := by decide +kernel
theorem dX11_firstDraft_55 : decode cX11_firstDraft 55 = .ok (.iadd, 1) := by decide +kernel
theorem dX11_firstDraft_56 : decode cX11_firstDraft 56 = .ok (.bipush 7, 2) := by decide +kernel
theorem dX11_firstDraft_58 : decode cX11_firstDraft 58 = .ok (.iadd, 1) := by decide +kernel
theorem dX11_firstDraft_59 : decode cX11_firstDraft 59 = .ok (.bipush (-4), 2) := by decide +kernel
theorem dX11_firstDraft_61 : decode cX11_firstDraft 61 = .ok (.iastore, 1) := by decide +kernel
theorem dX11_firstDraft_62 : decode cX11_firstDraft 62 = .ok (.iinc 1 1, 3) := by decide +kernel
theorem dX11_firstDraft_65 : decode cX11_firstDraft 65 = .ok (.goto (-42), 3) := by decide +kernel
theorem dX11_firstDraft_68 : decode cX11_firstDraft 68 = .ok (.aload_n 0, 1) := by decide +kernel
theorem dX11_firstDraft_69 : decode cX11_firstDraft 69 = .ok (.getfield 20, 3) := by decide +kernel
theorem dX11_firstDraft_72 : decode cX11_firstDraft 72 = .ok (.bipush 24, 2) := by decide +kernel
theorem dX11_firstDraft_74 : decode cX11_firstDraft 74 = .ok (.iconst 1, 1) := by decide +kernel
theorem dX11_firstDraft_75 : decode cX11_firstDraft 75 = .ok (.iastore, 1) := by decide +kernel
theorem dX11_firstDraft_76 : decode cX11_firstDraft 76 = .ok (.aload_n 0, 1) := by decide +kernel
theorem dX11_firstDraft_77 : decode cX11_firstDraft 77 = .ok (.getfield 20, 3) := by decide +kernel
theorem dX11_firstDraft_80 : decode cX11_firstDraft 80 = .ok (.bipush 25, 2) := by decide +kernel
theorem dX11_firstDraft_82 : decode cX11_firstDraft 82 = .ok (.iconst 1, 1) := by decide +kernel
theorem dX11_firstDraft_83 : decode cX11_firstDraft 83 = .ok (.iastore, 1) := by decide +kernel
theorem dX11_firstDraft_84 : decode cX11_firstDraft 84 = .ok (.aload_n 0, 1) := by decide +kernel
theorem dX11_firstDraft_85 : decode cX11_firstDraft 85 = .ok (.iconst 3, 1) := by decide +kernel
theorem dX11_firstDraft_86 : decode cX11_firstDraft 86 = .ok (.putfield 50, 3) := by decide +kernel
theorem dX11_firstDraft_89 : decode cX11_firstDraft 89 = .ok (.aload_n 0, 1) := by decide +kernel
theorem dX11_firstDraft_90 : decode cX11_firstDraft 90 = .ok (.iconst 0, 1) := by decide +kernel
theorem dX11_firstDraft_91 : decode cX11_firstDraft 91 = .ok (.putfield 54, 3) := by decide +kernel
theorem dX11_firstDraft_94 : decode cX11_firstDraft 94 = .ok (.aload_n 0, 1) := by decide +kernel
theorem dX11_firstDraft_95 : decode cX11_firstDraft 95 = .ok (.iconst 0, 1) := by decide +kernel
theorem dX11_firstDraft_96 : decode cX11_firstDraft 96 = .ok (.putfield 58, 3) := by decide +kernel
theorem dX11_firstDraft_99 : decode cX11_firstDraft 99 = .ok (.aload_n 0, 1) := by decide +kernel
theorem dX11_firstDraft_100 : decode cX11_firstDraft 100 = .ok (.iconst 0, 1) := by decide +kernel
theorem dX11_firstDraft_101 : decode cX11_firstDraft 101 = .ok (.putfield 61, 3) := by decide +kernel
theorem dX11_firstDraft_104 : decode cX11_firstDraft 104 = .ok (.aload_n 0, 1) := by decide +kernel
theorem dX11_firstDraft_105 : decode cX11_firstDraft 105 = .ok (.bipush (-4), 2) := by decide +kernel
theorem dX11_firstDraft_107 : decode cX11_firstDraft 107 = .ok (.putfield 64, 3) := by decide +kernel
theorem dX11_firstDraft_110 : decode cX11_firstDraft 110 = .ok (.aload_n 0, 1) := by decide +kernel
theorem dX11_firstDraft_111 : decode cX11_firstDraft 111 = .ok (.bipush (-4), 2) := by decide +kernel
theorem dX11_firstDraft_113 : decode cX11_firstDraft 113 = .ok (.putfield 67, 3) := by decide +kernel
theorem dX11_firstDraft_116 : decode cX11_firstDraft 116 = .ok (.aload_n 0, 1) := by decide +kernel
theorem dX11_firstDraft_117 : decode cX11_firstDraft 117 = .ok (.bipush (-4), 2) := by decide +kernel
theorem dX11_firstDraft_119 : decode cX11_firstDraft 119 = .ok (.putfield 70, 3) := by decide +kernel
theorem dX11_firstDraft_122 : decode cX11_firstDraft 122 = .ok (.return_, 1) := by decide +kernel
theorem dX11_keepDraft_0 : decode cX11_keepDraft 0 = .ok (.iconst 0, 1) := by decide +kernel
theorem dX11_keepDraft_1 : decode cX11_keepDraft 1 = .ok (.istore_n 1, 1) := by decide +kernel
theorem dX11_keepDraft_2 : decode cX11_keepDraft 2 = .ok (.iload_n 1, 1) := by decide +kernel
theorem dX11_keepDraft_3 : decode cX11_keepDraft 3 = .ok (.bipush 115, 2) := by decide +kernel
theorem dX11_keepDraft_5 : decode cX11_keepDraft 5 = .ok (.if_icmp .ge 21, 3) := by decide +kernel
theorem dX11_keepDraft_8 : decode cX11_keepDraft 8 = .ok (.aload_n 0, 1) := by decide +kernel
theorem dX11_keepDraft_9 : decode cX11_keepDraft 9 = .ok (.getfield 7, 3) := by decide +kernel
theorem dX11_keepDraft_12 : decode cX11_keepDraft 12 = .ok (.iload_n 1, 1) := by decide +kernel
theorem dX11_keepDraft_13 : decode cX11_keepDraft 13 = .ok (.aload_n 0, 1) := by decide +kernel
theorem dX11_keepDraft_14 : decode cX11_keepDraft 14 = .ok (.getfield 20, 3) := by decide +kernel
theorem dX11_keepDraft_17 : decode cX11_keepDraft 17 = .ok (.iload_n 1, 1) := by decide +kernel
theorem dX11_keepDraft_18 : decode cX11_keepDraft 18 = .ok (.iaload, 1) := by decide +kernel
theorem dX11_keepDraft_19 : decode cX11_keepDraft 19 = .ok (.iastore, 1) := by decide +kernel
theorem dX11_keepDraft_20 : decode cX11_keepDraft 20 = .ok (.iinc 1 1, 3) := by decide +kernel
theorem dX11_keepDraft_23 : decode cX11_keepDraft 23 = .ok (.goto (-21), 3) := by decide +kernel
theorem dX11_keepDraft_26 : decode cX11_keepDraft 26 = .ok (.aload_n 0, 1) := by decide +kernel
theorem dX11_keepDraft_27 : decode cX11_keepDraft 27 = .ok (.aload_n 0, 1) := by decide +kernel
theorem dX11_keepDraft_28 : decode cX11_keepDraft 28 = .ok (.getfield 50, 3) := by decide +kernel
theorem dX11_keepDraft_31 : decode cX11_keepDraft 31 = .ok (.putfield 73, 3) := by decide +kernel
theorem dX11_keepDraft_34 : decode cX11_keepDraft 34 = .ok (.aload_n 0, 1) := by decide +kernel
theorem dX11_keepDraft_35 : decode cX11_keepDraft 35 = .ok (.getfield 16, 3) := by decide +kernel
theorem dX11_keepDraft_38 : decode cX11_keepDraft 38 = .ok (.iconst 0, 1) := by decide +kernel
theorem dX11_keepDraft_39 : decode cX11_keepDraft 39 = .ok (.iconst 0, 1) := by decide +kernel
theorem dX11_keepDraft_40 : decode cX11_keepDraft 40 = .ok (.bastore, 1) := by decide +kernel
theorem dX11_keepDraft_41 : decode cX11_keepDraft 41 = .ok (.aload_n 0, 1) := by decide +kernel
theorem dX11_keepDraft_42 : decode cX11_keepDraft 42 = .ok (.getfield 16, 3) := by decide +kernel
theorem dX11_keepDraft_45 : decode cX11_keepDraft 45 = .ok (.iconst 1, 1) := by decide +kernel
theorem dX11_keepDraft_46 : decode cX11_keepDraft 46 = .ok (.iconst 0, 1) := by decide +kernel
theorem dX11_keepDraft_47 : decode cX11_keepDraft 47 = .ok (.bastore, 1) := by decide +kernel
theorem dX11_keepDraft_48 : decode cX11_keepDraft 48 = .ok (.return_, 1) := by decide +kernel
theorem dX11_feed_0 : decode cX11_feed 0 = .ok (.iload_n 1, 1) := by decide +kernel
theorem dX11_feed_1 : decode cX11_feed 1 = .ok (.i2l, 1) := by decide +kernel
theorem dX11_feed_2 : decode cX11_feed 2 = .ok (.lconst 0, 1) := by decide +kernel
theorem dX11_feed_3 : decode cX11_feed 3 = .ok (.ldc2_w 76, 3) := by decide +kernel
theorem dX11_feed_6 : decode cX11_feed 6 = .ok (.invokestatic 78, 3) := by decide +kernel
theorem dX11_feed_9 : decode cX11_feed 9 = .ok (.ifCond .ne 5, 3) := by decide +kernel
theorem dX11_feed_12 : decode cX11_feed 12 = .ok (.iconst (-1), 1) := by decide +kernel
theorem dX11_feed_13 : decode cX11_feed 13 = .ok (.ireturn, 1) := by decide +kernel
theorem dX11_feed_14 : decode cX11_feed 14 = .ok (.aload_n 0, 1) := by decide +kernel
theorem dX11_feed_15 : decode cX11_feed 15 = .ok (.getfield 82, 3) := by decide +kernel
theorem dX11_feed_18 : decode cX11_feed 18 = .ok (.sipush 160, 3) := by decide +kernel
theorem dX11_feed_21 : decode cX11_feed 21 = .ok (.if_icmp .ne 6, 3) := by decide +kernel
theorem dX11_feed_24 : decode cX11_feed 24 = .ok (.bipush (-3), 2) := by decide +kernel
theorem dX11_feed_26 : decode cX11_feed 26 = .ok (.ireturn, 1) := by decide +kernel
theorem dX11_feed_27 : decode cX11_feed 27 = .ok (.aload_n 0, 1) := by decide +kernel
theorem dX11_feed_28 : decode cX11_feed 28 = .ok (.getfield 23, 3) := by decide +kernel
theorem dX11_feed_31 : decode cX11_feed 31 = .ok (.aload_n 0, 1) := by decide +kernel
theorem dX11_feed_32 : decode cX11_feed 32 = .ok (.getfield 82, 3) := by decide +kernel
theorem dX11_feed_35 : decode cX11_feed 35 = .ok (.iload_n 1, 1) := by decide +kernel
theorem dX11_feed_36 : decode cX11_feed 36 = .ok (.iastore, 1) := by decide +kernel
theorem dX11_feed_37 : decode cX11_feed 37 = .ok (.aload_n 0, 1) := by decide +kernel
theorem dX11_feed_38 : decode cX11_feed 38 = .ok (.dup, 1) := by decide +kernel
theorem dX11_feed_39 : decode cX11_feed 39 = .ok (.getfield 82, 3) := by decide +kernel
theorem dX11_feed_42 : decode cX11_feed 42 = .ok (.iconst 1, 1) := by decide +kernel
theorem dX11_feed_43 : decode cX11_feed 43 = .ok (.iadd, 1) := by decide +kernel
theorem dX11_feed_44 : decode cX11_feed 44 = .ok (.putfield 82, 3) := by decide +kernel
theorem dX11_feed_47 : decode cX11_feed 47 = .ok (.aload_n 0, 1) := by decide +kernel
theorem dX11_feed_48 : decode cX11_feed 48 = .ok (.getfield 82, 3) := by decide +kernel
theorem dX11_feed_51 : decode cX11_feed 51 = .ok (.ireturn, 1) := by decide +kernel
theorem dX11_end_0 : decode cX11_end 0 = .ok (.iload_n 1, 1) := by decide +kernel
theorem dX11_end_1 : decode cX11_end 1 = .ok (.i2l, 1) := by decide +kernel
theorem dX11_end_2 : decode cX11_end 2 = .ok (.lconst 0, 1) := by decide +kernel
theorem dX11_end_3 : decode cX11_end 3 = .ok (.aload_n 0, 1) := by decide +kernel
theorem dX11_end_4 : decode cX11_end 4 = .ok (.getfield 82, 3) := by decide +kernel
theorem dX11_end_7 : decode cX11_end 7 = .ok (.i2l, 1) := by decide +kernel
theorem dX11_end_8 : decode cX11_end 8 = .ok (.invokestatic 78, 3) := by decide +kernel
theorem dX11_end_11 : decode cX11_end 11 = .ok (.ifCond .ne 5, 3) := by decide +kernel
theorem dX11_end_14 : decode cX11_end 14 = .ok (.iconst (-1), 1) := by decide +kernel
theorem dX11_end_15 : decode cX11_end 15 = .ok (.ireturn, 1) := by decide +kernel
theorem dX11_end_16 : decode cX11_end 16 = .ok (.aload_n 0, 1) := by decide +kernel
theorem dX11_end_17 : decode cX11_end 17 = .ok (.getfield 82, 3) := by decide +kernel
theorem dX11_end_20 : decode cX11_end 20 = .ok (.istore_n 2, 1) := by decide +kernel
theorem dX11_end_21 : decode cX11_end 21 = .ok (.aload_n 0, 1) := by decide +kernel
theorem dX11_end_22 : decode cX11_end 22 = .ok (.iload_n 1, 1) := by decide +kernel
theorem dX11_end_23 : decode cX11_end 23 = .ok (.putfield 82, 3) := by decide +kernel
theorem dX11_end_26 : decode cX11_end 26 = .ok (.iload_n 2, 1) := by decide +kernel
theorem dX11_end_27 : decode cX11_end 27 = .ok (.ireturn, 1) := by decide +kernel
theorem dX11_needs_0 : decode cX11_needs 0 = .ok (.iload_n 1, 1) := by decide +kernel
theorem dX11_needs_1 : decode cX11_needs 1 = .ok (.ifCond .ne 23, 3) := by decide +kernel
theorem dX11_needs_4 : decode cX11_needs 4 = .ok (.aload_n 0, 1) := by decide +kernel
theorem dX11_needs_5 : decode cX11_needs 5 = .ok (.getfield 85, 3) := by decide +kernel
theorem dX11_needs_8 : decode cX11_needs 8 = .ok (.ifCond .ne 16, 3) := by decide +kernel
theorem dX11_needs_11 : decode cX11_needs 11 = .ok (.aload_n 0, 1) := by decide +kernel
theorem dX11_needs_12 : decode cX11_needs 12 = .ok (.iload_n 2, 1) := by decide +kernel
theorem dX11_needs_13 : decode cX11_needs 13 = .ok (.putfield 85, 3) := by decide +kernel
theorem dX11_needs_16 : decode cX11_needs 16 = .ok (.aload_n 0, 1) := by decide +kernel
theorem dX11_needs_17 : decode cX11_needs 17 = .ok (.aload_n 0, 1) := by decide +kernel
theorem dX11_needs_18 : decode cX11_needs 18 = .ok (.getfield 88, 3) := by decide +kernel
theorem dX11_needs_21 : decode cX11_needs 21 = .ok (.putfield 91, 3) := by decide +kernel
theorem dX11_needs_24 : decode cX11_needs 24 = .ok (.return_, 1) := by decide +kernel
theorem dX11_look_0 : decode cX11_look 0 = .ok (.iload_n 1, 1) := by decide +kernel
theorem dX11_look_1 : decode cX11_look 1 = .ok (.aload_n 0, 1) := by decide +kernel
theorem dX11_look_2 : decode cX11_look 2 = .ok (.getfield 82, 3) := by decide +kernel
theorem dX11_look_5 : decode cX11_look 5 = .ok (.if_icmp .ge 12, 3) := by decide +kernel
theorem dX11_look_8 : decode cX11_look 8 = .ok (.aload_n 0, 1) := by decide +kernel
theorem dX11_look_9 : decode cX11_look 9 = .ok (.getfield 23, 3) := by decide +kernel
theorem dX11_look_12 : decode cX11_look 12 = .ok (.iload_n 1, 1) := by decide +kernel
theorem dX11_look_13 : decode cX11_look 13 = .ok (.iaload, 1) := by decide +kernel
theorem dX11_look_14 : decode cX11_look 14 = .ok (.goto 4, 3) := by decide +kernel
theorem dX11_look_17 : decode cX11_look 17 = .ok (.iconst (-1), 1) := by decide +kernel
theorem dX11_look_18 : decode cX11_look 18 = .ok (.ireturn, 1) := by decide +kernel
theorem dX11_is_0 : decode cX11_is 0 = .ok (.aload_n 0, 1) := by decide +kernel
theorem dX11_is_1 : decode cX11_is 1 = .ok (.getfield 94, 3) := by decide +kernel
theorem dX11_is_4 : decode cX11_is 4 = .ok (.aload_n 0, 1) := by decide +kernel
theorem dX11_is_5 : decode cX11_is 5 = .ok (.getfield 88, 3) := by decide +kernel
theorem dX11_is_8 : decode cX11_is 8 = .ok (.isub, 1) := by decide +kernel
theorem dX11_is_9 : decode cX11_is 9 = .ok (.iload_n 1, 1) := by decide +kernel
theorem dX11_is_10 : decode cX11_is 10 = .ok (.if_icmp .ne 48, 3) := by decide +kernel
theorem dX11_is_13 : decode cX11_is 13 = .ok (.aload_n 0, 1) := by decide +kernel
theorem dX11_is_14 : decode cX11_is 14 = .ok (.aload_n 0, 1) := by decide +kernel
theorem dX11_is_15 : decode cX11_is 15 = .ok (.getfield 88, 3) := by decide +kernel
theorem dX11_is_18 : decode cX11_is 18 = .ok (.invokevirtual 97, 3) := by decide +kernel
theorem dX11_is_21 : decode cX11_is 21 = .ok (.iload_n 2, 1) := by decide +kernel
theorem dX11_is_22 : decode cX11_is 22 = .ok (.if_icmp .ne 36, 3) := by decide +kernel
theorem dX11_is_25 : decode cX11_is 25 = .ok (.aload_n 0, 1) := by decide +kernel
theorem dX11_is_26 : decode cX11_is 26 = .ok (.aload_n 0, 1) := by decide +kernel
theorem dX11_is_27 : decode cX11_is 27 = .ok (.getfield 88, 3) := by decide +kernel
theorem dX11_is_30 : decode cX11_is 30 = .ok (.iconst 1, 1) := by decide +kernel
theorem dX11_is_31 : decode cX11_is 31 = .ok (.iadd, 1) := by decide +kernel
theorem dX11_is_32 : decode cX11_is 32 = .ok (.invokevirtual 97, 3) := by decide +kernel
theorem dX11_is_35 : decode cX11_is 35 = .ok (.iload_n 3, 1) := by decide +kernel
theorem dX11_is_36 : decode cX11_is 36 = .ok (.if_icmp .ne 22, 3) := by decide +kernel
theorem dX11_is_39 : decode cX11_is 39 = .ok (.aload_n 0, 1) := by decide +kernel
theorem dX11_is_40 : decode cX11_is 40 = .ok (.aload_n 0, 1) := by decide +kernel
theorem dX11_is_41 : decode cX11_is 41 = .ok (.getfield 88, 3) := by decide +kernel
theorem dX11_is_44 : decode cX11_is 44 = .ok (.iconst 2, 1) := by decide +kernel
theorem dX11_is_45 : decode cX11_is 45 = .ok (.iadd, 1) := by decide +kernel
theorem dX11_is_46 : decode cX11_is 46 = .ok (.invokevirtual 97, 3) := by decide +kernel
theorem dX11_is_49 : decode cX11_is 49 = .ok (.iload 4, 2) := by decide +kernel
theorem dX11_is_51 : decode cX11_is 51 = .ok (.if_icmp .ne 7, 3) := by decide +kernel
theorem dX11_is_54 : decode cX11_is 54 = .ok (.iconst 1, 1) := by decide +kernel
theorem dX11_is_55 : decode cX11_is 55 = .ok (.goto 4, 3) := by decide +kernel
theorem dX11_is_58 : decode cX11_is 58 = .ok (.iconst 0, 1) := by decide +kernel
theorem dX11_is_59 : decode cX11_is 59 = .ok (.ireturn, 1) := by decide +kernel
theorem dX11_ends_0 : decode cX11_ends 0 = .ok (.aload_n 0, 1) := by decide +kernel
theorem dX11_ends_1 : decode cX11_ends 1 = .ok (.aload_n 0, 1) := by decide +kernel
theorem dX11_ends_2 : decode cX11_ends 2 = .ok (.getfield 88, 3) := by decide +kernel
theorem dX11_ends_5 : decode cX11_ends 5 = .ok (.iconst 3, 1) := by decide +kernel
theorem dX11_ends_6 : decode cX11_ends 6 = .ok (.iadd, 1) := by decide +kernel
theorem dX11_ends_7 : decode cX11_ends 7 = .ok (.invokevirtual 97, 3) := by decide +kernel
theorem dX11_ends_10 : decode cX11_ends 10 = .ok (.iload_n 1, 1) := by decide +kernel
theorem dX11_ends_11 : decode cX11_ends 11 = .ok (.if_icmp .ne 7, 3) := by decide +kernel
theorem dX11_ends_14 : decode cX11_ends 14 = .ok (.iconst 1, 1) := by decide +kernel
theorem dX11_ends_15 : decode cX11_ends 15 = .ok (.goto 4, 3) := by decide +kernel
theorem dX11_ends_18 : decode cX11_ends 18 = .ok (.iconst 0, 1) := by decide +kernel
theorem dX11_ends_19 : decode cX11_ends 19 = .ok (.ireturn, 1) := by decide +kernel
theorem dX11_lineNow_0 : decode cX11_lineNow 0 = .ok (.aload_n 0, 1) := by decide +kernel
theorem dX11_lineNow_1 : decode cX11_lineNow 1 = .ok (.iconst 4, 1) := by decide +kernel
theorem dX11_lineNow_2 : decode cX11_lineNow 2 = .ok (.bipush 102, 2) := by decide +kernel
theorem dX11_lineNow_4 : decode cX11_lineNow 4 = .ok (.bipush 105, 2) := by decide +kernel
theorem dX11_lineNow_6 : decode cX11_lineNow 6 = .ok (.bipush 114, 2) := by decide +kernel
theorem dX11_lineNow_8 : decode cX11_lineNow 8 = .ok (.invokevirtual 101, 3) := by decide +kernel
theorem dX11_lineNow_11 : decode cX11_lineNow 11 = .ok (.ifCond .eq 14, 3) := by decide +kernel
theorem dX11_lineNow_14 : decode cX11_lineNow 14 = .ok (.aload_n 0, 1) := by decide +kernel
theorem dX11_lineNow_15 : decode cX11_lineNow 15 = .ok (.bipush 101, 2) := by decide +kernel
theorem dX11_lineNow_17 : decode cX11_lineNow 17 = .ok (.invokevirtual 105, 3) := by decide +kernel
theorem dX11_lineNow_20 : decode cX11_lineNow 20 = .ok (.ifCond .eq 5, 3) := by decide +kernel
theorem dX11_lineNow_23 : decode cX11_lineNow 23 = .ok (.iconst 0, 1) := by decide +kernel
theorem dX11_lineNow_24 : decode cX11_lineNow 24 = .ok (.ireturn, 1) := by decide +kernel
theorem dX11_lineNow_25 : decode cX11_lineNow 25 = .ok (.aload_n 0, 1) := by decide +kernel
theorem dX11_lineNow_26 : decode cX11_lineNow 26 = .ok (.iconst 4, 1) := by decide +kernel
theorem dX11_lineNow_27 : decode cX11_lineNow 27 = .ok (.bipush 104, 2) := by decide +kernel
theorem dX11_lineNow_29 : decode cX11_lineNow 29 = .ok (.bipush 101, 2) := by decide +kernel
theorem dX11_lineNow_31 : decode cX11_lineNow 31 = .ok (.bipush 97, 2) := by decide +kernel
theorem dX11_lineNow_33 : decode cX11_lineNow 33 = .ok (.invokevirtual 101, 3) := by decide +kernel
theorem dX11_lineNow_36 : decode cX11_lineNow 36 = .ok (.ifCond .eq 14, 3) := by decide +kernel
theorem dX11_lineNow_39 : decode cX11_lineNow 39 = .ok (.aload_n 0, 1) := by decide +kernel
theorem dX11_lineNow_40 : decode cX11_lineNow 40 = .ok (.bipush 116, 2) := by decide +kernel
theorem dX11_lineNow_42 : decode cX11_lineNow 42 = .ok (.invokevirtual 105, 3) := by decide +kernel
theorem dX11_lineNow_45 : decode cX11_lineNow 45 = .ok (.ifCond .eq 5, 3) := by decide +kernel
theorem dX11_lineNow_48 : decode cX11_lineNow 48 = .ok (.iconst 1, 1) := by decide +kernel
theorem dX11_lineNow_49 : decode cX11_lineNow 49 = .ok (.ireturn, 1) := by decide +kernel
theorem dX11_lineNow_50 : decode cX11_lineNow 50 = .ok (.aload_n 0, 1) := by decide +kernel
theorem dX11_lineNow_51 : decode cX11_lineNow 51 = .ok (.iconst 4, 1) := by decide +kernel
theorem dX11_lineNow_52 : decode cX11_lineNow 52 = .ok (.bipush 119, 2) := by decide +kernel
theorem dX11_lineNow_54 : decode cX11_lineNow 54 = .ok (.bipush 111, 2) := by decide +kernel
theorem dX11_lineNow_56 : decode cX11_lineNow 56 = .ok (.bipush 111, 2) := by decide +kernel
theorem dX11_lineNow_58 : decode cX11_lineNow 58 = .ok (.invokevirtual 101, 3) := by decide +kernel
theorem dX11_lineNow_61 : decode cX11_lineNow 61 = .ok (.ifCond .eq 14, 3) := by decide +kernel
theorem dX11_lineNow_64 : decode cX11_lineNow 64 = .ok (.aload_n 0, 1) := by decide +kernel
theorem dX11_lineNow_65 : decode cX11_lineNow 65 = .ok (.bipush 100, 2) := by decide +kernel
theorem dX11_lineNow_67 : decode cX11_lineNow 67 = .ok (.invokevirtual 105, 3) := by decide +kernel
theorem dX11_lineNow_70 : decode cX11_lineNow 70 = .ok (.ifCond .eq 5, 3) := by decide +kernel
theorem dX11_lineNow_73 : decode cX11_lineNow 73 = .ok (.iconst 2, 1) := by decide +kernel
theorem dX11_lineNow_74 : decode cX11_lineNow 74 = .ok (.ireturn, 1) := by decide +kernel
theorem dX11_lineNow_75 : decode cX11_lineNow 75 = .ok (.aload_n 0, 1) := by decide +kernel
theorem dX11_lineNow_76 : decode cX11_lineNow 76 = .ok (.iconst 4, 1) := by decide +kernel
theorem dX11_lineNow_77 : decode cX11_lineNow 77 = .ok (.bipush 115, 2) := by decide +kernel
theorem dX11_lineNow_79 : decode cX11_lineNow 79 = .ok (.bipush 112, 2) := by decide +kernel
theorem dX11_lineNow_81 : decode cX11_lineNow 81 = .ok (.bipush 117, 2) := by decide +kernel
theorem dX11_lineNow_83 : decode cX11_lineNow 83 = .ok (.invokevirtual 101, 3) := by decide +kernel
theorem dX11_lineNow_86 : decode cX11_lineNow 86 = .ok (.ifCond .eq 14, 3) := by decide +kernel
theorem dX11_lineNow_89 : decode cX11_lineNow 89 = .ok (.aload_n 0, 1) := by decide +kernel
theorem dX11_lineNow_90 : decode cX11_lineNow 90 = .ok (.bipush 100, 2) := by decide +kernel
theorem dX11_lineNow_92 : decode cX11_lineNow 92 = .ok (.invokevirtual 105, 3) := by decide +kernel
theorem dX11_lineNow_95 : decode cX11_lineNow 95 = .ok (.ifCond .eq 5, 3) := by decide +kernel
theorem dX11_lineNow_98 : decode cX11_lineNow 98 = .ok (.iconst 3, 1) := by decide +kernel
theorem dX11_lineNow_99 : decode cX11_lineNow 99 = .ok (.ireturn, 1) := by decide +kernel
theorem dX11_lineNow_100 : decode cX11_lineNow 100 = .ok (.aload_n 0, 1) := by decide +kernel
theorem dX11_lineNow_101 : decode cX11_lineNow 101 = .ok (.iconst 3, 1) := by decide +kernel
theorem dX11_lineNow_102 : decode cX11_lineNow 102 = .ok (.bipush 111, 2) := by decide +kernel
theorem dX11_lineNow_104 : decode cX11_lineNow 104 = .ok (.bipush 117, 2) := by decide +kernel
theorem dX11_lineNow_106 : decode cX11_lineNow 106 = .ok (.bipush 116, 2) := by decide +kernel
theorem dX11_lineNow_108 : decode cX11_lineNow 108 = .ok (.invokevirtual 101, 3) := by decide +kernel
theorem dX11_lineNow_111 : decode cX11_lineNow 111 = .ok (.ifCond .eq 7, 3) := by decide +kernel
theorem dX11_lineNow_114 : decode cX11_lineNow 114 = .ok (.iconst 4, 1) := by decide +kernel
theorem dX11_lineNow_115 : decode cX11_lineNow 115 = .ok (.goto 32, 3) := by decide +kernel
theorem dX11_lineNow_118 : decode cX11_lineNow 118 = .ok (.aload_n 0, 1) := by decide +kernel
theorem dX11_lineNow_119 : decode cX11_lineNow 119 = .ok (.iconst 4, 1) := by decide +kernel
theorem dX11_lineNow_120 : decode cX11_lineNow 120 = .ok (.bipush 109, 2) := by decide +kernel
theorem dX11_lineNow_122 : decode cX11_lineNow 122 = .ok (.bipush 101, 2) := by decide +kernel
theorem dX11_lineNow_124 : decode cX11_lineNow 124 = .ok (.bipush 109, 2) := by decide +kernel
theorem dX11_lineNow_126 : decode cX11_lineNow 126 = .ok (.invokevirtual 101, 3) := by decide +kernel
theorem dX11_lineNow_129 : decode cX11_lineNow 129 = .ok (.ifCond .eq 16, 3) := by decide +kernel
theorem dX11_lineNow_132 : decode cX11_lineNow 132 = .ok (.aload_n 0, 1) := by decide +kernel
theorem dX11_lineNow_133 : decode cX11_lineNow 133 = .ok (.bipush 111, 2) := by decide +kernel
theorem dX11_lineNow_135 : decode cX11_lineNow 135 = .ok (.invokevirtual 105, 3) := by decide +kernel
theorem dX11_lineNow_138 : decode cX11_lineNow 138 = .ok (.ifCond .eq 7, 3) := by decide +kernel
theorem dX11_lineNow_141 : decode cX11_lineNow 141 = .ok (.iconst 5, 1) := by decide +kernel
theorem dX11_lineNow_142 : decode cX11_lineNow 142 = .ok (.goto 5, 3) := by decide +kernel
theorem dX11_lineNow_145 : decode cX11_lineNow 145 = .ok (.bipush (-4), 2) := by decide +kernel
theorem dX11_lineNow_147 : decode cX11_lineNow 147 = .ok (.ireturn, 1) := by decide +kernel
theorem dX11_wrapNow_0 : decode cX11_wrapNow 0 = .ok (.aload_n 0, 1) := by decide +kernel
theorem dX11_wrapNow_1 : decode cX11_wrapNow 1 = .ok (.iconst 4, 1) := by decide +kernel
theorem dX11_wrapNow_2 : decode cX11_wrapNow 2 = .ok (.bipush 98, 2) := by decide +kernel
theorem dX11_wrapNow_4 : decode cX11_wrapNow 4 = .ok (.bipush 97, 2) := by decide +kernel
theorem dX11_wrapNow_6 : decode cX11_wrapNow 6 = .ok (.bipush 114, 2) := by decide +kernel
theorem dX11_wrapNow_8 : decode cX11_wrapNow 8 = .ok (.invokevirtual 101, 3) := by decide +kernel
theorem dX11_wrapNow_11 : decode cX11_wrapNow 11 = .ok (.ifCond .eq 14, 3) := by decide +kernel
theorem dX11_wrapNow_14 : decode cX11_wrapNow 14 = .ok (.aload_n 0, 1) := by decide +kernel
theorem dX11_wrapNow_15 : decode cX11_wrapNow 15 = .ok (.bipush 101, 2) := by decide +kernel
theorem dX11_wrapNow_17 : decode cX11_wrapNow 17 = .ok (.invokevirtual 105, 3) := by decide +kernel
theorem dX11_wrapNow_20 : decode cX11_wrapNow 20 = .ok (.ifCond .eq 5, 3) := by decide +kernel
theorem dX11_wrapNow_23 : decode cX11_wrapNow 23 = .ok (.iconst 0, 1) := by decide +kernel
theorem dX11_wrapNow_24 : decode cX11_wrapNow 24 = .ok (.ireturn, 1) := by decide +kernel
theorem dX11_wrapNow_25 : decode cX11_wrapNow 25 = .ok (.aload_n 0, 1) := by decide +kernel
theorem dX11_wrapNow_26 : decode cX11_wrapNow 26 = .ok (.iconst 4, 1) := by decide +kernel
theorem dX11_wrapNow_27 : decode cX11_wrapNow 27 = .ok (.bipush 99, 2) := by decide +kernel
theorem dX11_wrapNow_29 : decode cX11_wrapNow 29 = .ok (.bipush 108, 2) := by decide +kernel
theorem dX11_wrapNow_31 : decode cX11_wrapNow 31 = .ok (.bipush 97, 2) := by decide +kernel
theorem dX11_wrapNow_33 : decode cX11_wrapNow 33 = .ok (.invokevirtual 101, 3) := by decide +kernel
theorem dX11_wrapNow_36 : decode cX11_wrapNow 36 = .ok (.ifCond .eq 16, 3) := by decide +kernel
theorem dX11_wrapNow_39 : decode cX11_wrapNow 39 = .ok (.aload_n 0, 1) := by decide +kernel
theorem dX11_wrapNow_40 : decode cX11_wrapNow 40 = .ok (.bipush 121, 2) := by decide +kernel
theorem dX11_wrapNow_42 : decode cX11_wrapNow 42 = .ok (.invokevirtual 105, 3) := by decide +kernel
theorem dX11_wrapNow_45 : decode cX11_wrapNow 45 = .ok (.ifCond .eq 7, 3) := by decide +kernel
theorem dX11_wrapNow_48 : decode cX11_wrapNow 48 = .ok (.iconst 1, 1) := by decide +kernel
theorem dX11_wrapNow_49 : decode cX11_wrapNow 49 = .ok (.goto 32, 3) := by decide +kernel
theorem dX11_wrapNow_52 : decode cX11_wrapNow 52 = .ok (.aload_n 0, 1) := by decide +kernel
theorem dX11_wrapNow_53 : decode cX11_wrapNow 53 = .ok (.iconst 4, 1) := by decide +kernel
theorem dX11_wrapNow_54 : decode cX11_wrapNow 54 = .ok (.bipush 102, 2) := by decide +kernel
theorem dX11_wrapNow_56 : decode cX11_wrapNow 56 = .ok (.bipush 111, 2) := by decide +kernel
theorem dX11_wrapNow_58 : decode cX11_wrapNow 58 = .ok (.bipush 105, 2) := by decide +kernel
theorem dX11_wrapNow_60 : decode cX11_wrapNow 60 = .ok (.invokevirtual 101, 3) := by decide +kernel
theorem dX11_wrapNow_63 : decode cX11_wrapNow 63 = .ok (.ifCond .eq 16, 3) := by decide +kernel
theorem dX11_wrapNow_66 : decode cX11_wrapNow 66 = .ok (.aload_n 0, 1) := by decide +kernel
theorem dX11_wrapNow_67 : decode cX11_wrapNow 67 = .ok (.bipush 108, 2) := by decide +kernel
theorem dX11_wrapNow_69 : decode cX11_wrapNow 69 = .ok (.invokevirtual 105, 3) := by decide +kernel
theorem dX11_wrapNow_72 : decode cX11_wrapNow 72 = .ok (.ifCond .eq 7, 3) := by decide +kernel
theorem dX11_wrapNow_75 : decode cX11_wrapNow 75 = .ok (.iconst 2, 1) := by decide +kernel
theorem dX11_wrapNow_76 : decode cX11_wrapNow 76 = .ok (.goto 5, 3) := by decide +kernel
theorem dX11_wrapNow_79 : decode cX11_wrapNow 79 = .ok (.bipush (-4), 2) := by decide +kernel
theorem dX11_wrapNow_81 : decode cX11_wrapNow 81 = .ok (.ireturn, 1) := by decide +kernel
theorem dX11_next_0 : decode cX11_next 0 = .ok (.aload_n 0, 1) := by decide +kernel
theorem dX11_next_1 : decode cX11_next 1 = .ok (.getfield 85, 3) := by decide +kernel
theorem dX11_next_4 : decode cX11_next 4 = .ok (.ifCond .le 4, 3) := by decide +kernel
theorem dX11_next_7 : decode cX11_next 7 = .ok (.return_, 1) := by decide +kernel
theorem dX11_next_8 : decode cX11_next 8 = .ok (.aload_n 0, 1) := by decide +kernel
theorem dX11_next_9 : decode cX11_next 9 = .ok (.aload_n 0, 1) := by decide +kernel
theorem dX11_next_10 : decode cX11_next 10 = .ok (.getfield 94, 3) := by decide +kernel
theorem dX11_next_13 : decode cX11_next 13 = .ok (.invokevirtual 97, 3) := by decide +kernel
theorem dX11_next_16 : decode cX11_next 16 = .ok (.bipush 32, 2) := by decide +kernel
theorem dX11_next_18 : decode cX11_next 18 = .ok (.if_icmp .ne 16, 3) := by decide +kernel
theorem dX11_next_21 : decode cX11_next 21 = .ok (.aload_n 0, 1) := by decide +kernel
theorem dX11_next_22 : decode cX11_next 22 = .ok (.dup, 1) := by decide +kernel
theorem dX11_next_23 : decode cX11_next 23 = .ok (.getfield 94, 3) := by decide +kernel
theorem dX11_next_26 : decode cX11_next 26 = .ok (.iconst 1, 1) := by decide +kernel
theorem dX11_next_27 : decode cX11_next 27 = .ok (.iadd, 1) := by decide +kernel
theorem dX11_next_28 : decode cX11_next 28 = .ok (.putfield 94, 3) := by decide +kernel
theorem dX11_next_31 : decode cX11_next 31 = .ok (.goto (-23), 3) := by decide +kernel
theorem dX11_next_34 : decode cX11_next 34 = .ok (.aload_n 0, 1) := by decide +kernel
theorem dX11_next_35 : decode cX11_next 35 = .ok (.aload_n 0, 1) := by decide +kernel
theorem dX11_next_36 : decode cX11_next 36 = .ok (.getfield 94, 3) := by decide +kernel
theorem dX11_next_39 : decode cX11_next 39 = .ok (.putfield 88, 3) := by decide +kernel
theorem dX11_next_42 : decode cX11_next 42 = .ok (.aload_n 0, 1) := by decide +kernel
theorem dX11_next_43 : decode cX11_next 43 = .ok (.aload_n 0, 1) := by decide +kernel
theorem dX11_next_44 : decode cX11_next 44 = .ok (.getfield 94, 3) := by decide +kernel
theorem dX11_next_47 : decode cX11_next 47 = .ok (.invokevirtual 97, 3) := by decide +kernel
theorem dX11_next_50 : decode cX11_next 50 = .ok (.istore_n 1, 1) := by decide +kernel
theorem dX11_next_51 : decode cX11_next 51 = .ok (.iload_n 1, 1) := by decide +kernel
theorem dX11_next_52 : decode cX11_next 52 = .ok (.ifCond .ge 11, 3) := by decide +kernel
theorem dX11_next_55 : decode cX11_next 55 = .ok (.aload_n 0, 1) := by decide +kernel
theorem dX11_next_56 : decode cX11_next 56 = .ok (.iconst 0, 1) := by decide +kernel
theorem dX11_next_57 : decode cX11_next 57 = .ok (.putfield 109, 3) := by decide +kernel
theorem dX11_next_60 : decode cX11_next 60 = .ok (.goto 214, 3) := by decide +kernel
theorem dX11_next_63 : decode cX11_next 63 = .ok (.iload_n 1, 1) := by decide +kernel
theorem dX11_next_64 : decode cX11_next 64 = .ok (.i2l, 1) := by decide +kernel
theorem dX11_next_65 : decode cX11_next 65 = .ok (.ldc2_w 112, 3) := by decide +kernel
theorem dX11_next_68 : decode cX11_next 68 = .ok (.ldc2_w 114, 3) := by decide +kernel
theorem dX11_next_71 : decode cX11_next 71 = .ok (.invokestatic 78, 3) := by decide +kernel
theorem dX11_next_74 : decode cX11_next 74 = .ok (.ifCond .eq 42, 3) := by decide +kernel
theorem dX11_next_77 : decode cX11_next 77 = .ok (.aload_n 0, 1) := by decide +kernel
theorem dX11_next_78 : decode cX11_next 78 = .ok (.iconst 1, 1) := by decide +kernel
theorem dX11_next_79 : decode cX11_next 79 = .ok (.putfield 109, 3) := by decide +kernel
theorem dX11_next_82 : decode cX11_next 82 = .ok (.aload_n 0, 1) := by decide +kernel
theorem dX11_next_83 : decode cX11_next 83 = .ok (.aload_n 0, 1) := by decide +kernel
theorem dX11_next_84 : decode cX11_next 84 = .ok (.getfield 94, 3) := by decide +kernel
theorem dX11_next_87 : decode cX11_next 87 = .ok (.invokevirtual 97, 3) := by decide +kernel
theorem dX11_next_90 : decode cX11_next 90 = .ok (.i2l, 1) := by decide +kernel
theorem dX11_next_91 : decode cX11_next 91 = .ok (.ldc2_w 112, 3) := by decide +kernel
theorem dX11_next_94 : decode cX11_next 94 = .ok (.ldc2_w 114, 3) := by decide +kernel
theorem dX11_next_97 : decode cX11_next 97 = .ok (.invokestatic 78, 3) := by decide +kernel
theorem dX11_next_100 : decode cX11_next 100 = .ok (.ifCond .eq 174, 3) := by decide +kernel
theorem dX11_next_103 : decode cX11_next 103 = .ok (.aload_n 0, 1) := by decide +kernel
theorem dX11_next_104 : decode cX11_next 104 = .ok (.dup, 1) := by decide +kernel
theorem dX11_next_105 : decode cX11_next 105 = .ok (.getfield 94, 3) := by decide +kernel
theorem dX11_next_108 : decode cX11_next 108 = .ok (.iconst 1, 1) := by decide +kernel
theorem dX11_next_109 : decode cX11_next 109 = .ok (.iadd, 1) := by decide +kernel
theorem dX11_next_110 : decode cX11_next 110 = .ok (.putfield 94, 3) := by decide +kernel
theorem dX11_next_113 : decode cX11_next 113 = .ok (.goto (-31), 3) := by decide +kernel
theorem dX11_next_116 : decode cX11_next 116 = .ok (.iload_n 1, 1) := by decide +kernel
theorem dX11_next_117 : decode cX11_next 117 = .ok (.i2l, 1) := by decide +kernel
theorem dX11_next_118 : decode cX11_next 118 = .ok (.ldc2_w 116, 3) := by decide +kernel
theorem dX11_next_121 : decode cX11_next 121 = .ok (.ldc2_w 118, 3) := by decide +kernel
theorem dX11_next_124 : decode cX11_next 124 = .ok (.invokestatic 78, 3) := by decide +kernel
theorem dX11_next_127 : decode cX11_next 127 = .ok (.ifCond .eq 116, 3) := by decide +kernel
theorem dX11_next_130 : decode cX11_next 130 = .ok (.aload_n 0, 1) := by decide +kernel
theorem dX11_next_131 : decode cX11_next 131 = .ok (.iconst 2, 1) := by decide +kernel
theorem dX11_next_132 : decode cX11_next 132 = .ok (.putfield 109, 3) := by decide +kernel
theorem dX11_next_135 : decode cX11_next 135 = .ok (.aload_n 0, 1) := by decide +kernel
theorem dX11_next_136 : decode cX11_next 136 = .ok (.iconst 0, 1) := by decide +kernel
theorem dX11_next_137 : decode cX11_next 137 = .ok (.putfield 120, 3) := by decide +kernel
theorem dX11_next_140 : decode cX11_next 140 = .ok (.aload_n 0, 1) := by decide +kernel
theorem dX11_next_141 : decode cX11_next 141 = .ok (.aload_n 0, 1) := by decide +kernel
theorem dX11_next_142 : decode cX11_next 142 = .ok (.getfield 94, 3) := by decide +kernel
theorem dX11_next_145 : decode cX11_next 145 = .ok (.invokevirtual 97, 3) := by decide +kernel
theorem dX11_next_148 : decode cX11_next 148 = .ok (.i2l, 1) := by decide +kernel
theorem dX11_next_149 : decode cX11_next 149 = .ok (.ldc2_w 116, 3) := by decide +kernel
theorem dX11_next_152 : decode cX11_next 152 = .ok (.ldc2_w 118, 3) := by decide +kernel
theorem dX11_next_155 : decode cX11_next 155 = .ok (.invokestatic 78, 3) := by decide +kernel
theorem dX11_next_158 : decode cX11_next 158 = .ok (.ifCond .eq 59, 3) := by decide +kernel
theorem dX11_next_161 : decode cX11_next 161 = .ok (.aload_n 0, 1) := by decide +kernel
theorem dX11_next_162 : decode cX11_next 162 = .ok (.aload_n 0, 1) := by decide +kernel
theorem dX11_next_163 : decode cX11_next 163 = .ok (.getfield 94, 3) := by decide +kernel
theorem dX11_next_166 : decode cX11_next 166 = .ok (.aload_n 0, 1) := by decide +kernel
theorem dX11_next_167 : decode cX11_next 167 = .ok (.getfield 88, 3) := by decide +kernel
theorem dX11_next_170 : decode cX11_next 170 = .ok (.isub, 1) := by decide +kernel
theorem dX11_next_171 : decode cX11_next 171 = .ok (.iconst 2, 1) := by decide +kernel
theorem dX11_next_172 : decode cX11_next 172 = .ok (.if_icmp .ge 25, 3) := by decide +kernel
theorem dX11_next_175 : decode cX11_next 175 = .ok (.bipush 10, 2) := by decide +kernel
theorem dX11_next_177 : decode cX11_next 177 = .ok (.aload_n 0, 1) := by decide +kernel
theorem dX11_next_178 : decode cX11_next 178 = .ok (.getfield 120, 3) := by decide +kernel
theorem dX11_next_181 : decode cX11_next 181 = .ok (.imul, 1) := by decide +kernel
theorem dX11_next_182 : decode cX11_next 182 = .ok (.aload_n 0, 1) := by decide +kernel
theorem dX11_next_183 : decode cX11_next 183 = .ok (.aload_n 0, 1) := by decide +kernel
theorem dX11_next_184 : decode cX11_next 184 = .ok (.getfield 94, 3) := by decide +kernel
theorem dX11_next_187 : decode cX11_next 187 = .ok (.invokevirtual 97, 3) := by decide +kernel
theorem dX11_next_190 : decode cX11_next 190 = .ok (.iadd, 1) := by decide +kernel
theorem dX11_next_191 : decode cX11_next 191 = .ok (.bipush 48, 2) := by decide +kernel
theorem dX11_next_193 : decode cX11_next 193 = .ok (.isub, 1) := by decide +kernel
theorem dX11_next_194 : decode cX11_next 194 = .ok (.goto 7, 3) := by decide +kernel
theorem dX11_next_197 : decode cX11_next 197 = .ok (.aload_n 0, 1) := by decide +kernel
theorem dX11_next_198 : decode cX11_next 198 = .ok (.getfield 120, 3) := by decide +kernel
theorem dX11_next_201 : decode cX11_next 201 = .ok (.putfield 120, 3) := by decide +kernel
theorem dX11_next_204 : decode cX11_next 204 = .ok (.aload_n 0, 1) := by decide +kernel
theorem dX11_next_205 : decode cX11_next 205 = .ok (.dup, 1) := by decide +kernel
theorem dX11_next_206 : decode cX11_next 206 = .ok (.getfield 94, 3) := by decide +kernel
theorem dX11_next_209 : decode cX11_next 209 = .ok (.iconst 1, 1) := by decide +kernel
theorem dX11_next_210 : decode cX11_next 210 = .ok (.iadd, 1) := by decide +kernel
theorem dX11_next_211 : decode cX11_next 211 = .ok (.putfield 94, 3) := by decide +kernel
theorem dX11_next_214 : decode cX11_next 214 = .ok (.goto (-74), 3) := by decide +kernel
theorem dX11_next_217 : decode cX11_next 217 = .ok (.aload_n 0, 1) := by decide +kernel
theorem dX11_next_218 : decode cX11_next 218 = .ok (.aload_n 0, 1) := by decide +kernel
theorem dX11_next_219 : decode cX11_next 219 = .ok (.getfield 94, 3) := by decide +kernel
theorem dX11_next_222 : decode cX11_next 222 = .ok (.aload_n 0, 1) := by decide +kernel
theorem dX11_next_223 : decode cX11_next 223 = .ok (.getfield 88, 3) := by decide +kernel
theorem dX11_next_226 : decode cX11_next 226 = .ok (.isub, 1) := by decide +kernel
theorem dX11_next_227 : decode cX11_next 227 = .ok (.iconst 2, 1) := by decide +kernel
theorem dX11_next_228 : decode cX11_next 228 = .ok (.if_icmp .gt 7, 3) := by decide +kernel
theorem dX11_next_231 : decode cX11_next 231 = .ok (.iconst 1, 1) := by decide +kernel
theorem dX11_next_232 : decode cX11_next 232 = .ok (.goto 4, 3) := by decide +kernel
theorem dX11_next_235 : decode cX11_next 235 = .ok (.iconst 0, 1) := by decide +kernel
theorem dX11_next_236 : decode cX11_next 236 = .ok (.iconst 1, 1) := by decide +kernel
theorem dX11_next_237 : decode cX11_next 237 = .ok (.invokevirtual 123, 3) := by decide +kernel
theorem dX11_next_240 : decode cX11_next 240 = .ok (.goto 34, 3) := by decide +kernel
theorem dX11_next_243 : decode cX11_next 243 = .ok (.aload_n 0, 1) := by decide +kernel
theorem dX11_next_244 : decode cX11_next 244 = .ok (.iconst 3, 1) := by decide +kernel
theorem dX11_next_245 : decode cX11_next 245 = .ok (.putfield 109, 3) := by decide +kernel
theorem dX11_next_248 : decode cX11_next 248 = .ok (.aload_n 0, 1) := by decide +kernel
theorem dX11_next_249 : decode cX11_next 249 = .ok (.iload_n 1, 1) := by decide +kernel
theorem dX11_next_250 : decode cX11_next 250 = .ok (.bipush 59, 2) := by decide +kernel
theorem dX11_next_252 : decode cX11_next 252 = .ok (.if_icmp .ne 7, 3) := by decide +kernel
theorem dX11_next_255 : decode cX11_next 255 = .ok (.iconst 1, 1) := by decide +kernel
theorem dX11_next_256 : decode cX11_next 256 = .ok (.goto 4, 3) := by decide +kernel
theorem dX11_next_259 : decode cX11_next 259 = .ok (.iconst 0, 1) := by decide +kernel
theorem dX11_next_260 : decode cX11_next 260 = .ok (.iconst 1, 1) := by decide +kernel
theorem dX11_next_261 : decode cX11_next 261 = .ok (.invokevirtual 123, 3) := by decide +kernel
theorem dX11_next_264 : decode cX11_next 264 = .ok (.aload_n 0, 1) := by decide +kernel
theorem dX11_next_265 : decode cX11_next 265 = .ok (.dup, 1) := by decide +kernel
theorem dX11_next_266 : decode cX11_next 266 = .ok (.getfield 94, 3) := by decide +kernel
theorem dX11_next_269 : decode cX11_next 269 = .ok (.iconst 1, 1) := by decide +kernel
theorem dX11_next_270 : decode cX11_next 270 = .ok (.iadd, 1) := by decide +kernel
theorem dX11_next_271 : decode cX11_next 271 = .ok (.putfield 94, 3) := by decide +kernel
theorem dX11_next_274 : decode cX11_next 274 = .ok (.return_, 1) := by decide +kernel
theorem dX11_looked_0 : decode cX11_looked 0 = .ok (.aload_n 0, 1) := by decide +kernel
theorem dX11_looked_1 : decode cX11_looked 1 = .ok (.getfield 85, 3) := by decide +kernel
theorem dX11_looked_4 : decode cX11_looked 4 = .ok (.ifCond .ne 21, 3) := by decide +kernel
theorem dX11_looked_7 : decode cX11_looked 7 = .ok (.aload_n 0, 1) := by decide +kernel
theorem dX11_looked_8 : decode cX11_looked 8 = .ok (.aload_n 0, 1) := by decide +kernel
theorem dX11_looked_9 : decode cX11_looked 9 = .ok (.getfield 109, 3) := by decide +kernel
theorem dX11_looked_12 : decode cX11_looked 12 = .ok (.iconst 2, 1) := by decide +kernel
theorem dX11_looked_13 : decode cX11_looked 13 = .ok (.if_icmp .ne 7, 3) := by decide +kernel
theorem dX11_looked_16 : decode cX11_looked 16 = .ok (.iconst 1, 1) := by decide +kernel
theorem dX11_looked_17 : decode cX11_looked 17 = .ok (.goto 4, 3) := by decide +kernel
theorem dX11_looked_20 : decode cX11_looked 20 = .ok (.iconst 0, 1) := by decide +kernel
theorem dX11_looked_21 : decode cX11_looked 21 = .ok (.iconst 2, 1) := by decide +kernel
theorem dX11_looked_22 : decode cX11_looked 22 = .ok (.invokevirtual 123, 3) := by decide +kernel
theorem dX11_looked_25 : decode cX11_looked 25 = .ok (.aload_n 0, 1) := by decide +kernel
theorem dX11_looked_26 : decode cX11_looked 26 = .ok (.getfield 85, 3) := by decide +kernel
theorem dX11_looked_29 : decode cX11_looked 29 = .ok (.ifCond .ne 20, 3) := by decide +kernel
theorem dX11_looked_32 : decode cX11_looked 32 = .ok (.aload_n 0, 1) := by decide +kernel
theorem dX11_looked_33 : decode cX11_looked 33 = .ok (.aload_n 0, 1) := by decide +kernel
theorem dX11_looked_34 : decode cX11_looked 34 = .ok (.getfield 120, 3) := by decide +kernel
theorem dX11_looked_37 : decode cX11_looked 37 = .ok (.i2l, 1) := by decide +kernel
theorem dX11_looked_38 : decode cX11_looked 38 = .ok (.iload_n 1, 1) := by decide +kernel
theorem dX11_looked_39 : decode cX11_looked 39 = .ok (.i2l, 1) := by decide +kernel
theorem dX11_looked_40 : decode cX11_looked 40 = .ok (.iload_n 2, 1) := by decide +kernel
theorem dX11_looked_41 : decode cX11_looked 41 = .ok (.i2l, 1) := by decide +kernel
theorem dX11_looked_42 : decode cX11_looked 42 = .ok (.invokestatic 78, 3) := by decide +kernel
theorem dX11_looked_45 : decode cX11_looked 45 = .ok (.iconst 3, 1) := by decide +kernel
theorem dX11_looked_46 : decode cX11_looked 46 = .ok (.invokevirtual 123, 3) := by decide +kernel
theorem dX11_looked_49 : decode cX11_looked 49 = .ok (.aload_n 0, 1) := by decide +kernel
theorem dX11_looked_50 : decode cX11_looked 50 = .ok (.getfield 85, 3) := by decide +kernel
theorem dX11_looked_53 : decode cX11_looked 53 = .ok (.ifCond .ne 10, 3) := by decide +kernel
theorem dX11_looked_56 : decode cX11_looked 56 = .ok (.aload_n 0, 1) := by decide +kernel
theorem dX11_looked_57 : decode cX11_looked 57 = .ok (.getfield 120, 3) := by decide +kernel
theorem dX11_looked_60 : decode cX11_looked 60 = .ok (.goto 4, 3) := by decide +kernel
theorem dX11_looked_63 : decode cX11_looked 63 = .ok (.iconst 0, 1) := by decide +kernel
theorem dX11_looked_64 : decode cX11_looked 64 = .ok (.ireturn, 1) := by decide +kernel
theorem dX11_readNumber_0 : decode cX11_readNumber 0 = .ok (.aload_n 0, 1) := by decide +kernel
theorem dX11_readNumber_1 : decode cX11_readNumber 1 = .ok (.iload_n 1, 1) := by decide +kernel
theorem dX11_readNumber_2 : decode cX11_readNumber 2 = .ok (.iload_n 2, 1) := by decide +kernel
theorem dX11_readNumber_3 : decode cX11_readNumber 3 = .ok (.invokevirtual 127, 3) := by decide +kernel
theorem dX11_readNumber_6 : decode cX11_readNumber 6 = .ok (.istore_n 3, 1) := by decide +kernel
theorem dX11_readNumber_7 : decode cX11_readNumber 7 = .ok (.aload_n 0, 1) := by decide +kernel
theorem dX11_readNumber_8 : decode cX11_readNumber 8 = .ok (.invokevirtual 131, 3) := by decide +kernel
theorem dX11_readNumber_11 : decode cX11_readNumber 11 = .ok (.iload_n 3, 1) := by decide +kernel
theorem dX11_readNumber_12 : decode cX11_readNumber 12 = .ok (.ireturn, 1) := by decide +kernel
theorem dX11_lookedCell_0 : decode cX11_lookedCell 0 = .ok (.aload_n 0, 1) := by decide +kernel
theorem dX11_lookedCell_1 : decode cX11_lookedCell 1 = .ok (.iconst 0, 1) := by decide +kernel
theorem dX11_lookedCell_2 : decode cX11_lookedCell 2 = .ok (.bipush 7, 2) := by decide +kernel
theorem dX11_lookedCell_4 : decode cX11_lookedCell 4 = .ok (.invokevirtual 127, 3) := by decide +kernel
theorem dX11_lookedCell_7 : decode cX11_lookedCell 7 = .ok (.istore_n 1, 1) := by decide +kernel
theorem dX11_lookedCell_8 : decode cX11_lookedCell 8 = .ok (.aload_n 0, 1) := by decide +kernel
theorem dX11_lookedCell_9 : decode cX11_lookedCell 9 = .ok (.aload_n 0, 1) := by decide +kernel
theorem dX11_lookedCell_10 : decode cX11_lookedCell 10 = .ok (.getfield 85, 3) := by decide +kernel
theorem dX11_lookedCell_13 : decode cX11_lookedCell 13 = .ok (.ifCond .ne 15, 3) := by decide +kernel
theorem dX11_lookedCell_16 : decode cX11_lookedCell 16 = .ok (.iload_n 1, 1) := by decide +kernel
theorem dX11_lookedCell_17 : decode cX11_lookedCell 17 = .ok (.aload_n 0, 1) := by decide +kernel
theorem dX11_lookedCell_18 : decode cX11_lookedCell 18 = .ok (.getfield 64, 3) := by decide +kernel
theorem dX11_lookedCell_21 : decode cX11_lookedCell 21 = .ok (.if_icmp .le 7, 3) := by decide +kernel
theorem dX11_lookedCell_24 : decode cX11_lookedCell 24 = .ok (.iload_n 1, 1) := by decide +kernel
theorem dX11_lookedCell_25 : decode cX11_lookedCell 25 = .ok (.goto 7, 3) := by decide +kernel
theorem dX11_lookedCell_28 : decode cX11_lookedCell 28 = .ok (.aload_n 0, 1) := by decide +kernel
theorem dX11_lookedCell_29 : decode cX11_lookedCell 29 = .ok (.getfield 64, 3) := by decide +kernel
theorem dX11_lookedCell_32 : decode cX11_lookedCell 32 = .ok (.putfield 64, 3) := by decide +kernel
theorem dX11_lookedCell_35 : decode cX11_lookedCell 35 = .ok (.iload_n 1, 1) := by decide +kernel
theorem dX11_lookedCell_36 : decode cX11_lookedCell 36 = .ok (.ireturn, 1) := by decide +kernel
theorem dX11_readCell_0 : decode cX11_readCell 0 = .ok (.aload_n 0, 1) := by decide +kernel
theorem dX11_readCell_1 : decode cX11_readCell 1 = .ok (.invokevirtual 134, 3) := by decide +kernel
theorem dX11_readCell_4 : decode cX11_readCell 4 = .ok (.istore_n 1, 1) := by decide +kernel
theorem dX11_readCell_5 : decode cX11_readCell 5 = .ok (.aload_n 0, 1) := by decide +kernel
theorem dX11_readCell_6 : decode cX11_readCell 6 = .ok (.invokevirtual 131, 3) := by decide +kernel
theorem dX11_readCell_9 : decode cX11_readCell 9 = .ok (.iload_n 1, 1) := by decide +kernel
theorem dX11_readCell_10 : decode cX11_readCell 10 = .ok (.ireturn, 1) := by decide +kernel
theorem dX11_readWrap_0 : decode cX11_readWrap 0 = .ok (.aload_n 0, 1) := by decide +kernel
theorem dX11_readWrap_1 : decode cX11_readWrap 1 = .ok (.getfield 85, 3) := by decide +kernel
theorem dX11_readWrap_4 : decode cX11_readWrap 4 = .ok (.ifCond .ne 18, 3) := by decide +kernel
theorem dX11_readWrap_7 : decode cX11_readWrap 7 = .ok (.aload_n 0, 1) := by decide +kernel
theorem dX11_readWrap_8 : decode cX11_readWrap 8 = .ok (.getfield 109, 3) := by decide +kernel
theorem dX11_readWrap_11 : decode cX11_readWrap 11 = .ok (.iconst 1, 1) := by decide +kernel
theorem dX11_readWrap_12 : decode cX11_readWrap 12 = .ok (.if_icmp .ne 10, 3) := by decide +kernel
theorem dX11_readWrap_15 : decode cX11_readWrap 15 = .ok (.aload_n 0, 1) := by decide +kernel
theorem dX11_readWrap_16 : decode cX11_readWrap 16 = .ok (.invokevirtual 138, 3) := by decide +kernel
theorem dX11_readWrap_19 : decode cX11_readWrap 19 = .ok (.goto 5, 3) := by decide +kernel
theorem dX11_readWrap_22 : decode cX11_readWrap 22 = .ok (.bipush (-4), 2) := by decide +kernel
theorem dX11_readWrap_24 : decode cX11_readWrap 24 = .ok (.istore_n 1, 1) := by decide +kernel
theorem dX11_readWrap_25 : decode cX11_readWrap 25 = .ok (.aload_n 0, 1) := by decide +kernel
theorem dX11_readWrap_26 : decode cX11_readWrap 26 = .ok (.iload_n 1, 1) := by decide +kernel
theorem dX11_readWrap_27 : decode cX11_readWrap 27 = .ok (.bipush (-4), 2) := by decide +kernel
theorem dX11_readWrap_29 : decode cX11_readWrap 29 = .ok (.if_icmp .eq 7, 3) := by decide +kernel
theorem dX11_readWrap_32 : decode cX11_readWrap 32 = .ok (.iconst 1, 1) := by decide +kernel
theorem dX11_readWrap_33 : decode cX11_readWrap 33 = .ok (.goto 4, 3) := by decide +kernel
theorem dX11_readWrap_36 : decode cX11_readWrap 36 = .ok (.iconst 0, 1) := by decide +kernel
theorem dX11_readWrap_37 : decode cX11_readWrap 37 = .ok (.iconst 2, 1) := by decide +kernel
theorem dX11_readWrap_38 : decode cX11_readWrap 38 = .ok (.invokevirtual 123, 3) := by decide +kernel
theorem dX11_readWrap_41 : decode cX11_readWrap 41 = .ok (.aload_n 0, 1) := by decide +kernel
theorem dX11_readWrap_42 : decode cX11_readWrap 42 = .ok (.invokevirtual 131, 3) := by decide +kernel
theorem dX11_readWrap_45 : decode cX11_readWrap 45 = .ok (.iload_n 1, 1) := by decide +kernel
theorem dX11_readWrap_46 : decode cX11_readWrap 46 = .ok (.ireturn, 1) := by decide +kernel
theorem dX11_readHeat_0 : decode cX11_readHeat 0 = .ok (.aload_n 0, 1) := by decide +kernel
theorem dX11_readHeat_1 : decode cX11_readHeat 1 = .ok (.invokevirtual 134, 3) := by decide +kernel
theorem dX11_readHeat_4 : decode cX11_readHeat 4 = .ok (.istore_n 1, 1) := by decide +kernel
theorem dX11_readHeat_5 : decode cX11_readHeat 5 = .ok (.aload_n 0, 1) := by decide +kernel
theorem dX11_readHeat_6 : decode cX11_readHeat 6 = .ok (.getfield 85, 3) := by decide +kernel
theorem dX11_readHeat_9 : decode cX11_readHeat 9 = .ok (.ifCond .ne 36, 3) := by decide +kernel
theorem dX11_readHeat_12 : decode cX11_readHeat 12 = .ok (.aload_n 0, 1) := by decide +kernel
theorem dX11_readHeat_13 : decode cX11_readHeat 13 = .ok (.aload_n 0, 1) := by decide +kernel
theorem dX11_readHeat_14 : decode cX11_readHeat 14 = .ok (.getfield 58, 3) := by decide +kernel
theorem dX11_readHeat_17 : decode cX11_readHeat 17 = .ok (.iload_n 1, 1) := by decide +kernel
theorem dX11_readHeat_18 : decode cX11_readHeat 18 = .ok (.ishr, 1) := by decide +kernel
theorem dX11_readHeat_19 : decode cX11_readHeat 19 = .ok (.iconst 1, 1) := by decide +kernel
theorem dX11_readHeat_20 : decode cX11_readHeat 20 = .ok (.iand, 1) := by decide +kernel
theorem dX11_readHeat_21 : decode cX11_readHeat 21 = .ok (.ifCond .ne 7, 3) := by decide +kernel
theorem dX11_readHeat_24 : decode cX11_readHeat 24 = .ok (.iconst 1, 1) := by decide +kernel
theorem dX11_readHeat_25 : decode cX11_readHeat 25 = .ok (.goto 4, 3) := by decide +kernel
theorem dX11_readHeat_28 : decode cX11_readHeat 28 = .ok (.iconst 0, 1) := by decide +kernel
theorem dX11_readHeat_29 : decode cX11_readHeat 29 = .ok (.iconst 4, 1) := by decide +kernel
theorem dX11_readHeat_30 : decode cX11_readHeat 30 = .ok (.invokevirtual 123, 3) := by decide +kernel
theorem dX11_readHeat_33 : decode cX11_readHeat 33 = .ok (.aload_n 0, 1) := by decide +kernel
theorem dX11_readHeat_34 : decode cX11_readHeat 34 = .ok (.dup, 1) := by decide +kernel
theorem dX11_readHeat_35 : decode cX11_readHeat 35 = .ok (.getfield 58, 3) := by decide +kernel
theorem dX11_readHeat_38 : decode cX11_readHeat 38 = .ok (.iconst 1, 1) := by decide +kernel
theorem dX11_readHeat_39 : decode cX11_readHeat 39 = .ok (.iload_n 1, 1) := by decide +kernel
theorem dX11_readHeat_40 : decode cX11_readHeat 40 = .ok (.ishl, 1) := by decide +kernel
theorem dX11_readHeat_41 : decode cX11_readHeat 41 = .ok (.ior, 1) := by decide +kernel
theorem dX11_readHeat_42 : decode cX11_readHeat 42 = .ok (.putfield 58, 3) := by decide +kernel
theorem dX11_readHeat_45 : decode cX11_readHeat 45 = .ok (.aload_n 0, 1) := by decide +kernel
theorem dX11_readHeat_46 : decode cX11_readHeat 46 = .ok (.invokevirtual 131, 3) := by decide +kernel
theorem dX11_readHeat_49 : decode cX11_readHeat 49 = .ok (.iconst 0, 1) := by decide +kernel
theorem dX11_readHeat_50 : decode cX11_readHeat 50 = .ok (.istore_n 2, 1) := by decide +kernel
theorem dX11_readHeat_51 : decode cX11_readHeat 51 = .ok (.iload_n 2, 1) := by decide +kernel
theorem dX11_readHeat_52 : decode cX11_readHeat 52 = .ok (.iconst 3, 1) := by decide +kernel
theorem dX11_readHeat_53 : decode cX11_readHeat 53 = .ok (.if_icmp .ge 28, 3) := by decide +kernel
theorem dX11_readHeat_56 : decode cX11_readHeat 56 = .ok (.aload_n 0, 1) := by decide +kernel
theorem dX11_readHeat_57 : decode cX11_readHeat 57 = .ok (.getfield 20, 3) := by decide +kernel
theorem dX11_readHeat_60 : decode cX11_readHeat 60 = .ok (.iconst 0, 1) := by decide +kernel
theorem dX11_readHeat_61 : decode cX11_readHeat 61 = .ok (.iconst 3, 1) := by decide +kernel
theorem dX11_readHeat_62 : decode cX11_readHeat 62 = .ok (.iload_n 1, 1) := by decide +kernel
theorem dX11_readHeat_63 : decode cX11_readHeat 63 = .ok (.imul, 1) := by decide +kernel
theorem dX11_readHeat_64 : decode cX11_readHeat 64 = .ok (.iadd, 1) := by decide +kernel
theorem dX11_readHeat_65 : decode cX11_readHeat 65 = .ok (.iload_n 2, 1) := by decide +kernel
theorem dX11_readHeat_66 : decode cX11_readHeat 66 = .ok (.iadd, 1) := by decide +kernel
theorem dX11_readHeat_67 : decode cX11_readHeat 67 = .ok (.aload_n 0, 1) := by decide +kernel
theorem dX11_readHeat_68 : decode cX11_readHeat 68 = .ok (.iconst 0, 1) := by decide +kernel
theorem dX11_readHeat_69 : decode cX11_readHeat 69 = .ok (.bipush 99, 2) := by decide +kernel
theorem dX11_readHeat_71 : decode cX11_readHeat 71 = .ok (.invokevirtual 141, 3) := by decide +kernel
theorem dX11_readHeat_74 : decode cX11_readHeat 74 = .ok (.iastore, 1) := by decide +kernel
theorem dX11_readHeat_75 : decode cX11_readHeat 75 = .ok (.iinc 2 1, 3) := by decide +kernel
theorem dX11_readHeat_78 : decode cX11_readHeat 78 = .ok (.goto (-27), 3) := by decide +kernel
theorem dX11_readHeat_81 : decode cX11_readHeat 81 = .ok (.return_, 1) := by decide +kernel
theorem dX11_readWood_0 : decode cX11_readWood 0 = .ok (.bipush 27, 2) := by decide +kernel
theorem dX11_readWood_2 : decode cX11_readWood 2 = .ok (.iconst 3, 1) := by decide +kernel
theorem dX11_readWood_3 : decode cX11_readWood 3 = .ok (.aload_n 0, 1) := by decide +kernel
theorem dX11_readWood_4 : decode cX11_readWood 4 = .ok (.getfield 20, 3) := by decide +kernel
theorem dX11_readWood_7 : decode cX11_readWood 7 = .ok (.bipush 26, 2) := by decide +kernel
theorem dX11_readWood_9 : decode cX11_readWood 9 = .ok (.iaload, 1) := by decide +kernel
theorem dX11_readWood_10 : decode cX11_readWood 10 = .ok (.imul, 1) := by decide +kernel
theorem dX11_readWood_11 : decode cX11_readWood 11 = .ok (.iadd, 1) := by decide +kernel
theorem dX11_readWood_12 : decode cX11_readWood 12 = .ok (.istore_n 1, 1) := by decide +kernel
theorem dX11_readWood_13 : decode cX11_readWood 13 = .ok (.aload_n 0, 1) := by decide +kernel
theorem dX11_readWood_14 : decode cX11_readWood 14 = .ok (.getfield 20, 3) := by decide +kernel
theorem dX11_readWood_17 : decode cX11_readWood 17 = .ok (.iload_n 1, 1) := by decide +kernel
theorem dX11_readWood_18 : decode cX11_readWood 18 = .ok (.aload_n 0, 1) := by decide +kernel
theorem dX11_readWood_19 : decode cX11_readWood 19 = .ok (.invokevirtual 144, 3) := by decide +kernel
theorem dX11_readWood_22 : decode cX11_readWood 22 = .ok (.iastore, 1) := by decide +kernel
theorem dX11_readWood_23 : decode cX11_readWood 23 = .ok (.aload_n 0, 1) := by decide +kernel
theorem dX11_readWood_24 : decode cX11_readWood 24 = .ok (.getfield 20, 3) := by decide +kernel
theorem dX11_readWood_27 : decode cX11_readWood 27 = .ok (.iload_n 1, 1) := by decide +kernel
theorem dX11_readWood_28 : decode cX11_readWood 28 = .ok (.iconst 1, 1) := by decide +kernel
theorem dX11_readWood_29 : decode cX11_readWood 29 = .ok (.iadd, 1) := by decide +kernel
theorem dX11_readWood_30 : decode cX11_readWood 30 = .ok (.aload_n 0, 1) := by decide +kernel
theorem dX11_readWood_31 : decode cX11_readWood 31 = .ok (.iconst 1, 1) := by decide +kernel
theorem dX11_readWood_32 : decode cX11_readWood 32 = .ok (.bipush 99, 2) := by decide +kernel
theorem dX11_readWood_34 : decode cX11_readWood 34 = .ok (.invokevirtual 141, 3) := by decide +kernel
theorem dX11_readWood_37 : decode cX11_readWood 37 = .ok (.iastore, 1) := by decide +kernel
theorem dX11_readWood_38 : decode cX11_readWood 38 = .ok (.aload_n 0, 1) := by decide +kernel
theorem dX11_readWood_39 : decode cX11_readWood 39 = .ok (.getfield 20, 3) := by decide +kernel
theorem dX11_readWood_42 : decode cX11_readWood 42 = .ok (.iload_n 1, 1) := by decide +kernel
theorem dX11_readWood_43 : decode cX11_readWood 43 = .ok (.iconst 2, 1) := by decide +kernel
theorem dX11_readWood_44 : decode cX11_readWood 44 = .ok (.iadd, 1) := by decide +kernel
theorem dX11_readWood_45 : decode cX11_readWood 45 = .ok (.aload_n 0, 1) := by decide +kernel
theorem dX11_readWood_46 : decode cX11_readWood 46 = .ok (.iconst 1, 1) := by decide +kernel
theorem dX11_readWood_47 : decode cX11_readWood 47 = .ok (.bipush 9, 2) := by decide +kernel
theorem dX11_readWood_49 : decode cX11_readWood 49 = .ok (.invokevirtual 141, 3) := by decide +kernel
theorem dX11_readWood_52 : decode cX11_readWood 52 = .ok (.iastore, 1) := by decide +kernel
theorem dX11_readWood_53 : decode cX11_readWood 53 = .ok (.aload_n 0, 1) := by decide +kernel
theorem dX11_readWood_54 : decode cX11_readWood 54 = .ok (.getfield 20, 3) := by decide +kernel
theorem dX11_readWood_57 : decode cX11_readWood 57 = .ok (.bipush 26, 2) := by decide +kernel
theorem dX11_readWood_59 : decode cX11_readWood 59 = .ok (.dup2, 1) := by decide +kernel
theorem dX11_readWood_60 : decode cX11_readWood 60 = .ok (.iaload, 1) := by decide +kernel
theorem dX11_readWood_61 : decode cX11_readWood 61 = .ok (.iconst 1, 1) := by decide +kernel
theorem dX11_readWood_62 : decode cX11_readWood 62 = .ok (.iadd, 1) := by decide +kernel
theorem dX11_readWood_63 : decode cX11_readWood 63 = .ok (.iastore, 1) := by decide +kernel
theorem dX11_readWood_64 : decode cX11_readWood 64 = .ok (.return_, 1) := by decide +kernel
theorem dX11_readSpud_0 : decode cX11_readSpud 0 = .ok (.bipush 47, 2) := by decide +kernel
theorem dX11_readSpud_2 : decode cX11_readSpud 2 = .ok (.bipush 8, 2) := by decide +kernel
theorem dX11_readSpud_4 : decode cX11_readSpud 4 = .ok (.aload_n 0, 1) := by decide +kernel
theorem dX11_readSpud_5 : decode cX11_readSpud 5 = .ok (.getfield 20, 3) := by decide +kernel
theorem dX11_readSpud_8 : decode cX11_readSpud 8 = .ok (.bipush 46, 2) := by decide +kernel
theorem dX11_readSpud_10 : decode cX11_readSpud 10 = .ok (.iaload, 1) := by decide +kernel
theorem dX11_readSpud_11 : decode cX11_readSpud 11 = .ok (.imul, 1) := by decide +kernel
theorem dX11_readSpud_12 : decode cX11_readSpud 12 = .ok (.iadd, 1) := by decide +kernel
theorem dX11_readSpud_13 : decode cX11_readSpud 13 = .ok (.istore_n 2, 1) := by decide +kernel
theorem dX11_readSpud_14 : decode cX11_readSpud 14 = .ok (.aload_n 0, 1) := by decide +kernel
theorem dX11_readSpud_15 : decode cX11_readSpud 15 = .ok (.getfield 20, 3) := by decide +kernel
theorem dX11_readSpud_18 : decode cX11_readSpud 18 = .ok (.iload_n 2, 1) := by decide +kernel
theorem dX11_readSpud_19 : decode cX11_readSpud 19 = .ok (.iconst 0, 1) := by decide +kernel
theorem dX11_readSpud_20 : decode cX11_readSpud 20 = .ok (.iadd, 1) := by decide +kernel
theorem dX11_readSpud_21 : decode cX11_readSpud 21 = .ok (.aload_n 0, 1) := by decide +kernel
theorem dX11_readSpud_22 : decode cX11_readSpud 22 = .ok (.iconst 1, 1) := by decide +kernel
theorem dX11_readSpud_23 : decode cX11_readSpud 23 = .ok (.bipush 9, 2) := by decide +kernel
theorem dX11_readSpud_25 : decode cX11_readSpud 25 = .ok (.invokevirtual 141, 3) := by decide +kernel
theorem dX11_readSpud_28 : decode cX11_readSpud 28 = .ok (.iastore, 1) := by decide +kernel
theorem dX11_readSpud_29 : decode cX11_readSpud 29 = .ok (.aload_n 0, 1) := by decide +kernel
theorem dX11_readSpud_30 : decode cX11_readSpud 30 = .ok (.getfield 20, 3) := by decide +kernel
theorem dX11_readSpud_33 : decode cX11_readSpud 33 = .ok (.iload_n 2, 1) := by decide +kernel
theorem dX11_readSpud_34 : decode cX11_readSpud 34 = .ok (.iconst 1, 1) := by decide +kernel
theorem dX11_readSpud_35 : decode cX11_readSpud 35 = .ok (.iadd, 1) := by decide +kernel
theorem dX11_readSpud_36 : decode cX11_readSpud 36 = .ok (.aload_n 0, 1) := by decide +kernel
theorem dX11_readSpud_37 : decode cX11_readSpud 37 = .ok (.invokevirtual 147, 3) := by decide +kernel
theorem dX11_readSpud_40 : decode cX11_readSpud 40 = .ok (.iastore, 1) := by decide +kernel
theorem dX11_readSpud_41 : decode cX11_readSpud 41 = .ok (.iload_n 1, 1) := by decide +kernel
theorem dX11_readSpud_42 : decode cX11_readSpud 42 = .ok (.ifCond .ne 113, 3) := by decide +kernel
theorem dX11_readSpud_45 : decode cX11_readSpud 45 = .ok (.aload_n 0, 1) := by decide +kernel
theorem dX11_readSpud_46 : decode cX11_readSpud 46 = .ok (.iconst 0, 1) := by decide +kernel
theorem dX11_readSpud_47 : decode cX11_readSpud 47 = .ok (.bipush 23, 2) := by decide +kernel
theorem dX11_readSpud_49 : decode cX11_readSpud 49 = .ok (.invokevirtual 127, 3) := by decide +kernel
theorem dX11_readSpud_52 : decode cX11_readSpud 52 = .ok (.istore_n 3, 1) := by decide +kernel
theorem dX11_readSpud_53 : decode cX11_readSpud 53 = .ok (.aload_n 0, 1) := by decide +kernel
theorem dX11_readSpud_54 : decode cX11_readSpud 54 = .ok (.getfield 85, 3) := by decide +kernel
theorem dX11_readSpud_57 : decode cX11_readSpud 57 = .ok (.ifCond .ne 94, 3) := by decide +kernel
theorem dX11_readSpud_60 : decode cX11_readSpud 60 = .ok (.iconst 1, 1) := by decide +kernel
theorem dX11_readSpud_61 : decode cX11_readSpud 61 = .ok (.istore 4, 2) := by decide +kernel
theorem dX11_readSpud_63 : decode cX11_readSpud 63 = .ok (.iconst 0, 1) := by decide +kernel
theorem dX11_readSpud_64 : decode cX11_readSpud 64 = .ok (.istore 5, 2) := by decide +kernel
theorem dX11_readSpud_66 : decode cX11_readSpud 66 = .ok (.iload 5, 2) := by decide +kernel
theorem dX11_readSpud_68 : decode cX11_readSpud 68 = .ok (.aload_n 0, 1) := by decide +kernel
theorem dX11_readSpud_69 : decode cX11_readSpud 69 = .ok (.getfield 20, 3) := by decide +kernel
theorem dX11_readSpud_72 : decode cX11_readSpud 72 = .ok (.bipush 46, 2) := by decide +kernel
theorem dX11_readSpud_74 : decode cX11_readSpud 74 = .ok (.iaload, 1) := by decide +kernel
theorem dX11_readSpud_75 : decode cX11_readSpud 75 = .ok (.if_icmp .ge 40, 3) := by decide +kernel
theorem dX11_readSpud_78 : decode cX11_readSpud 78 = .ok (.iload 4, 2) := by decide +kernel
theorem dX11_readSpud_80 : decode cX11_readSpud 80 = .ok (.ifCond .eq 26, 3) := by decide +kernel
theorem dX11_readSpud_83 : decode cX11_readSpud 83 = .ok (.aload_n 0, 1) := by decide +kernel
theorem dX11_readSpud_84 : decode cX11_readSpud 84 = .ok (.getfield 20, 3) := by decide +kernel
theorem dX11_readSpud_87 : decode cX11_readSpud 87 = .ok (.bipush 47, 2) := by decide +kernel
theorem dX11_readSpud_89 : decode cX11_readSpud 89 = .ok (.bipush 8, 2) := by decide +kernel
theorem dX11_readSpud_91 : decode cX11_readSpud 91 = .ok (.iload 5, 2) := by decide +kernel
theorem dX11_readSpud_93 : decode cX11_readSpud 93 = .ok (.imul, 1) := by decide +kernel
theorem dX11_readSpud_94 : decode cX11_readSpud 94 = .ok (.iadd, 1) := by decide +kernel
theorem dX11_readSpud_95 : decode cX11_readSpud 95 = .ok (.iconst 2, 1) := by decide +kernel
theorem dX11_readSpud_96 : decode cX11_readSpud 96 = .ok (.iadd, 1) := by decide +kernel
theorem dX11_readSpud_97 : decode cX11_readSpud 97 = .ok (.iaload, 1) := by decide +kernel
theorem dX11_readSpud_98 : decode cX11_readSpud 98 = .ok (.iload_n 3, 1) := by decide +kernel
theorem dX11_readSpud_99 : decode cX11_readSpud 99 = .ok (.if_icmp .eq 7, 3) := by decide +kernel
theorem dX11_readSpud_102 : decode cX11_readSpud 102 = .ok (.iconst 1, 1) := by decide +kernel
theorem dX11_readSpud_103 : decode cX11_readSpud 103 = .ok (.goto 4, 3) := by decide +kernel
theorem dX11_readSpud_106 : decode cX11_readSpud 106 = .ok (.iconst 0, 1) := by decide +kernel
theorem dX11_readSpud_107 : decode cX11_readSpud 107 = .ok (.istore 4, 2) := by decide +kernel
theorem dX11_readSpud_109 : decode cX11_readSpud 109 = .ok (.iinc 5 1, 3) := by decide +kernel
theorem dX11_readSpud_112 : decode cX11_readSpud 112 = .ok (.goto (-46), 3) := by decide +kernel
theorem dX11_readSpud_115 : decode cX11_readSpud 115 = .ok (.aload_n 0, 1) := by decide +kernel
theorem dX11_readSpud_116 : decode cX11_readSpud 116 = .ok (.iload 4, 2) := by decide +kernel
theorem dX11_readSpud_118 : decode cX11_readSpud 118 = .ok (.iconst 4, 1) := by decide +kernel
theorem dX11_readSpud_119 : decode cX11_readSpud 119 = .ok (.invokevirtual 123, 3) := by decide +kernel
theorem dX11_readSpud_122 : decode cX11_readSpud 122 = .ok (.aload_n 0, 1) := by decide +kernel
theorem dX11_readSpud_123 : decode cX11_readSpud 123 = .ok (.iload_n 3, 1) := by decide +kernel
theorem dX11_readSpud_124 : decode cX11_readSpud 124 = .ok (.aload_n 0, 1) := by decide +kernel
theorem dX11_readSpud_125 : decode cX11_readSpud 125 = .ok (.getfield 67, 3) := by decide +kernel
theorem dX11_readSpud_128 : decode cX11_readSpud 128 = .ok (.if_icmp .le 7, 3) := by decide +kernel
theorem dX11_readSpud_131 : decode cX11_readSpud 131 = .ok (.iload_n 3, 1) := by decide +kernel
theorem dX11_readSpud_132 : decode cX11_readSpud 132 = .ok (.goto 7, 3) := by decide +kernel
theorem dX11_readSpud_135 : decode cX11_readSpud 135 = .ok (.aload_n 0, 1) := by decide +kernel
theorem dX11_readSpud_136 : decode cX11_readSpud 136 = .ok (.getfield 67, 3) := by decide +kernel
theorem dX11_readSpud_139 : decode cX11_readSpud 139 = .ok (.putfield 67, 3) := by decide +kernel
theorem dX11_readSpud_142 : decode cX11_readSpud 142 = .ok (.aload_n 0, 1) := by decide +kernel
theorem dX11_readSpud_143 : decode cX11_readSpud 143 = .ok (.getfield 20, 3) := by decide +kernel
theorem dX11_readSpud_146 : decode cX11_readSpud 146 = .ok (.iload_n 2, 1) := by decide +kernel
theorem dX11_readSpud_147 : decode cX11_readSpud 147 = .ok (.iconst 2, 1) := by decide +kernel
theorem dX11_readSpud_148 : decode cX11_readSpud 148 = .ok (.iadd, 1) := by decide +kernel
theorem dX11_readSpud_149 : decode cX11_readSpud 149 = .ok (.iload_n 3, 1) := by decide +kernel
theorem dX11_readSpud_150 : decode cX11_readSpud 150 = .ok (.iastore, 1) := by decide +kernel
theorem dX11_readSpud_151 : decode cX11_readSpud 151 = .ok (.aload_n 0, 1) := by decide +kernel
theorem dX11_readSpud_152 : decode cX11_readSpud 152 = .ok (.invokevirtual 131, 3) := by decide +kernel
theorem dX11_readSpud_155 : decode cX11_readSpud 155 = .ok (.aload_n 0, 1) := by decide +kernel
theorem dX11_readSpud_156 : decode cX11_readSpud 156 = .ok (.getfield 20, 3) := by decide +kernel
theorem dX11_readSpud_159 : decode cX11_readSpud 159 = .ok (.bipush 46, 2) := by decide +kernel
theorem dX11_readSpud_161 : decode cX11_readSpud 161 = .ok (.dup2, 1) := by decide +kernel
theorem dX11_readSpud_162 : decode cX11_readSpud 162 = .ok (.iaload, 1) := by decide +kernel
theorem dX11_readSpud_163 : decode cX11_readSpud 163 = .ok (.iconst 1, 1) := by decide +kernel
theorem dX11_readSpud_164 : decode cX11_readSpud 164 = .ok (.iadd, 1) := by decide +kernel
theorem dX11_readSpud_165 : decode cX11_readSpud 165 = .ok (.iastore, 1) := by decide +kernel
theorem dX11_readSpud_166 : decode cX11_readSpud 166 = .ok (.return_, 1) := by decide +kernel
theorem dX11_readMemo_0 : decode cX11_readMemo 0 = .ok (.aload_n 0, 1) := by decide +kernel
theorem dX11_readMemo_1 : decode cX11_readMemo 1 = .ok (.iconst 0, 1) := by decide +kernel
theorem dX11_readMemo_2 : decode cX11_readMemo 2 = .ok (.iconst 5, 1) := by decide +kernel
theorem dX11_readMemo_3 : decode cX11_readMemo 3 = .ok (.invokevirtual 127, 3) := by decide +kernel
theorem dX11_readMemo_6 : decode cX11_readMemo 6 = .ok (.istore_n 1, 1) := by decide +kernel
theorem dX11_readMemo_7 : decode cX11_readMemo 7 = .ok (.aload_n 0, 1) := by decide +kernel
theorem dX11_readMemo_8 : decode cX11_readMemo 8 = .ok (.getfield 85, 3) := by decide +kernel
theorem dX11_readMemo_11 : decode cX11_readMemo 11 = .ok (.ifCond .ne 56, 3) := by decide +kernel
theorem dX11_readMemo_14 : decode cX11_readMemo 14 = .ok (.aload_n 0, 1) := by decide +kernel
theorem dX11_readMemo_15 : decode cX11_readMemo 15 = .ok (.aload_n 0, 1) := by decide +kernel
theorem dX11_readMemo_16 : decode cX11_readMemo 16 = .ok (.getfield 61, 3) := by decide +kernel
theorem dX11_readMemo_19 : decode cX11_readMemo 19 = .ok (.iload_n 1, 1) := by decide +kernel
theorem dX11_readMemo_20 : decode cX11_readMemo 20 = .ok (.ishr, 1) := by decide +kernel
theorem dX11_readMemo_21 : decode cX11_readMemo 21 = .ok (.iconst 1, 1) := by decide +kernel
theorem dX11_readMemo_22 : decode cX11_readMemo 22 = .ok (.iand, 1) := by decide +kernel
theorem dX11_readMemo_23 : decode cX11_readMemo 23 = .ok (.ifCond .ne 7, 3) := by decide +kernel
theorem dX11_readMemo_26 : decode cX11_readMemo 26 = .ok (.iconst 1, 1) := by decide +kernel
theorem dX11_readMemo_27 : decode cX11_readMemo 27 = .ok (.goto 4, 3) := by decide +kernel
theorem dX11_readMemo_30 : decode cX11_readMemo 30 = .ok (.iconst 0, 1) := by decide +kernel
theorem dX11_readMemo_31 : decode cX11_readMemo 31 = .ok (.iconst 4, 1) := by decide +kernel
theorem dX11_readMemo_32 : decode cX11_readMemo 32 = .ok (.invokevirtual 123, 3) := by decide +kernel
theorem dX11_readMemo_35 : decode cX11_readMemo 35 = .ok (.aload_n 0, 1) := by decide +kernel
theorem dX11_readMemo_36 : decode cX11_readMemo 36 = .ok (.dup, 1) := by decide +kernel
theorem dX11_readMemo_37 : decode cX11_readMemo 37 = .ok (.getfield 61, 3) := by decide +kernel
theorem dX11_readMemo_40 : decode cX11_readMemo 40 = .ok (.iconst 1, 1) := by decide +kernel
theorem dX11_readMemo_41 : decode cX11_readMemo 41 = .ok (.iload_n 1, 1) := by decide +kernel
theorem dX11_readMemo_42 : decode cX11_readMemo 42 = .ok (.ishl, 1) := by decide +kernel
theorem dX11_readMemo_43 : decode cX11_readMemo 43 = .ok (.ior, 1) := by decide +kernel
theorem dX11_readMemo_44 : decode cX11_readMemo 44 = .ok (.putfield 61, 3) := by decide +kernel
theorem dX11_readMemo_47 : decode cX11_readMemo 47 = .ok (.aload_n 0, 1) := by decide +kernel
theorem dX11_readMemo_48 : decode cX11_readMemo 48 = .ok (.iload_n 1, 1) := by decide +kernel
theorem dX11_readMemo_49 : decode cX11_readMemo 49 = .ok (.aload_n 0, 1) := by decide +kernel
theorem dX11_readMemo_50 : decode cX11_readMemo 50 = .ok (.getfield 70, 3) := by decide +kernel
theorem dX11_readMemo_53 : decode cX11_readMemo 53 = .ok (.if_icmp .le 7, 3) := by decide +kernel
theorem dX11_readMemo_56 : decode cX11_readMemo 56 = .ok (.iload_n 1, 1) := by decide +kernel
theorem dX11_readMemo_57 : decode cX11_readMemo 57 = .ok (.goto 7, 3) := by decide +kernel
theorem dX11_readMemo_60 : decode cX11_readMemo 60 = .ok (.aload_n 0, 1) := by decide +kernel
theorem dX11_readMemo_61 : decode cX11_readMemo 61 = .ok (.getfield 70, 3) := by decide +kernel
theorem dX11_readMemo_64 : decode cX11_readMemo 64 = .ok (.putfield 70, 3) := by decide +kernel
theorem dX11_readMemo_67 : decode cX11_readMemo 67 = .ok (.aload_n 0, 1) := by decide +kernel
theorem dX11_readMemo_68 : decode cX11_readMemo 68 = .ok (.invokevirtual 131, 3) := by decide +kernel
theorem dX11_readMemo_71 : decode cX11_readMemo 71 = .ok (.aload_n 0, 1) := by decide +kernel
theorem dX11_readMemo_72 : decode cX11_readMemo 72 = .ok (.invokevirtual 144, 3) := by decide +kernel
theorem dX11_readMemo_75 : decode cX11_readMemo 75 = .ok (.istore_n 2, 1) := by decide +kernel
theorem dX11_readMemo_76 : decode cX11_readMemo 76 = .ok (.aload_n 0, 1) := by decide +kernel
theorem dX11_readMemo_77 : decode cX11_readMemo 77 = .ok (.getfield 20, 3) := by decide +kernel
theorem dX11_readMemo_80 : decode cX11_readMemo 80 = .ok (.bipush 47, 2) := by decide +kernel
theorem dX11_readMemo_82 : decode cX11_readMemo 82 = .ok (.bipush 8, 2) := by decide +kernel
theorem dX11_readMemo_84 : decode cX11_readMemo 84 = .ok (.iload_n 1, 1) := by decide +kernel
theorem dX11_readMemo_85 : decode cX11_readMemo 85 = .ok (.imul, 1) := by decide +kernel
theorem dX11_readMemo_86 : decode cX11_readMemo 86 = .ok (.iadd, 1) := by decide +kernel
theorem dX11_readMemo_87 : decode cX11_readMemo 87 = .ok (.bipush 7, 2) := by decide +kernel
theorem dX11_readMemo_89 : decode cX11_readMemo 89 = .ok (.iadd, 1) := by decide +kernel
theorem dX11_readMemo_90 : decode cX11_readMemo 90 = .ok (.iload_n 2, 1) := by decide +kernel
theorem dX11_readMemo_91 : decode cX11_readMemo 91 = .ok (.iastore, 1) := by decide +kernel
theorem dX11_readMemo_92 : decode cX11_readMemo 92 = .ok (.return_, 1) := by decide +kernel
theorem dX11_readLineOf_0 : decode cX11_readLineOf 0 = .ok (.iload_n 1, 1) := by decide +kernel
theorem dX11_readLineOf_1 : decode cX11_readLineOf 1 = .ok (.tableswitch 102 0 5 #[39, 81, 88, 102, 102, 95], 39) := by decide +kernel
theorem dX11_readLineOf_40 : decode cX11_readLineOf 40 = .ok (.aload_n 0, 1) := by decide +kernel
theorem dX11_readLineOf_41 : decode cX11_readLineOf 41 = .ok (.aload_n 0, 1) := by decide +kernel
theorem dX11_readLineOf_42 : decode cX11_readLineOf 42 = .ok (.iconst 3, 1) := by decide +kernel
theorem dX11_readLineOf_43 : decode cX11_readLineOf 43 = .ok (.bipush 8, 2) := by decide +kernel
theorem dX11_readLineOf_45 : decode cX11_readLineOf 45 = .ok (.invokevirtual 141, 3) := by decide +kernel
theorem dX11_readLineOf_48 : decode cX11_readLineOf 48 = .ok (.putfield 50, 3) := by decide +kernel
theorem dX11_readLineOf_51 : decode cX11_readLineOf 51 = .ok (.aload_n 0, 1) := by decide +kernel
theorem dX11_readLineOf_52 : decode cX11_readLineOf 52 = .ok (.getfield 20, 3) := by decide +kernel
theorem dX11_readLineOf_55 : decode cX11_readLineOf 55 = .ok (.bipush 24, 2) := by decide +kernel
theorem dX11_readLineOf_57 : decode cX11_readLineOf 57 = .ok (.aload_n 0, 1) := by decide +kernel
theorem dX11_readLineOf_58 : decode cX11_readLineOf 58 = .ok (.iconst 0, 1) := by decide +kernel
theorem dX11_readLineOf_59 : decode cX11_readLineOf 59 = .ok (.bipush 9, 2) := by decide +kernel
theorem dX11_readLineOf_61 : decode cX11_readLineOf 61 = .ok (.invokevirtual 141, 3) := by decide +kernel
theorem dX11_readLineOf_64 : decode cX11_readLineOf 64 = .ok (.iastore, 1) := by decide +kernel
theorem dX11_readLineOf_65 : decode cX11_readLineOf 65 = .ok (.aload_n 0, 1) := by decide +kernel
theorem dX11_readLineOf_66 : decode cX11_readLineOf 66 = .ok (.getfield 20, 3) := by decide +kernel
theorem dX11_readLineOf_69 : decode cX11_readLineOf 69 = .ok (.bipush 25, 2) := by decide +kernel
theorem dX11_readLineOf_71 : decode cX11_readLineOf 71 = .ok (.aload_n 0, 1) := by decide +kernel
theorem dX11_readLineOf_72 : decode cX11_readLineOf 72 = .ok (.iconst 0, 1) := by decide +kernel
theorem dX11_readLineOf_73 : decode cX11_readLineOf 73 = .ok (.bipush 9, 2) := by decide +kernel
theorem dX11_readLineOf_75 : decode cX11_readLineOf 75 = .ok (.invokevirtual 141, 3) := by decide +kernel
theorem dX11_readLineOf_78 : decode cX11_readLineOf 78 = .ok (.iastore, 1) := by decide +kernel
theorem dX11_readLineOf_79 : decode cX11_readLineOf 79 = .ok (.goto 38, 3) := by decide +kernel
theorem dX11_readLineOf_82 : decode cX11_readLineOf 82 = .ok (.aload_n 0, 1) := by decide +kernel
theorem dX11_readLineOf_83 : decode cX11_readLineOf 83 = .ok (.invokevirtual 150, 3) := by decide +kernel
theorem dX11_readLineOf_86 : decode cX11_readLineOf 86 = .ok (.goto 31, 3) := by decide +kernel
theorem dX11_readLineOf_89 : decode cX11_readLineOf 89 = .ok (.aload_n 0, 1) := by decide +kernel
theorem dX11_readLineOf_90 : decode cX11_readLineOf 90 = .ok (.invokevirtual 153, 3) := by decide +kernel
theorem dX11_readLineOf_93 : decode cX11_readLineOf 93 = .ok (.goto 24, 3) := by decide +kernel
theorem dX11_readLineOf_96 : decode cX11_readLineOf 96 = .ok (.aload_n 0, 1) := by decide +kernel
theorem dX11_readLineOf_97 : decode cX11_readLineOf 97 = .ok (.invokevirtual 156, 3) := by decide +kernel
theorem dX11_readLineOf_100 : decode cX11_readLineOf 100 = .ok (.goto 17, 3) := by decide +kernel
theorem dX11_readLineOf_103 : decode cX11_readLineOf 103 = .ok (.aload_n 0, 1) := by decide +kernel
theorem dX11_readLineOf_104 : decode cX11_readLineOf 104 = .ok (.iload_n 1, 1) := by decide +kernel
theorem dX11_readLineOf_105 : decode cX11_readLineOf 105 = .ok (.iconst 4, 1) := by decide +kernel
theorem dX11_readLineOf_106 : decode cX11_readLineOf 106 = .ok (.if_icmp .ne 7, 3) := by decide +kernel
theorem dX11_readLineOf_109 : decode cX11_readLineOf 109 = .ok (.iconst 1, 1) := by decide +kernel
theorem dX11_readLineOf_110 : decode cX11_readLineOf 110 = .ok (.goto 4, 3) := by decide +kernel
theorem dX11_readLineOf_113 : decode cX11_readLineOf 113 = .ok (.iconst 0, 1) := by decide +kernel
theorem dX11_readLineOf_114 : decode cX11_readLineOf 114 = .ok (.invokevirtual 159, 3) := by decide +kernel
theorem dX11_readLineOf_117 : decode cX11_readLineOf 117 = .ok (.return_, 1) := by decide +kernel
theorem dX11_readLine_0 : decode cX11_readLine 0 = .ok (.aload_n 0, 1) := by decide +kernel
theorem dX11_readLine_1 : decode cX11_readLine 1 = .ok (.getfield 109, 3) := by decide +kernel
theorem dX11_readLine_4 : decode cX11_readLine 4 = .ok (.iconst 1, 1) := by decide +kernel
theorem dX11_readLine_5 : decode cX11_readLine 5 = .ok (.if_icmp .ne 10, 3) := by decide +kernel
theorem dX11_readLine_8 : decode cX11_readLine 8 = .ok (.aload_n 0, 1) := by decide +kernel
theorem dX11_readLine_9 : decode cX11_readLine 9 = .ok (.invokevirtual 163, 3) := by decide +kernel
theorem dX11_readLine_12 : decode cX11_readLine 12 = .ok (.goto 5, 3) := by decide +kernel
theorem dX11_readLine_15 : decode cX11_readLine 15 = .ok (.bipush (-4), 2) := by decide +kernel
theorem dX11_readLine_17 : decode cX11_readLine 17 = .ok (.istore_n 1, 1) := by decide +kernel
theorem dX11_readLine_18 : decode cX11_readLine 18 = .ok (.iload_n 1, 1) := by decide +kernel
theorem dX11_readLine_19 : decode cX11_readLine 19 = .ok (.iconst 2, 1) := by decide +kernel
theorem dX11_readLine_20 : decode cX11_readLine 20 = .ok (.if_icmp .ne 15, 3) := by decide +kernel
theorem dX11_readLine_23 : decode cX11_readLine 23 = .ok (.aload_n 0, 1) := by decide +kernel
theorem dX11_readLine_24 : decode cX11_readLine 24 = .ok (.getfield 20, 3) := by decide +kernel
theorem dX11_readLine_27 : decode cX11_readLine 27 = .ok (.bipush 26, 2) := by decide +kernel
theorem dX11_readLine_29 : decode cX11_readLine 29 = .ok (.iaload, 1) := by decide +kernel
theorem dX11_readLine_30 : decode cX11_readLine 30 = .ok (.bipush 6, 2) := by decide +kernel
theorem dX11_readLine_32 : decode cX11_readLine 32 = .ok (.if_icmp .eq 25, 3) := by decide +kernel
theorem dX11_readLine_35 : decode cX11_readLine 35 = .ok (.iload_n 1, 1) := by decide +kernel
theorem dX11_readLine_36 : decode cX11_readLine 36 = .ok (.iconst 3, 1) := by decide +kernel
theorem dX11_readLine_37 : decode cX11_readLine 37 = .ok (.if_icmp .eq 8, 3) := by decide +kernel
theorem dX11_readLine_40 : decode cX11_readLine 40 = .ok (.iload_n 1, 1) := by decide +kernel
theorem dX11_readLine_41 : decode cX11_readLine 41 = .ok (.iconst 4, 1) := by decide +kernel
theorem dX11_readLine_42 : decode cX11_readLine 42 = .ok (.if_icmp .ne 19, 3) := by decide +kernel
theorem dX11_readLine_45 : decode cX11_readLine 45 = .ok (.aload_n 0, 1) := by decide +kernel
theorem dX11_readLine_46 : decode cX11_readLine 46 = .ok (.getfield 20, 3) := by decide +kernel
theorem dX11_readLine_49 : decode cX11_readLine 49 = .ok (.bipush 46, 2) := by decide +kernel
theorem dX11_readLine_51 : decode cX11_readLine 51 = .ok (.iaload, 1) := by decide +kernel
theorem dX11_readLine_52 : decode cX11_readLine 52 = .ok (.bipush 6, 2) := by decide +kernel
theorem dX11_readLine_54 : decode cX11_readLine 54 = .ok (.if_icmp .ne 7, 3) := by decide +kernel
theorem dX11_readLine_57 : decode cX11_readLine 57 = .ok (.iconst 1, 1) := by decide +kernel
theorem dX11_readLine_58 : decode cX11_readLine 58 = .ok (.goto 4, 3) := by decide +kernel
theorem dX11_readLine_61 : decode cX11_readLine 61 = .ok (.iconst 0, 1) := by decide +kernel
theorem dX11_readLine_62 : decode cX11_readLine 62 = .ok (.istore_n 2, 1) := by decide +kernel
theorem dX11_readLine_63 : decode cX11_readLine 63 = .ok (.aload_n 0, 1) := by decide +kernel
theorem dX11_readLine_64 : decode cX11_readLine 64 = .ok (.iload_n 1, 1) := by decide +kernel
theorem dX11_readLine_65 : decode cX11_readLine 65 = .ok (.bipush (-4), 2) := by decide +kernel
theorem dX11_readLine_67 : decode cX11_readLine 67 = .ok (.if_icmp .eq 7, 3) := by decide +kernel
theorem dX11_readLine_70 : decode cX11_readLine 70 = .ok (.iconst 1, 1) := by decide +kernel
theorem dX11_readLine_71 : decode cX11_readLine 71 = .ok (.goto 4, 3) := by decide +kernel
theorem dX11_readLine_74 : decode cX11_readLine 74 = .ok (.iconst 0, 1) := by decide +kernel
theorem dX11_readLine_75 : decode cX11_readLine 75 = .ok (.iconst 2, 1) := by decide +kernel
theorem dX11_readLine_76 : decode cX11_readLine 76 = .ok (.invokevirtual 123, 3) := by decide +kernel
theorem dX11_readLine_79 : decode cX11_readLine 79 = .ok (.aload_n 0, 1) := by decide +kernel
theorem dX11_readLine_80 : decode cX11_readLine 80 = .ok (.iload_n 2, 1) := by decide +kernel
theorem dX11_readLine_81 : decode cX11_readLine 81 = .ok (.ifCond .ne 7, 3) := by decide +kernel
theorem dX11_readLine_84 : decode cX11_readLine 84 = .ok (.iconst 1, 1) := by decide +kernel
theorem dX11_readLine_85 : decode cX11_readLine 85 = .ok (.goto 4, 3) := by decide +kernel
theorem dX11_readLine_88 : decode cX11_readLine 88 = .ok (.iconst 0, 1) := by decide +kernel
theorem dX11_readLine_89 : decode cX11_readLine 89 = .ok (.iconst 5, 1) := by decide +kernel
theorem dX11_readLine_90 : decode cX11_readLine 90 = .ok (.invokevirtual 123, 3) := by decide +kernel
theorem dX11_readLine_93 : decode cX11_readLine 93 = .ok (.aload_n 0, 1) := by decide +kernel
theorem dX11_readLine_94 : decode cX11_readLine 94 = .ok (.iload_n 1, 1) := by decide +kernel
theorem dX11_readLine_95 : decode cX11_readLine 95 = .ok (.ifCond .ne 10, 3) := by decide +kernel
theorem dX11_readLine_98 : decode cX11_readLine 98 = .ok (.aload_n 0, 1) := by decide +kernel
theorem dX11_readLine_99 : decode cX11_readLine 99 = .ok (.getfield 54, 3) := by decide +kernel
theorem dX11_readLine_102 : decode cX11_readLine 102 = .ok (.ifCond .ne 7, 3) := by decide +kernel
theorem dX11_readLine_105 : decode cX11_readLine 105 = .ok (.iconst 1, 1) := by decide +kernel
theorem dX11_readLine_106 : decode cX11_readLine 106 = .ok (.goto 4, 3) := by decide +kernel
theorem dX11_readLine_109 : decode cX11_readLine 109 = .ok (.iconst 0, 1) := by decide +kernel
theorem dX11_readLine_110 : decode cX11_readLine 110 = .ok (.iconst 4, 1) := by decide +kernel
theorem dX11_readLine_111 : decode cX11_readLine 111 = .ok (.invokevirtual 123, 3) := by decide +kernel
theorem dX11_readLine_114 : decode cX11_readLine 114 = .ok (.aload_n 0, 1) := by decide +kernel
theorem dX11_readLine_115 : decode cX11_readLine 115 = .ok (.aload_n 0, 1) := by decide +kernel
theorem dX11_readLine_116 : decode cX11_readLine 116 = .ok (.getfield 54, 3) := by decide +kernel
theorem dX11_readLine_119 : decode cX11_readLine 119 = .ok (.ifCond .ne 7, 3) := by decide +kernel
theorem dX11_readLine_122 : decode cX11_readLine 122 = .ok (.iload_n 1, 1) := by decide +kernel
theorem dX11_readLine_123 : decode cX11_readLine 123 = .ok (.ifCond .ne 7, 3) := by decide +kernel
theorem dX11_readLine_126 : decode cX11_readLine 126 = .ok (.iconst 1, 1) := by decide +kernel
theorem dX11_readLine_127 : decode cX11_readLine 127 = .ok (.goto 4, 3) := by decide +kernel
theorem dX11_readLine_130 : decode cX11_readLine 130 = .ok (.iconst 0, 1) := by decide +kernel
theorem dX11_readLine_131 : decode cX11_readLine 131 = .ok (.putfield 54, 3) := by decide +kernel
theorem dX11_readLine_134 : decode cX11_readLine 134 = .ok (.aload_n 0, 1) := by decide +kernel
theorem dX11_readLine_135 : decode cX11_readLine 135 = .ok (.invokevirtual 131, 3) := by decide +kernel
theorem dX11_readLine_138 : decode cX11_readLine 138 = .ok (.aload_n 0, 1) := by decide +kernel
theorem dX11_readLine_139 : decode cX11_readLine 139 = .ok (.getfield 85, 3) := by decide +kernel
theorem dX11_readLine_142 : decode cX11_readLine 142 = .ok (.ifCond .le 4, 3) := by decide +kernel
theorem dX11_readLine_145 : decode cX11_readLine 145 = .ok (.return_, 1) := by decide +kernel
theorem dX11_readLine_146 : decode cX11_readLine 146 = .ok (.aload_n 0, 1) := by decide +kernel
theorem dX11_readLine_147 : decode cX11_readLine 147 = .ok (.iload_n 1, 1) := by decide +kernel
theorem dX11_readLine_148 : decode cX11_readLine 148 = .ok (.invokevirtual 166, 3) := by decide +kernel
theorem dX11_readLine_151 : decode cX11_readLine 151 = .ok (.aload_n 0, 1) := by decide +kernel
theorem dX11_readLine_152 : decode cX11_readLine 152 = .ok (.getfield 85, 3) := by decide +kernel
theorem dX11_readLine_155 : decode cX11_readLine 155 = .ok (.ifCond .ne 21, 3) := by decide +kernel
theorem dX11_readLine_158 : decode cX11_readLine 158 = .ok (.aload_n 0, 1) := by decide +kernel
theorem dX11_readLine_159 : decode cX11_readLine 159 = .ok (.aload_n 0, 1) := by decide +kernel
theorem dX11_readLine_160 : decode cX11_readLine 160 = .ok (.getfield 109, 3) := by decide +kernel
theorem dX11_readLine_163 : decode cX11_readLine 163 = .ok (.iconst 3, 1) := by decide +kernel
theorem dX11_readLine_164 : decode cX11_readLine 164 = .ok (.if_icmp .ne 7, 3) := by decide +kernel
theorem dX11_readLine_167 : decode cX11_readLine 167 = .ok (.iconst 1, 1) := by decide +kernel
theorem dX11_readLine_168 : decode cX11_readLine 168 = .ok (.goto 4, 3) := by decide +kernel
theorem dX11_readLine_171 : decode cX11_readLine 171 = .ok (.iconst 0, 1) := by decide +kernel
theorem dX11_readLine_172 : decode cX11_readLine 172 = .ok (.iconst 2, 1) := by decide +kernel
theorem dX11_readLine_173 : decode cX11_readLine 173 = .ok (.invokevirtual 123, 3) := by decide +kernel
theorem dX11_readLine_176 : decode cX11_readLine 176 = .ok (.aload_n 0, 1) := by decide +kernel
theorem dX11_readLine_177 : decode cX11_readLine 177 = .ok (.invokevirtual 131, 3) := by decide +kernel
theorem dX11_readLine_180 : decode cX11_readLine 180 = .ok (.return_, 1) := by decide +kernel
theorem dX11_text_0 : decode cX11_text 0 = .ok (.iconst 0, 1) := by decide +kernel
theorem dX11_text_1 : decode cX11_text 1 = .ok (.istore_n 1, 1) := by decide +kernel
theorem dX11_text_2 : decode cX11_text 2 = .ok (.aload_n 0, 1) := by decide +kernel
theorem dX11_text_3 : decode cX11_text 3 = .ok (.iconst 0, 1) := by decide +kernel
theorem dX11_text_4 : decode cX11_text 4 = .ok (.putfield 85, 3) := by decide +kernel
theorem dX11_text_7 : decode cX11_text 7 = .ok (.aload_n 0, 1) := by decide +kernel
theorem dX11_text_8 : decode cX11_text 8 = .ok (.iconst 0, 1) := by decide +kernel
theorem dX11_text_9 : decode cX11_text 9 = .ok (.putfield 94, 3) := by decide +kernel
theorem dX11_text_12 : decode cX11_text 12 = .ok (.aload_n 0, 1) := by decide +kernel
theorem dX11_text_13 : decode cX11_text 13 = .ok (.invokevirtual 44, 3) := by decide +kernel
theorem dX11_text_16 : decode cX11_text 16 = .ok (.aload_n 0, 1) := by decide +kernel
theorem dX11_text_17 : decode cX11_text 17 = .ok (.invokevirtual 131, 3) := by decide +kernel
theorem dX11_text_20 : decode cX11_text 20 = .ok (.aload_n 0, 1) := by decide +kernel
theorem dX11_text_21 : decode cX11_text 21 = .ok (.getfield 85, 3) := by decide +kernel
theorem dX11_text_24 : decode cX11_text 24 = .ok (.ifCond .ne 20, 3) := by decide +kernel
theorem dX11_text_27 : decode cX11_text 27 = .ok (.aload_n 0, 1) := by decide +kernel
theorem dX11_text_28 : decode cX11_text 28 = .ok (.getfield 109, 3) := by decide +kernel
theorem dX11_text_31 : decode cX11_text 31 = .ok (.ifCond .eq 13, 3) := by decide +kernel
theorem dX11_text_34 : decode cX11_text 34 = .ok (.aload_n 0, 1) := by decide +kernel
theorem dX11_text_35 : decode cX11_text 35 = .ok (.invokevirtual 170, 3) := by decide +kernel
theorem dX11_text_38 : decode cX11_text 38 = .ok (.iinc 1 1, 3) := by decide +kernel
theorem dX11_text_41 : decode cX11_text 41 = .ok (.goto (-21), 3) := by decide +kernel
theorem dX11_text_44 : decode cX11_text 44 = .ok (.aload_n 0, 1) := by decide +kernel
theorem dX11_text_45 : decode cX11_text 45 = .ok (.getfield 85, 3) := by decide +kernel
theorem dX11_text_48 : decode cX11_text 48 = .ok (.ifCond .ne 52, 3) := by decide +kernel
theorem dX11_text_51 : decode cX11_text 51 = .ok (.aload_n 0, 1) := by decide +kernel
theorem dX11_text_52 : decode cX11_text 52 = .ok (.aload_n 0, 1) := by decide +kernel
theorem dX11_text_53 : decode cX11_text 53 = .ok (.getfield 64, 3) := by decide +kernel
theorem dX11_text_56 : decode cX11_text 56 = .ok (.aload_n 0, 1) := by decide +kernel
theorem dX11_text_57 : decode cX11_text 57 = .ok (.getfield 50, 3) := by decide +kernel
theorem dX11_text_60 : decode cX11_text 60 = .ok (.if_icmp .ge 34, 3) := by decide +kernel
theorem dX11_text_63 : decode cX11_text 63 = .ok (.aload_n 0, 1) := by decide +kernel
theorem dX11_text_64 : decode cX11_text 64 = .ok (.getfield 67, 3) := by decide +kernel
theorem dX11_text_67 : decode cX11_text 67 = .ok (.iconst 3, 1) := by decide +kernel
theorem dX11_text_68 : decode cX11_text 68 = .ok (.aload_n 0, 1) := by decide +kernel
theorem dX11_text_69 : decode cX11_text 69 = .ok (.getfield 50, 3) := by decide +kernel
theorem dX11_text_72 : decode cX11_text 72 = .ok (.imul, 1) := by decide +kernel
theorem dX11_text_73 : decode cX11_text 73 = .ok (.if_icmp .ge 21, 3) := by decide +kernel
theorem dX11_text_76 : decode cX11_text 76 = .ok (.aload_n 0, 1) := by decide +kernel
theorem dX11_text_77 : decode cX11_text 77 = .ok (.getfield 70, 3) := by decide +kernel
theorem dX11_text_80 : decode cX11_text 80 = .ok (.aload_n 0, 1) := by decide +kernel
theorem dX11_text_81 : decode cX11_text 81 = .ok (.getfield 20, 3) := by decide +kernel
theorem dX11_text_84 : decode cX11_text 84 = .ok (.bipush 46, 2) := by decide +kernel
theorem dX11_text_86 : decode cX11_text 86 = .ok (.iaload, 1) := by decide +kernel
theorem dX11_text_87 : decode cX11_text 87 = .ok (.if_icmp .ge 7, 3) := by decide +kernel
theorem dX11_text_90 : decode cX11_text 90 = .ok (.iconst 1, 1) := by decide +kernel
theorem dX11_text_91 : decode cX11_text 91 = .ok (.goto 4, 3) := by decide +kernel
theorem dX11_text_94 : decode cX11_text 94 = .ok (.iconst 0, 1) := by decide +kernel
theorem dX11_text_95 : decode cX11_text 95 = .ok (.bipush 6, 2) := by decide +kernel
theorem dX11_text_97 : decode cX11_text 97 = .ok (.invokevirtual 123, 3) := by decide +kernel
theorem dX11_text_100 : decode cX11_text 100 = .ok (.aload_n 0, 1) := by decide +kernel
theorem dX11_text_101 : decode cX11_text 101 = .ok (.iconst 0, 1) := by decide +kernel
theorem dX11_text_102 : decode cX11_text 102 = .ok (.putfield 82, 3) := by decide +kernel
theorem dX11_text_105 : decode cX11_text 105 = .ok (.aload_n 0, 1) := by decide +kernel
theorem dX11_text_106 : decode cX11_text 106 = .ok (.getfield 85, 3) := by decide +kernel
theorem dX11_text_109 : decode cX11_text 109 = .ok (.ifCond .le 11, 3) := by decide +kernel
theorem dX11_text_112 : decode cX11_text 112 = .ok (.bipush (-10), 2) := by decide +kernel
theorem dX11_text_114 : decode cX11_text 114 = .ok (.aload_n 0, 1) := by decide +kernel
theorem dX11_text_115 : decode cX11_text 115 = .ok (.getfield 91, 3) := by decide +kernel
theorem dX11_text_118 : decode cX11_text 118 = .ok (.isub, 1) := by decide +kernel
theorem dX11_text_119 : decode cX11_text 119 = .ok (.ireturn, 1) := by decide +kernel
theorem dX11_text_120 : decode cX11_text 120 = .ok (.aload_n 0, 1) := by decide +kernel
theorem dX11_text_121 : decode cX11_text 121 = .ok (.invokevirtual 47, 3) := by decide +kernel
theorem dX11_text_124 : decode cX11_text 124 = .ok (.iload_n 1, 1) := by decide +kernel
theorem dX11_text_125 : decode cX11_text 125 = .ok (.ireturn, 1) := by decide +kernel
theorem dX11_fault_0 : decode cX11_fault 0 = .ok (.aload_n 0, 1) := by decide +kernel
theorem dX11_fault_1 : decode cX11_fault 1 = .ok (.getfield 85, 3) := by decide +kernel
theorem dX11_fault_4 : decode cX11_fault 4 = .ok (.ireturn, 1) := by decide +kernel
theorem dX11_isCell_0 : decode cX11_isCell 0 = .ok (.iload_n 1, 1) := by decide +kernel
theorem dX11_isCell_1 : decode cX11_isCell 1 = .ok (.i2l, 1) := by decide +kernel
theorem dX11_isCell_2 : decode cX11_isCell 2 = .ok (.lconst 0, 1) := by decide +kernel
theorem dX11_isCell_3 : decode cX11_isCell 3 = .ok (.aload_n 0, 1) := by decide +kernel
theorem dX11_isCell_4 : decode cX11_isCell 4 = .ok (.getfield 73, 3) := by decide +kernel
theorem dX11_isCell_7 : decode cX11_isCell 7 = .ok (.iconst 1, 1) := by decide +kernel
theorem dX11_isCell_8 : decode cX11_isCell 8 = .ok (.isub, 1) := by decide +kernel
theorem dX11_isCell_9 : decode cX11_isCell 9 = .ok (.i2l, 1) := by decide +kernel
theorem dX11_isCell_10 : decode cX11_isCell 10 = .ok (.invokestatic 78, 3) := by decide +kernel
theorem dX11_isCell_13 : decode cX11_isCell 13 = .ok (.ireturn, 1) := by decide +kernel
theorem dX11_isPlace_0 : decode cX11_isPlace 0 = .ok (.iload_n 1, 1) := by decide +kernel
theorem dX11_isPlace_1 : decode cX11_isPlace 1 = .ok (.i2l, 1) := by decide +kernel
theorem dX11_isPlace_2 : decode cX11_isPlace 2 = .ok (.lconst 0, 1) := by decide +kernel
theorem dX11_isPlace_3 : decode cX11_isPlace 3 = .ok (.iconst 3, 1) := by decide +kernel
theorem dX11_isPlace_4 : decode cX11_isPlace 4 = .ok (.aload_n 0, 1) := by decide +kernel
theorem dX11_isPlace_5 : decode cX11_isPlace 5 = .ok (.getfield 73, 3) := by decide +kernel
theorem dX11_isPlace_8 : decode cX11_isPlace 8 = .ok (.imul, 1) := by decide +kernel
theorem dX11_isPlace_9 : decode cX11_isPlace 9 = .ok (.iconst 1, 1) := by decide +kernel
theorem dX11_isPlace_10 : decode cX11_isPlace 10 = .ok (.isub, 1) := by decide +kernel
theorem dX11_isPlace_11 : decode cX11_isPlace 11 = .ok (.i2l, 1) := by decide +kernel
theorem dX11_isPlace_12 : decode cX11_isPlace 12 = .ok (.invokestatic 78, 3) := by decide +kernel
theorem dX11_isPlace_15 : decode cX11_isPlace 15 = .ok (.ireturn, 1) := by decide +kernel
theorem dX11_isSpud_0 : decode cX11_isSpud 0 = .ok (.iload_n 1, 1) := by decide +kernel
theorem dX11_isSpud_1 : decode cX11_isSpud 1 = .ok (.i2l, 1) := by decide +kernel
theorem dX11_isSpud_2 : decode cX11_isSpud 2 = .ok (.lconst 0, 1) := by decide +kernel
theorem dX11_isSpud_3 : decode cX11_isSpud 3 = .ok (.aload_n 0, 1) := by decide +kernel
theorem dX11_isSpud_4 : decode cX11_isSpud 4 = .ok (.getfield 7, 3) := by decide +kernel
theorem dX11_isSpud_7 : decode cX11_isSpud 7 = .ok (.bipush 46, 2) := by decide +kernel
theorem dX11_isSpud_9 : decode cX11_isSpud 9 = .ok (.iaload, 1) := by decide +kernel
theorem dX11_isSpud_10 : decode cX11_isSpud 10 = .ok (.iconst 1, 1) := by decide +kernel
theorem dX11_isSpud_11 : decode cX11_isSpud 11 = .ok (.isub, 1) := by decide +kernel
theorem dX11_isSpud_12 : decode cX11_isSpud 12 = .ok (.i2l, 1) := by decide +kernel
theorem dX11_isSpud_13 : decode cX11_isSpud 13 = .ok (.invokestatic 78, 3) := by decide +kernel
theorem dX11_isSpud_16 : decode cX11_isSpud 16 = .ok (.ireturn, 1) := by decide +kernel
theorem dX11_starts_0 : decode cX11_starts 0 = .ok (.iconst 0, 1) := by decide +kernel
theorem dX11_starts_1 : decode cX11_starts 1 = .ok (.istore_n 1, 1) := by decide +kernel
theorem dX11_starts_2 : decode cX11_starts 2 = .ok (.iload_n 1, 1) := by decide +kernel
theorem dX11_starts_3 : decode cX11_starts 3 = .ok (.bipush 115, 2) := by decide +kernel
theorem dX11_starts_5 : decode cX11_starts 5 = .ok (.if_icmp .ge 21, 3) := by decide +kernel
theorem dX11_starts_8 : decode cX11_starts 8 = .ok (.aload_n 0, 1) := by decide +kernel
theorem dX11_starts_9 : decode cX11_starts 9 = .ok (.getfield 13, 3) := by decide +kernel
theorem dX11_starts_12 : decode cX11_starts 12 = .ok (.iload_n 1, 1) := by decide +kernel
theorem dX11_starts_13 : decode cX11_starts 13 = .ok (.aload_n 0, 1) := by decide +kernel
theorem dX11_starts_14 : decode cX11_starts 14 = .ok (.getfield 7, 3) := by decide +kernel
theorem dX11_starts_17 : decode cX11_starts 17 = .ok (.iload_n 1, 1) := by decide +kernel
theorem dX11_starts_18 : decode cX11_starts 18 = .ok (.iaload, 1) := by decide +kernel
theorem dX11_starts_19 : decode cX11_starts 19 = .ok (.iastore, 1) := by decide +kernel
theorem dX11_starts_20 : decode cX11_starts 20 = .ok (.iinc 1 1, 3) := by decide +kernel
theorem dX11_starts_23 : decode cX11_starts 23 = .ok (.goto (-21), 3) := by decide +kernel
theorem dX11_starts_26 : decode cX11_starts 26 = .ok (.return_, 1) := by decide +kernel
theorem dX11_of_0 : decode cX11_of 0 = .ok (.aload_n 0, 1) := by decide +kernel
theorem dX11_of_1 : decode cX11_of 1 = .ok (.getfield 13, 3) := by decide +kernel
theorem dX11_of_4 : decode cX11_of 4 = .ok (.bipush 47, 2) := by decide +kernel
theorem dX11_of_6 : decode cX11_of 6 = .ok (.bipush 8, 2) := by decide +kernel
theorem dX11_of_8 : decode cX11_of 8 = .ok (.iload_n 1, 1) := by decide +kernel
theorem dX11_of_9 : decode cX11_of 9 = .ok (.imul, 1) := by decide +kernel
theorem dX11_of_10 : decode cX11_of 10 = .ok (.iadd, 1) := by decide +kernel
theorem dX11_of_11 : decode cX11_of 11 = .ok (.iload_n 2, 1) := by decide +kernel
theorem dX11_of_12 : decode cX11_of 12 = .ok (.iadd, 1) := by decide +kernel
theorem dX11_of_13 : decode cX11_of 13 = .ok (.iaload, 1) := by decide +kernel
theorem dX11_of_14 : decode cX11_of 14 = .ok (.ireturn, 1) := by decide +kernel
theorem dX11_becomesOf_0 : decode cX11_becomesOf 0 = .ok (.aload_n 0, 1) := by decide +kernel
theorem dX11_becomesOf_1 : decode cX11_becomesOf 1 = .ok (.getfield 13, 3) := by decide +kernel
theorem dX11_becomesOf_4 : decode cX11_becomesOf 4 = .ok (.bipush 47, 2) := by decide +kernel
theorem dX11_becomesOf_6 : decode cX11_becomesOf 6 = .ok (.bipush 8, 2) := by decide +kernel
theorem dX11_becomesOf_8 : decode cX11_becomesOf 8 = .ok (.iload_n 1, 1) := by decide +kernel
theorem dX11_becomesOf_9 : decode cX11_becomesOf 9 = .ok (.imul, 1) := by decide +kernel
theorem dX11_becomesOf_10 : decode cX11_becomesOf 10 = .ok (.iadd, 1) := by decide +kernel
theorem dX11_becomesOf_11 : decode cX11_becomesOf 11 = .ok (.iload_n 2, 1) := by decide +kernel
theorem dX11_becomesOf_12 : decode cX11_becomesOf 12 = .ok (.iadd, 1) := by decide +kernel
theorem dX11_becomesOf_13 : decode cX11_becomesOf 13 = .ok (.iload_n 3, 1) := by decide +kernel
theorem dX11_becomesOf_14 : decode cX11_becomesOf 14 = .ok (.iastore, 1) := by decide +kernel
theorem dX11_becomesOf_15 : decode cX11_becomesOf 15 = .ok (.return_, 1) := by decide +kernel
theorem dX11_most_0 : decode cX11_most 0 = .ok (.iload_n 0, 1) := by decide +kernel
theorem dX11_most_1 : decode cX11_most 1 = .ok (.bipush 99, 2) := by decide +kernel
theorem dX11_most_3 : decode cX11_most 3 = .ok (.if_icmp .le 8, 3) := by decide +kernel
theorem dX11_most_6 : decode cX11_most 6 = .ok (.bipush 99, 2) := by decide +kernel
theorem dX11_most_8 : decode cX11_most 8 = .ok (.goto 4, 3) := by decide +kernel
theorem dX11_most_11 : decode cX11_most 11 = .ok (.iload_n 0, 1) := by decide +kernel
theorem dX11_most_12 : decode cX11_most 12 = .ok (.ireturn, 1) := by decide +kernel
theorem dX11_bakes_0 : decode cX11_bakes 0 = .ok (.aload_n 0, 1) := by decide +kernel
theorem dX11_bakes_1 : decode cX11_bakes 1 = .ok (.iload_n 1, 1) := by decide +kernel
theorem dX11_bakes_2 : decode cX11_bakes 2 = .ok (.iconst 2, 1) := by decide +kernel
theorem dX11_bakes_3 : decode cX11_bakes 3 = .ok (.invokevirtual 173, 3) := by decide +kernel
theorem dX11_bakes_6 : decode cX11_bakes 6 = .ok (.bipush (-4), 2) := by decide +kernel
theorem dX11_bakes_8 : decode cX11_bakes 8 = .ok (.if_icmp .ne 4, 3) := by decide +kernel
theorem dX11_bakes_11 : decode cX11_bakes 11 = .ok (.return_, 1) := by decide +kernel
theorem dX11_bakes_12 : decode cX11_bakes 12 = .ok (.aload_n 0, 1) := by decide +kernel
theorem dX11_bakes_13 : decode cX11_bakes 13 = .ok (.getfield 13, 3) := by decide +kernel
theorem dX11_bakes_16 : decode cX11_bakes 16 = .ok (.iconst 0, 1) := by decide +kernel
theorem dX11_bakes_17 : decode cX11_bakes 17 = .ok (.aload_n 0, 1) := by decide +kernel
theorem dX11_bakes_18 : decode cX11_bakes 18 = .ok (.iload_n 1, 1) := by decide +kernel
theorem dX11_bakes_19 : decode cX11_bakes 19 = .ok (.iconst 2, 1) := by decide +kernel
theorem dX11_bakes_20 : decode cX11_bakes 20 = .ok (.invokevirtual 173, 3) := by decide +kernel
theorem dX11_bakes_23 : decode cX11_bakes 23 = .ok (.iadd, 1) := by decide +kernel
theorem dX11_bakes_24 : decode cX11_bakes 24 = .ok (.iaload, 1) := by decide +kernel
theorem dX11_bakes_25 : decode cX11_bakes 25 = .ok (.istore_n 2, 1) := by decide +kernel
theorem dX11_bakes_26 : decode cX11_bakes 26 = .ok (.aload_n 0, 1) := by decide +kernel
theorem dX11_bakes_27 : decode cX11_bakes 27 = .ok (.iload_n 1, 1) := by decide +kernel
theorem dX11_bakes_28 : decode cX11_bakes 28 = .ok (.iconst 1, 1) := by decide +kernel
theorem dX11_bakes_29 : decode cX11_bakes 29 = .ok (.invokevirtual 173, 3) := by decide +kernel
theorem dX11_bakes_32 : decode cX11_bakes 32 = .ok (.istore_n 3, 1) := by decide +kernel
theorem dX11_bakes_33 : decode cX11_bakes 33 = .ok (.iload_n 3, 1) := by decide +kernel
theorem dX11_bakes_34 : decode cX11_bakes 34 = .ok (.ifCond .ne 7, 3) := by decide +kernel
theorem dX11_bakes_37 : decode cX11_bakes 37 = .ok (.iconst 5, 1) := by decide +kernel
theorem dX11_bakes_38 : decode cX11_bakes 38 = .ok (.goto 15, 3) := by decide +kernel
theorem dX11_bakes_41 : decode cX11_bakes 41 = .ok (.iload_n 3, 1) := by decide +kernel
theorem dX11_bakes_42 : decode cX11_bakes 42 = .ok (.iconst 1, 1) := by decide +kernel
theorem dX11_bakes_43 : decode cX11_bakes 43 = .ok (.if_icmp .ne 8, 3) := by decide +kernel
theorem dX11_bakes_46 : decode cX11_bakes 46 = .ok (.bipush 7, 2) := by decide +kernel
theorem dX11_bakes_48 : decode cX11_bakes 48 = .ok (.goto 5, 3) := by decide +kernel
theorem dX11_bakes_51 : decode cX11_bakes 51 = .ok (.bipush 6, 2) := by decide +kernel
theorem dX11_bakes_53 : decode cX11_bakes 53 = .ok (.istore 4, 2) := by decide +kernel
theorem dX11_bakes_55 : decode cX11_bakes 55 = .ok (.iload_n 3, 1) := by decide +kernel
theorem dX11_bakes_56 : decode cX11_bakes 56 = .ok (.ifCond .ne 8, 3) := by decide +kernel
theorem dX11_bakes_59 : decode cX11_bakes 59 = .ok (.bipush 8, 2) := by decide +kernel
theorem dX11_bakes_61 : decode cX11_bakes 61 = .ok (.goto 15, 3) := by decide +kernel
theorem dX11_bakes_64 : decode cX11_bakes 64 = .ok (.iload_n 3, 1) := by decide +kernel
theorem dX11_bakes_65 : decode cX11_bakes 65 = .ok (.iconst 1, 1) := by decide +kernel
theorem dX11_bakes_66 : decode cX11_bakes 66 = .ok (.if_icmp .ne 8, 3) := by decide +kernel
theorem dX11_bakes_69 : decode cX11_bakes 69 = .ok (.bipush 16, 2) := by decide +kernel
theorem dX11_bakes_71 : decode cX11_bakes 71 = .ok (.goto 5, 3) := by decide +kernel
theorem dX11_bakes_74 : decode cX11_bakes 74 = .ok (.bipush 12, 2) := by decide +kernel
theorem dX11_bakes_76 : decode cX11_bakes 76 = .ok (.istore 5, 2) := by decide +kernel
theorem dX11_bakes_78 : decode cX11_bakes 78 = .ok (.iconst 4, 1) := by decide +kernel
theorem dX11_bakes_79 : decode cX11_bakes 79 = .ok (.aload_n 0, 1) := by decide +kernel
theorem dX11_bakes_80 : decode cX11_bakes 80 = .ok (.iload_n 1, 1) := by decide +kernel
theorem dX11_bakes_81 : decode cX11_bakes 81 = .ok (.bipush 6, 2) := by decide +kernel
theorem dX11_bakes_83 : decode cX11_bakes 83 = .ok (.invokevirtual 173, 3) := by decide +kernel
theorem dX11_bakes_86 : decode cX11_bakes 86 = .ok (.iadd, 1) := by decide +kernel
theorem dX11_bakes_87 : decode cX11_bakes 87 = .ok (.istore 6, 2) := by decide +kernel
theorem dX11_bakes_89 : decode cX11_bakes 89 = .ok (.aload_n 0, 1) := by decide +kernel
theorem dX11_bakes_90 : decode cX11_bakes 90 = .ok (.iload_n 1, 1) := by decide +kernel
theorem dX11_bakes_91 : decode cX11_bakes 91 = .ok (.iconst 3, 1) := by decide +kernel
theorem dX11_bakes_92 : decode cX11_bakes 92 = .ok (.aload_n 0, 1) := by decide +kernel
theorem dX11_bakes_93 : decode cX11_bakes 93 = .ok (.iload_n 1, 1) := by decide +kernel
theorem dX11_bakes_94 : decode cX11_bakes 94 = .ok (.iconst 3, 1) := by decide +kernel
theorem dX11_bakes_95 : decode cX11_bakes 95 = .ok (.invokevirtual 173, 3) := by decide +kernel
theorem dX11_bakes_98 : decode cX11_bakes 98 = .ok (.iload_n 2, 1) := by decide +kernel
theorem dX11_bakes_99 : decode cX11_bakes 99 = .ok (.iload 4, 2) := by decide +kernel
theorem dX11_bakes_101 : decode cX11_bakes 101 = .ok (.idiv, 1) := by decide +kernel
theorem dX11_bakes_102 : decode cX11_bakes 102 = .ok (.iadd, 1) := by decide +kernel
theorem dX11_bakes_103 : decode cX11_bakes 103 = .ok (.invokestatic 176, 3) := by decide +kernel
theorem dX11_bakes_106 : decode cX11_bakes 106 = .ok (.invokevirtual 179, 3) := by decide +kernel
theorem dX11_bakes_109 : decode cX11_bakes 109 = .ok (.aload_n 0, 1) := by decide +kernel
theorem dX11_bakes_110 : decode cX11_bakes 110 = .ok (.iload_n 1, 1) := by decide +kernel
theorem dX11_bakes_111 : decode cX11_bakes 111 = .ok (.iload 6, 2) := by decide +kernel
theorem dX11_bakes_113 : decode cX11_bakes 113 = .ok (.aload_n 0, 1) := by decide +kernel
theorem dX11_bakes_114 : decode cX11_bakes 114 = .ok (.iload_n 1, 1) := by decide +kernel
theorem dX11_bakes_115 : decode cX11_bakes 115 = .ok (.iload 6, 2) := by decide +kernel
theorem dX11_bakes_117 : decode cX11_bakes 117 = .ok (.invokevirtual 173, 3) := by decide +kernel
theorem dX11_bakes_120 : decode cX11_bakes 120 = .ok (.iload_n 2, 1) := by decide +kernel
theorem dX11_bakes_121 : decode cX11_bakes 121 = .ok (.iload 5, 2) := by decide +kernel
theorem dX11_bakes_123 : decode cX11_bakes 123 = .ok (.idiv, 1) := by decide +kernel
theorem dX11_bakes_124 : decode cX11_bakes 124 = .ok (.iadd, 1) := by decide +kernel
theorem dX11_bakes_125 : decode cX11_bakes 125 = .ok (.invokestatic 176, 3) := by decide +kernel
theorem dX11_bakes_128 : decode cX11_bakes 128 = .ok (.invokevirtual 179, 3) := by decide +kernel
theorem dX11_bakes_131 : decode cX11_bakes 131 = .ok (.return_, 1) := by decide +kernel
theorem dX11_embers_0 : decode cX11_embers 0 = .ok (.iload_n 2, 1) := by decide +kernel
theorem dX11_embers_1 : decode cX11_embers 1 = .ok (.istore_n 3, 1) := by decide +kernel
theorem dX11_embers_2 : decode cX11_embers 2 = .ok (.iconst 0, 1) := by decide +kernel
theorem dX11_embers_3 : decode cX11_embers 3 = .ok (.istore 4, 2) := by decide +kernel
theorem dX11_embers_5 : decode cX11_embers 5 = .ok (.iload 4, 2) := by decide +kernel
theorem dX11_embers_7 : decode cX11_embers 7 = .ok (.iconst 3, 1) := by decide +kernel
theorem dX11_embers_8 : decode cX11_embers 8 = .ok (.if_icmp .ge 53, 3) := by decide +kernel
theorem dX11_embers_11 : decode cX11_embers 11 = .ok (.iconst 0, 1) := by decide +kernel
theorem dX11_embers_12 : decode cX11_embers 12 = .ok (.iconst 3, 1) := by decide +kernel
theorem dX11_embers_13 : decode cX11_embers 13 = .ok (.iload_n 1, 1) := by decide +kernel
theorem dX11_embers_14 : decode cX11_embers 14 = .ok (.imul, 1) := by decide +kernel
theorem dX11_embers_15 : decode cX11_embers 15 = .ok (.iadd, 1) := by decide +kernel
theorem dX11_embers_16 : decode cX11_embers 16 = .ok (.iload 4, 2) := by decide +kernel
theorem dX11_embers_18 : decode cX11_embers 18 = .ok (.iadd, 1) := by decide +kernel
theorem dX11_embers_19 : decode cX11_embers 19 = .ok (.istore 5, 2) := by decide +kernel
theorem dX11_embers_21 : decode cX11_embers 21 = .ok (.aload_n 0, 1) := by decide +kernel
theorem dX11_embers_22 : decode cX11_embers 22 = .ok (.getfield 13, 3) := by decide +kernel
theorem dX11_embers_25 : decode cX11_embers 25 = .ok (.iload 5, 2) := by decide +kernel
theorem dX11_embers_27 : decode cX11_embers 27 = .ok (.aload_n 0, 1) := by decide +kernel
theorem dX11_embers_28 : decode cX11_embers 28 = .ok (.getfield 13, 3) := by decide +kernel
theorem dX11_embers_31 : decode cX11_embers 31 = .ok (.iload 5, 2) := by decide +kernel
theorem dX11_embers_33 : decode cX11_embers 33 = .ok (.iaload, 1) := by decide +kernel
theorem dX11_embers_34 : decode cX11_embers 34 = .ok (.iload_n 3, 1) := by decide +kernel
theorem dX11_embers_35 : decode cX11_embers 35 = .ok (.iadd, 1) := by decide +kernel
theorem dX11_embers_36 : decode cX11_embers 36 = .ok (.invokestatic 176, 3) := by decide +kernel
theorem dX11_embers_39 : decode cX11_embers 39 = .ok (.iastore, 1) := by decide +kernel
theorem dX11_embers_40 : decode cX11_embers 40 = .ok (.iload 4, 2) := by decide +kernel
theorem dX11_embers_42 : decode cX11_embers 42 = .ok (.ifCond .ne 9, 3) := by decide +kernel
theorem dX11_embers_45 : decode cX11_embers 45 = .ok (.iload_n 2, 1) := by decide +kernel
theorem dX11_embers_46 : decode cX11_embers 46 = .ok (.iconst 2, 1) := by decide +kernel
theorem dX11_embers_47 : decode cX11_embers 47 = .ok (.idiv, 1) := by decide +kernel
theorem dX11_embers_48 : decode cX11_embers 48 = .ok (.goto 6, 3) := by decide +kernel
theorem dX11_embers_51 : decode cX11_embers 51 = .ok (.iload_n 2, 1) := by decide +kernel
theorem dX11_embers_52 : decode cX11_embers 52 = .ok (.iconst 4, 1) := by decide +kernel
theorem dX11_embers_53 : decode cX11_embers 53 = .ok (.idiv, 1) := by decide +kernel
theorem dX11_embers_54 : decode cX11_embers 54 = .ok (.istore_n 3, 1) := by decide +kernel
theorem dX11_embers_55 : decode cX11_embers 55 = .ok (.iinc 4 1, 3) := by decide +kernel
theorem dX11_embers_58 : decode cX11_embers 58 = .ok (.goto (-53), 3) := by decide +kernel
theorem dX11_embers_61 : decode cX11_embers 61 = .ok (.return_, 1) := by decide +kernel
theorem dX11_burns_0 : decode cX11_burns 0 = .ok (.iconst 0, 1) := by decide +kernel
theorem dX11_burns_1 : decode cX11_burns 1 = .ok (.istore_n 1, 1) := by decide +kernel
theorem dX11_burns_2 : decode cX11_burns 2 = .ok (.iconst 0, 1) := by decide +kernel
theorem dX11_burns_3 : decode cX11_burns 3 = .ok (.istore_n 2, 1) := by decide +kernel
theorem dX11_burns_4 : decode cX11_burns 4 = .ok (.iload_n 2, 1) := by decide +kernel
theorem dX11_burns_5 : decode cX11_burns 5 = .ok (.aload_n 0, 1) := by decide +kernel
theorem dX11_burns_6 : decode cX11_burns 6 = .ok (.getfield 13, 3) := by decide +kernel
theorem dX11_burns_9 : decode cX11_burns 9 = .ok (.bipush 26, 2) := by decide +kernel
theorem dX11_burns_11 : decode cX11_burns 11 = .ok (.iaload, 1) := by decide +kernel
theorem dX11_burns_12 : decode cX11_burns 12 = .ok (.if_icmp .ge 109, 3) := by decide +kernel
theorem dX11_burns_15 : decode cX11_burns 15 = .ok (.bipush 27, 2) := by decide +kernel
theorem dX11_burns_17 : decode cX11_burns 17 = .ok (.iconst 3, 1) := by decide +kernel
theorem dX11_burns_18 : decode cX11_burns 18 = .ok (.iload_n 2, 1) := by decide +kernel
theorem dX11_burns_19 : decode cX11_burns 19 = .ok (.imul, 1) := by decide +kernel
theorem dX11_burns_20 : decode cX11_burns 20 = .ok (.iadd, 1) := by decide +kernel
theorem dX11_burns_21 : decode cX11_burns 21 = .ok (.istore_n 3, 1) := by decide +kernel
theorem dX11_burns_22 : decode cX11_burns 22 = .ok (.aload_n 0, 1) := by decide +kernel
theorem dX11_burns_23 : decode cX11_burns 23 = .ok (.getfield 13, 3) := by decide +kernel
theorem dX11_burns_26 : decode cX11_burns 26 = .ok (.iload_n 3, 1) := by decide +kernel
theorem dX11_burns_27 : decode cX11_burns 27 = .ok (.iconst 2, 1) := by decide +kernel
theorem dX11_burns_28 : decode cX11_burns 28 = .ok (.iadd, 1) := by decide +kernel
theorem dX11_burns_29 : decode cX11_burns 29 = .ok (.iaload, 1) := by decide +kernel
theorem dX11_burns_30 : decode cX11_burns 30 = .ok (.iconst 1, 1) := by decide +kernel
theorem dX11_burns_31 : decode cX11_burns 31 = .ok (.if_icmp .ne 24, 3) := by decide +kernel
theorem dX11_burns_34 : decode cX11_burns 34 = .ok (.aload_n 0, 1) := by decide +kernel
theorem dX11_burns_35 : decode cX11_burns 35 = .ok (.aload_n 0, 1) := by decide +kernel
theorem dX11_burns_36 : decode cX11_burns 36 = .ok (.getfield 13, 3) := by decide +kernel
theorem dX11_burns_39 : decode cX11_burns 39 = .ok (.iload_n 3, 1) := by decide +kernel
theorem dX11_burns_40 : decode cX11_burns 40 = .ok (.iaload, 1) := by decide +kernel
theorem dX11_burns_41 : decode cX11_burns 41 = .ok (.aload_n 0, 1) := by decide +kernel
theorem dX11_burns_42 : decode cX11_burns 42 = .ok (.getfield 13, 3) := by decide +kernel
theorem dX11_burns_45 : decode cX11_burns 45 = .ok (.iload_n 3, 1) := by decide +kernel
theorem dX11_burns_46 : decode cX11_burns 46 = .ok (.iconst 1, 1) := by decide +kernel
theorem dX11_burns_47 : decode cX11_burns 47 = .ok (.iadd, 1) := by decide +kernel
theorem dX11_burns_48 : decode cX11_burns 48 = .ok (.iaload, 1) := by decide +kernel
theorem dX11_burns_49 : decode cX11_burns 49 = .ok (.invokevirtual 183, 3) := by decide +kernel
theorem dX11_burns_52 : decode cX11_burns 52 = .ok (.goto 63, 3) := by decide +kernel
theorem dX11_burns_55 : decode cX11_burns 55 = .ok (.bipush 27, 2) := by decide +kernel
theorem dX11_burns_57 : decode cX11_burns 57 = .ok (.iconst 3, 1) := by decide +kernel
theorem dX11_burns_58 : decode cX11_burns 58 = .ok (.iload_n 1, 1) := by decide +kernel
theorem dX11_burns_59 : decode cX11_burns 59 = .ok (.imul, 1) := by decide +kernel
theorem dX11_burns_60 : decode cX11_burns 60 = .ok (.iadd, 1) := by decide +kernel
theorem dX11_burns_61 : decode cX11_burns 61 = .ok (.istore 4, 2) := by decide +kernel
theorem dX11_burns_63 : decode cX11_burns 63 = .ok (.aload_n 0, 1) := by decide +kernel
theorem dX11_burns_64 : decode cX11_burns 64 = .ok (.getfield 13, 3) := by decide +kernel
theorem dX11_burns_67 : decode cX11_burns 67 = .ok (.iload 4, 2) := by decide +kernel
theorem dX11_burns_69 : decode cX11_burns 69 = .ok (.aload_n 0, 1) := by decide +kernel
theorem dX11_burns_70 : decode cX11_burns 70 = .ok (.getfield 13, 3) := by decide +kernel
theorem dX11_burns_73 : decode cX11_burns 73 = .ok (.iload_n 3, 1) := by decide +kernel
theorem dX11_burns_74 : decode cX11_burns 74 = .ok (.iaload, 1) := by decide +kernel
theorem dX11_burns_75 : decode cX11_burns 75 = .ok (.iastore, 1) := by decide +kernel
theorem dX11_burns_76 : decode cX11_burns 76 = .ok (.aload_n 0, 1) := by decide +kernel
theorem dX11_burns_77 : decode cX11_burns 77 = .ok (.getfield 13, 3) := by decide +kernel
theorem dX11_burns_80 : decode cX11_burns 80 = .ok (.iload 4, 2) := by decide +kernel
theorem dX11_burns_82 : decode cX11_burns 82 = .ok (.iconst 1, 1) := by decide +kernel
theorem dX11_burns_83 : decode cX11_burns 83 = .ok (.iadd, 1) := by decide +kernel
theorem dX11_burns_84 : decode cX11_burns 84 = .ok (.aload_n 0, 1) := by decide +kernel
theorem dX11_burns_85 : decode cX11_burns 85 = .ok (.getfield 13, 3) := by decide +kernel
theorem dX11_burns_88 : decode cX11_burns 88 = .ok (.iload_n 3, 1) := by decide +kernel
theorem dX11_burns_89 : decode cX11_burns 89 = .ok (.iconst 1, 1) := by decide +kernel
theorem dX11_burns_90 : decode cX11_burns 90 = .ok (.iadd, 1) := by decide +kernel
theorem dX11_burns_91 : decode cX11_burns 91 = .ok (.iaload, 1) := by decide +kernel
theorem dX11_burns_92 : decode cX11_burns 92 = .ok (.iastore, 1) := by decide +kernel
theorem dX11_burns_93 : decode cX11_burns 93 = .ok (.aload_n 0, 1) := by decide +kernel
theorem dX11_burns_94 : decode cX11_burns 94 = .ok (.getfield 13, 3) := by decide +kernel
theorem dX11_burns_97 : decode cX11_burns 97 = .ok (.iload 4, 2) := by decide +kernel
theorem dX11_burns_99 : decode cX11_burns 99 = .ok (.iconst 2, 1) := by decide +kernel
theorem dX11_burns_100 : decode cX11_burns 100 = .ok (.iadd, 1) := by decide +kernel
theorem dX11_burns_101 : decode cX11_burns 101 = .ok (.aload_n 0, 1) := by decide +kernel
theorem dX11_burns_102 : decode cX11_burns 102 = .ok (.getfield 13, 3) := by decide +kernel
theorem dX11_burns_105 : decode cX11_burns 105 = .ok (.iload_n 3, 1) := by decide +kernel
theorem dX11_burns_106 : decode cX11_burns 106 = .ok (.iconst 2, 1) := by decide +kernel
theorem dX11_burns_107 : decode cX11_burns 107 = .ok (.iadd, 1) := by decide +kernel
theorem dX11_burns_108 : decode cX11_burns 108 = .ok (.iaload, 1) := by decide +kernel
theorem dX11_burns_109 : decode cX11_burns 109 = .ok (.iconst 1, 1) := by decide +kernel
theorem dX11_burns_110 : decode cX11_burns 110 = .ok (.isub, 1) := by decide +kernel
theorem dX11_burns_111 : decode cX11_burns 111 = .ok (.iastore, 1) := by decide +kernel
theorem dX11_burns_112 : decode cX11_burns 112 = .ok (.iinc 1 1, 3) := by decide +kernel
theorem dX11_burns_115 : decode cX11_burns 115 = .ok (.iinc 2 1, 3) := by decide +kernel
theorem dX11_burns_118 : decode cX11_burns 118 = .ok (.goto (-114), 3) := by decide +kernel
theorem dX11_burns_121 : decode cX11_burns 121 = .ok (.aload_n 0, 1) := by decide +kernel
theorem dX11_burns_122 : decode cX11_burns 122 = .ok (.getfield 13, 3) := by decide +kernel
theorem dX11_burns_125 : decode cX11_burns 125 = .ok (.bipush 26, 2) := by decide +kernel
theorem dX11_burns_127 : decode cX11_burns 127 = .ok (.iload_n 1, 1) := by decide +kernel
theorem dX11_burns_128 : decode cX11_burns 128 = .ok (.iastore, 1) := by decide +kernel
theorem dX11_burns_129 : decode cX11_burns 129 = .ok (.return_, 1) := by decide +kernel
theorem dX11_cools_0 : decode cX11_cools 0 = .ok (.iconst 0, 1) := by decide +kernel
theorem dX11_cools_1 : decode cX11_cools 1 = .ok (.istore_n 1, 1) := by decide +kernel
theorem dX11_cools_2 : decode cX11_cools 2 = .ok (.iload_n 1, 1) := by decide +kernel
theorem dX11_cools_3 : decode cX11_cools 3 = .ok (.iconst 3, 1) := by decide +kernel
theorem dX11_cools_4 : decode cX11_cools 4 = .ok (.aload_n 0, 1) := by decide +kernel
theorem dX11_cools_5 : decode cX11_cools 5 = .ok (.getfield 73, 3) := by decide +kernel
theorem dX11_cools_8 : decode cX11_cools 8 = .ok (.imul, 1) := by decide +kernel
theorem dX11_cools_9 : decode cX11_cools 9 = .ok (.if_icmp .ge 81, 3) := by decide +kernel
theorem dX11_cools_12 : decode cX11_cools 12 = .ok (.iload_n 1, 1) := by decide +kernel
theorem dX11_cools_13 : decode cX11_cools 13 = .ok (.iconst 3, 1) := by decide +kernel
theorem dX11_cools_14 : decode cX11_cools 14 = .ok (.idiv, 1) := by decide +kernel
theorem dX11_cools_15 : decode cX11_cools 15 = .ok (.istore_n 2, 1) := by decide +kernel
theorem dX11_cools_16 : decode cX11_cools 16 = .ok (.aload_n 0, 1) := by decide +kernel
theorem dX11_cools_17 : decode cX11_cools 17 = .ok (.getfield 13, 3) := by decide +kernel
theorem dX11_cools_20 : decode cX11_cools 20 = .ok (.bipush 24, 2) := by decide +kernel
theorem dX11_cools_22 : decode cX11_cools 22 = .ok (.iaload, 1) := by decide +kernel
theorem dX11_cools_23 : decode cX11_cools 23 = .ok (.iload_n 2, 1) := by decide +kernel
theorem dX11_cools_24 : decode cX11_cools 24 = .ok (.ifCond .eq 13, 3) := by decide +kernel
theorem dX11_cools_27 : decode cX11_cools 27 = .ok (.iload_n 2, 1) := by decide +kernel
theorem dX11_cools_28 : decode cX11_cools 28 = .ok (.aload_n 0, 1) := by decide +kernel
theorem dX11_cools_29 : decode cX11_cools 29 = .ok (.getfield 73, 3) := by decide +kernel
theorem dX11_cools_32 : decode cX11_cools 32 = .ok (.iconst 1, 1) := by decide +kernel
theorem dX11_cools_33 : decode cX11_cools 33 = .ok (.isub, 1) := by decide +kernel
theorem dX11_cools_34 : decode cX11_cools 34 = .ok (.if_icmp .ne 13, 3) := by decide +kernel
theorem dX11_cools_37 : decode cX11_cools 37 = .ok (.aload_n 0, 1) := by decide +kernel
theorem dX11_cools_38 : decode cX11_cools 38 = .ok (.getfield 13, 3) := by decide +kernel
theorem dX11_cools_41 : decode cX11_cools 41 = .ok (.bipush 25, 2) := by decide +kernel
theorem dX11_cools_43 : decode cX11_cools 43 = .ok (.iaload, 1) := by decide +kernel
theorem dX11_cools_44 : decode cX11_cools 44 = .ok (.goto 4, 3) := by decide +kernel
theorem dX11_cools_47 : decode cX11_cools 47 = .ok (.iconst 0, 1) := by decide +kernel
theorem dX11_cools_48 : decode cX11_cools 48 = .ok (.iadd, 1) := by decide +kernel
theorem dX11_cools_49 : decode cX11_cools 49 = .ok (.istore_n 3, 1) := by decide +kernel
theorem dX11_cools_50 : decode cX11_cools 50 = .ok (.aload_n 0, 1) := by decide +kernel
theorem dX11_cools_51 : decode cX11_cools 51 = .ok (.getfield 13, 3) := by decide +kernel
theorem dX11_cools_54 : decode cX11_cools 54 = .ok (.iconst 0, 1) := by decide +kernel
theorem dX11_cools_55 : decode cX11_cools 55 = .ok (.iload_n 1, 1) := by decide +kernel
theorem dX11_cools_56 : decode cX11_cools 56 = .ok (.iadd, 1) := by decide +kernel
theorem dX11_cools_57 : decode cX11_cools 57 = .ok (.aload_n 0, 1) := by decide +kernel
theorem dX11_cools_58 : decode cX11_cools 58 = .ok (.getfield 13, 3) := by decide +kernel
theorem dX11_cools_61 : decode cX11_cools 61 = .ok (.iconst 0, 1) := by decide +kernel
theorem dX11_cools_62 : decode cX11_cools 62 = .ok (.iload_n 1, 1) := by decide +kernel
theorem dX11_cools_63 : decode cX11_cools 63 = .ok (.iadd, 1) := by decide +kernel
theorem dX11_cools_64 : decode cX11_cools 64 = .ok (.iaload, 1) := by decide +kernel
theorem dX11_cools_65 : decode cX11_cools 65 = .ok (.iload_n 3, 1) := by decide +kernel
theorem dX11_cools_66 : decode cX11_cools 66 = .ok (.if_icmp .ge 7, 3) := by decide +kernel
theorem dX11_cools_69 : decode cX11_cools 69 = .ok (.iconst 0, 1) := by decide +kernel
theorem dX11_cools_70 : decode cX11_cools 70 = .ok (.goto 13, 3) := by decide +kernel
theorem dX11_cools_73 : decode cX11_cools 73 = .ok (.aload_n 0, 1) := by decide +kernel
theorem dX11_cools_74 : decode cX11_cools 74 = .ok (.getfield 13, 3) := by decide +kernel
theorem dX11_cools_77 : decode cX11_cools 77 = .ok (.iconst 0, 1) := by decide +kernel
theorem dX11_cools_78 : decode cX11_cools 78 = .ok (.iload_n 1, 1) := by decide +kernel
theorem dX11_cools_79 : decode cX11_cools 79 = .ok (.iadd, 1) := by decide +kernel
theorem dX11_cools_80 : decode cX11_cools 80 = .ok (.iaload, 1) := by decide +kernel
theorem dX11_cools_81 : decode cX11_cools 81 = .ok (.iload_n 3, 1) := by decide +kernel
theorem dX11_cools_82 : decode cX11_cools 82 = .ok (.isub, 1) := by decide +kernel
theorem dX11_cools_83 : decode cX11_cools 83 = .ok (.iastore, 1) := by decide +kernel
theorem dX11_cools_84 : decode cX11_cools 84 = .ok (.iinc 1 1, 3) := by decide +kernel
theorem dX11_cools_87 : decode cX11_cools 87 = .ok (.goto (-85), 3) := by decide +kernel
theorem dX11_cools_90 : decode cX11_cools 90 = .ok (.return_, 1) := by decide +kernel
theorem dX11_rounds_0 : decode cX11_rounds 0 = .ok (.iconst 0, 1) := by decide +kernel
theorem dX11_rounds_1 : decode cX11_rounds 1 = .ok (.istore_n 1, 1) := by decide +kernel
theorem dX11_rounds_2 : decode cX11_rounds 2 = .ok (.iload_n 1, 1) := by decide +kernel
theorem dX11_rounds_3 : decode cX11_rounds 3 = .ok (.aload_n 0, 1) := by decide +kernel
theorem dX11_rounds_4 : decode cX11_rounds 4 = .ok (.getfield 13, 3) := by decide +kernel
theorem dX11_rounds_7 : decode cX11_rounds 7 = .ok (.bipush 46, 2) := by decide +kernel
theorem dX11_rounds_9 : decode cX11_rounds 9 = .ok (.iaload, 1) := by decide +kernel
theorem dX11_rounds_10 : decode cX11_rounds 10 = .ok (.if_icmp .ge 14, 3) := by decide +kernel
theorem dX11_rounds_13 : decode cX11_rounds 13 = .ok (.aload_n 0, 1) := by decide +kernel
theorem dX11_rounds_14 : decode cX11_rounds 14 = .ok (.iload_n 1, 1) := by decide +kernel
theorem dX11_rounds_15 : decode cX11_rounds 15 = .ok (.invokevirtual 187, 3) := by decide +kernel
theorem dX11_rounds_18 : decode cX11_rounds 18 = .ok (.iinc 1 1, 3) := by decide +kernel
theorem dX11_rounds_21 : decode cX11_rounds 21 = .ok (.goto (-19), 3) := by decide +kernel
theorem dX11_rounds_24 : decode cX11_rounds 24 = .ok (.aload_n 0, 1) := by decide +kernel
theorem dX11_rounds_25 : decode cX11_rounds 25 = .ok (.invokevirtual 190, 3) := by decide +kernel
theorem dX11_rounds_28 : decode cX11_rounds 28 = .ok (.aload_n 0, 1) := by decide +kernel
theorem dX11_rounds_29 : decode cX11_rounds 29 = .ok (.invokevirtual 193, 3) := by decide +kernel
theorem dX11_rounds_32 : decode cX11_rounds 32 = .ok (.aload_n 0, 1) := by decide +kernel
theorem dX11_rounds_33 : decode cX11_rounds 33 = .ok (.getfield 13, 3) := by decide +kernel
theorem dX11_rounds_36 : decode cX11_rounds 36 = .ok (.bipush 45, 2) := by decide +kernel
theorem dX11_rounds_38 : decode cX11_rounds 38 = .ok (.dup2, 1) := by decide +kernel
theorem dX11_rounds_39 : decode cX11_rounds 39 = .ok (.iaload, 1) := by decide +kernel
theorem dX11_rounds_40 : decode cX11_rounds 40 = .ok (.iconst 1, 1) := by decide +kernel
theorem dX11_rounds_41 : decode cX11_rounds 41 = .ok (.iadd, 1) := by decide +kernel
theorem dX11_rounds_42 : decode cX11_rounds 42 = .ok (.iastore, 1) := by decide +kernel
theorem dX11_rounds_43 : decode cX11_rounds 43 = .ok (.return_, 1) := by decide +kernel
theorem dX11_roundsAll_0 : decode cX11_roundsAll 0 = .ok (.iconst 0, 1) := by decide +kernel
theorem dX11_roundsAll_1 : decode cX11_roundsAll 1 = .ok (.istore_n 2, 1) := by decide +kernel
theorem dX11_roundsAll_2 : decode cX11_roundsAll 2 = .ok (.iload_n 2, 1) := by decide +kernel
theorem dX11_roundsAll_3 : decode cX11_roundsAll 3 = .ok (.iload_n 1, 1) := by decide +kernel
theorem dX11_roundsAll_4 : decode cX11_roundsAll 4 = .ok (.if_icmp .ge 13, 3) := by decide +kernel
theorem dX11_roundsAll_7 : decode cX11_roundsAll 7 = .ok (.aload_n 0, 1) := by decide +kernel
theorem dX11_roundsAll_8 : decode cX11_roundsAll 8 = .ok (.invokevirtual 196, 3) := by decide +kernel
theorem dX11_roundsAll_11 : decode cX11_roundsAll 11 = .ok (.iinc 2 1, 3) := by decide +kernel
theorem dX11_roundsAll_14 : decode cX11_roundsAll 14 = .ok (.goto (-12), 3) := by decide +kernel
theorem dX11_roundsAll_17 : decode cX11_roundsAll 17 = .ok (.return_, 1) := by decide +kernel
theorem dX11_isDone_0 : decode cX11_isDone 0 = .ok (.aload_n 0, 1) := by decide +kernel
theorem dX11_isDone_1 : decode cX11_isDone 1 = .ok (.iload_n 1, 1) := by decide +kernel
theorem dX11_isDone_2 : decode cX11_isDone 2 = .ok (.iconst 3, 1) := by decide +kernel
theorem dX11_isDone_3 : decode cX11_isDone 3 = .ok (.invokevirtual 173, 3) := by decide +kernel
theorem dX11_isDone_6 : decode cX11_isDone 6 = .ok (.bipush 10, 2) := by decide +kernel
theorem dX11_isDone_8 : decode cX11_isDone 8 = .ok (.aload_n 0, 1) := by decide +kernel
theorem dX11_isDone_9 : decode cX11_isDone 9 = .ok (.iload_n 1, 1) := by decide +kernel
theorem dX11_isDone_10 : decode cX11_isDone 10 = .ok (.iconst 0, 1) := by decide +kernel
theorem dX11_isDone_11 : decode cX11_isDone 11 = .ok (.invokevirtual 173, 3) := by decide +kernel
theorem dX11_isDone_14 : decode cX11_isDone 14 = .ok (.imul, 1) := by decide +kernel
theorem dX11_isDone_15 : decode cX11_isDone 15 = .ok (.if_icmp .lt 7, 3) := by decide +kernel
theorem dX11_isDone_18 : decode cX11_isDone 18 = .ok (.iconst 1, 1) := by decide +kernel
theorem dX11_isDone_19 : decode cX11_isDone 19 = .ok (.goto 4, 3) := by decide +kernel
theorem dX11_isDone_22 : decode cX11_isDone 22 = .ok (.iconst 0, 1) := by decide +kernel
theorem dX11_isDone_23 : decode cX11_isDone 23 = .ok (.ireturn, 1) := by decide +kernel
theorem dX11_isBlack_0 : decode cX11_isBlack 0 = .ok (.aload_n 0, 1) := by decide +kernel
theorem dX11_isBlack_1 : decode cX11_isBlack 1 = .ok (.iload_n 1, 1) := by decide +kernel
theorem dX11_isBlack_2 : decode cX11_isBlack 2 = .ok (.iconst 4, 1) := by decide +kernel
theorem dX11_isBlack_3 : decode cX11_isBlack 3 = .ok (.invokevirtual 173, 3) := by decide +kernel
theorem dX11_isBlack_6 : decode cX11_isBlack 6 = .ok (.bipush 40, 2) := by decide +kernel
theorem dX11_isBlack_8 : decode cX11_isBlack 8 = .ok (.if_icmp .ge 14, 3) := by decide +kernel
theorem dX11_isBlack_11 : decode cX11_isBlack 11 = .ok (.aload_n 0, 1) := by decide +kernel
theorem dX11_isBlack_12 : decode cX11_isBlack 12 = .ok (.iload_n 1, 1) := by decide +kernel
theorem dX11_isBlack_13 : decode cX11_isBlack 13 = .ok (.iconst 5, 1) := by decide +kernel
theorem dX11_isBlack_14 : decode cX11_isBlack 14 = .ok (.invokevirtual 173, 3) := by decide +kernel
theorem dX11_isBlack_17 : decode cX11_isBlack 17 = .ok (.bipush 40, 2) := by decide +kernel
theorem dX11_isBlack_19 : decode cX11_isBlack 19 = .ok (.if_icmp .lt 7, 3) := by decide +kernel
theorem dX11_isBlack_22 : decode cX11_isBlack 22 = .ok (.iconst 1, 1) := by decide +kernel
theorem dX11_isBlack_23 : decode cX11_isBlack 23 = .ok (.goto 4, 3) := by decide +kernel
theorem dX11_isBlack_26 : decode cX11_isBlack 26 = .ok (.iconst 0, 1) := by decide +kernel
theorem dX11_isBlack_27 : decode cX11_isBlack 27 = .ok (.ireturn, 1) := by decide +kernel
theorem dX11_isGood_0 : decode cX11_isGood 0 = .ok (.aload_n 0, 1) := by decide +kernel
theorem dX11_isGood_1 : decode cX11_isGood 1 = .ok (.iload_n 1, 1) := by decide +kernel
theorem dX11_isGood_2 : decode cX11_isGood 2 = .ok (.invokevirtual 199, 3) := by decide +kernel
theorem dX11_isGood_5 : decode cX11_isGood 5 = .ok (.ifCond .eq 15, 3) := by decide +kernel
theorem dX11_isGood_8 : decode cX11_isGood 8 = .ok (.aload_n 0, 1) := by decide +kernel
theorem dX11_isGood_9 : decode cX11_isGood 9 = .ok (.iload_n 1, 1) := by decide +kernel
theorem dX11_isGood_10 : decode cX11_isGood 10 = .ok (.invokevirtual 202, 3) := by decide +kernel
theorem dX11_isGood_13 : decode cX11_isGood 13 = .ok (.ifCond .ne 7, 3) := by decide +kernel
theorem dX11_isGood_16 : decode cX11_isGood 16 = .ok (.iconst 1, 1) := by decide +kernel
theorem dX11_isGood_17 : decode cX11_isGood 17 = .ok (.goto 4, 3) := by decide +kernel
theorem dX11_isGood_20 : decode cX11_isGood 20 = .ok (.iconst 0, 1) := by decide +kernel
theorem dX11_isGood_21 : decode cX11_isGood 21 = .ok (.ireturn, 1) := by decide +kernel
theorem dX11_goods_0 : decode cX11_goods 0 = .ok (.iconst 0, 1) := by decide +kernel
theorem dX11_goods_1 : decode cX11_goods 1 = .ok (.istore_n 1, 1) := by decide +kernel
theorem dX11_goods_2 : decode cX11_goods 2 = .ok (.iconst 0, 1) := by decide +kernel
theorem dX11_goods_3 : decode cX11_goods 3 = .ok (.istore_n 2, 1) := by decide +kernel
theorem dX11_goods_4 : decode cX11_goods 4 = .ok (.iload_n 2, 1) := by decide +kernel
theorem dX11_goods_5 : decode cX11_goods 5 = .ok (.aload_n 0, 1) := by decide +kernel
theorem dX11_goods_6 : decode cX11_goods 6 = .ok (.getfield 13, 3) := by decide +kernel
theorem dX11_goods_9 : decode cX11_goods 9 = .ok (.bipush 46, 2) := by decide +kernel
theorem dX11_goods_11 : decode cX11_goods 11 = .ok (.iaload, 1) := by decide +kernel
theorem dX11_goods_12 : decode cX11_goods 12 = .ok (.if_icmp .ge 20, 3) := by decide +kernel
theorem dX11_goods_15 : decode cX11_goods 15 = .ok (.iload_n 1, 1) := by decide +kernel
theorem dX11_goods_16 : decode cX11_goods 16 = .ok (.aload_n 0, 1) := by decide +kernel
theorem dX11_goods_17 : decode cX11_goods 17 = .ok (.iload_n 2, 1) := by decide +kernel
theorem dX11_goods_18 : decode cX11_goods 18 = .ok (.invokevirtual 205, 3) := by decide +kernel
theorem dX11_goods_21 : decode cX11_goods 21 = .ok (.invokestatic 208, 3) := by decide +kernel
theorem dX11_goods_24 : decode cX11_goods 24 = .ok (.iadd, 1) := by decide +kernel
theorem dX11_goods_25 : decode cX11_goods 25 = .ok (.istore_n 1, 1) := by decide +kernel
theorem dX11_goods_26 : decode cX11_goods 26 = .ok (.iinc 2 1, 3) := by decide +kernel
theorem dX11_goods_29 : decode cX11_goods 29 = .ok (.goto (-25), 3) := by decide +kernel
theorem dX11_goods_32 : decode cX11_goods 32 = .ok (.iload_n 1, 1) := by decide +kernel
theorem dX11_goods_33 : decode cX11_goods 33 = .ok (.ireturn, 1) := by decide +kernel
theorem dX11_blacks_0 : decode cX11_blacks 0 = .ok (.iconst 0, 1) := by decide +kernel
theorem dX11_blacks_1 : decode cX11_blacks 1 = .ok (.istore_n 1, 1) := by decide +kernel
theorem dX11_blacks_2 : decode cX11_blacks 2 = .ok (.iconst 0, 1) := by decide +kernel
theorem dX11_blacks_3 : decode cX11_blacks 3 = .ok (.istore_n 2, 1) := by decide +kernel
theorem dX11_blacks_4 : decode cX11_blacks 4 = .ok (.iload_n 2, 1) := by decide +kernel
theorem dX11_blacks_5 : decode cX11_blacks 5 = .ok (.aload_n 0, 1) := by decide +kernel
theorem dX11_blacks_6 : decode cX11_blacks 6 = .ok (.getfield 13, 3) := by decide +kernel
theorem dX11_blacks_9 : decode cX11_blacks 9 = .ok (.bipush 46, 2) := by decide +kernel
theorem dX11_blacks_11 : decode cX11_blacks 11 = .ok (.iaload, 1) := by decide +kernel
theorem dX11_blacks_12 : decode cX11_blacks 12 = .ok (.if_icmp .ge 20, 3) := by decide +kernel
theorem dX11_blacks_15 : decode cX11_blacks 15 = .ok (.iload_n 1, 1) := by decide +kernel
theorem dX11_blacks_16 : decode cX11_blacks 16 = .ok (.aload_n 0, 1) := by decide +kernel
theorem dX11_blacks_17 : decode cX11_blacks 17 = .ok (.iload_n 2, 1) := by decide +kernel
theorem dX11_blacks_18 : decode cX11_blacks 18 = .ok (.invokevirtual 202, 3) := by decide +kernel
theorem dX11_blacks_21 : decode cX11_blacks 21 = .ok (.invokestatic 208, 3) := by decide +kernel
theorem dX11_blacks_24 : decode cX11_blacks 24 = .ok (.iadd, 1) := by decide +kernel
theorem dX11_blacks_25 : decode cX11_blacks 25 = .ok (.istore_n 1, 1) := by decide +kernel
theorem dX11_blacks_26 : decode cX11_blacks 26 = .ok (.iinc 2 1, 3) := by decide +kernel
theorem dX11_blacks_29 : decode cX11_blacks 29 = .ok (.goto (-25), 3) := by decide +kernel
theorem dX11_blacks_32 : decode cX11_blacks 32 = .ok (.iload_n 1, 1) := by decide +kernel
theorem dX11_blacks_33 : decode cX11_blacks 33 = .ok (.ireturn, 1) := by decide +kernel
theorem dX11_tells_0 : decode cX11_tells 0 = .ok (.iload_n 2, 1) := by decide +kernel
theorem dX11_tells_1 : decode cX11_tells 1 = .ok (.tableswitch 115 0 8 #[51, 51, 51, 51, 58, 73, 88, 97, 106], 51) := by decide +kernel
theorem dX11_tells_52 : decode cX11_tells 52 = .ok (.aload_n 0, 1) := by decide +kernel
theorem dX11_tells_53 : decode cX11_tells 53 = .ok (.iload_n 1, 1) := by decide +kernel
theorem dX11_tells_54 : decode cX11_tells 54 = .ok (.iload_n 2, 1) := by decide +kernel
theorem dX11_tells_55 : decode cX11_tells 55 = .ok (.invokevirtual 173, 3) := by decide +kernel
theorem dX11_tells_58 : decode cX11_tells 58 = .ok (.ireturn, 1) := by decide +kernel
theorem dX11_tells_59 : decode cX11_tells 59 = .ok (.aload_n 0, 1) := by decide +kernel
theorem dX11_tells_60 : decode cX11_tells 60 = .ok (.iload_n 1, 1) := by decide +kernel
theorem dX11_tells_61 : decode cX11_tells 61 = .ok (.iconst 4, 1) := by decide +kernel
theorem dX11_tells_62 : decode cX11_tells 62 = .ok (.aload_n 0, 1) := by decide +kernel
theorem dX11_tells_63 : decode cX11_tells 63 = .ok (.iload_n 1, 1) := by decide +kernel
theorem dX11_tells_64 : decode cX11_tells 64 = .ok (.bipush 6, 2) := by decide +kernel
theorem dX11_tells_66 : decode cX11_tells 66 = .ok (.invokevirtual 173, 3) := by decide +kernel
theorem dX11_tells_69 : decode cX11_tells 69 = .ok (.iadd, 1) := by decide +kernel
theorem dX11_tells_70 : decode cX11_tells 70 = .ok (.invokevirtual 173, 3) := by decide +kernel
theorem dX11_tells_73 : decode cX11_tells 73 = .ok (.ireturn, 1) := by decide +kernel
theorem dX11_tells_74 : decode cX11_tells 74 = .ok (.aload_n 0, 1) := by decide +kernel
theorem dX11_tells_75 : decode cX11_tells 75 = .ok (.iload_n 1, 1) := by decide +kernel
theorem dX11_tells_76 : decode cX11_tells 76 = .ok (.iconst 5, 1) := by decide +kernel
theorem dX11_tells_77 : decode cX11_tells 77 = .ok (.aload_n 0, 1) := by decide +kernel
theorem dX11_tells_78 : decode cX11_tells 78 = .ok (.iload_n 1, 1) := by decide +kernel
theorem dX11_tells_79 : decode cX11_tells 79 = .ok (.bipush 6, 2) := by decide +kernel
theorem dX11_tells_81 : decode cX11_tells 81 = .ok (.invokevirtual 173, 3) := by decide +kernel
theorem dX11_tells_84 : decode cX11_tells 84 = .ok (.isub, 1) := by decide +kernel
theorem dX11_tells_85 : decode cX11_tells 85 = .ok (.invokevirtual 173, 3) := by decide +kernel
theorem dX11_tells_88 : decode cX11_tells 88 = .ok (.ireturn, 1) := by decide +kernel
theorem dX11_tells_89 : decode cX11_tells 89 = .ok (.aload_n 0, 1) := by decide +kernel
theorem dX11_tells_90 : decode cX11_tells 90 = .ok (.iload_n 1, 1) := by decide +kernel
theorem dX11_tells_91 : decode cX11_tells 91 = .ok (.invokevirtual 199, 3) := by decide +kernel
theorem dX11_tells_94 : decode cX11_tells 94 = .ok (.invokestatic 208, 3) := by decide +kernel
theorem dX11_tells_97 : decode cX11_tells 97 = .ok (.ireturn, 1) := by decide +kernel
theorem dX11_tells_98 : decode cX11_tells 98 = .ok (.aload_n 0, 1) := by decide +kernel
theorem dX11_tells_99 : decode cX11_tells 99 = .ok (.iload_n 1, 1) := by decide +kernel
theorem dX11_tells_100 : decode cX11_tells 100 = .ok (.invokevirtual 202, 3) := by decide +kernel
theorem dX11_tells_103 : decode cX11_tells 103 = .ok (.invokestatic 208, 3) := by decide +kernel
theorem dX11_tells_106 : decode cX11_tells 106 = .ok (.ireturn, 1) := by decide +kernel
theorem dX11_tells_107 : decode cX11_tells 107 = .ok (.aload_n 0, 1) := by decide +kernel
theorem dX11_tells_108 : decode cX11_tells 108 = .ok (.iload_n 1, 1) := by decide +kernel
theorem dX11_tells_109 : decode cX11_tells 109 = .ok (.invokevirtual 205, 3) := by decide +kernel
theorem dX11_tells_112 : decode cX11_tells 112 = .ok (.invokestatic 208, 3) := by decide +kernel
theorem dX11_tells_115 : decode cX11_tells 115 = .ok (.ireturn, 1) := by decide +kernel
theorem dX11_tells_116 : decode cX11_tells 116 = .ok (.aload_n 0, 1) := by decide +kernel
theorem dX11_tells_117 : decode cX11_tells 117 = .ok (.iload_n 1, 1) := by decide +kernel
theorem dX11_tells_118 : decode cX11_tells 118 = .ok (.bipush 7, 2) := by decide +kernel
theorem dX11_tells_120 : decode cX11_tells 120 = .ok (.invokevirtual 173, 3) := by decide +kernel
theorem dX11_tells_123 : decode cX11_tells 123 = .ok (.ireturn, 1) := by decide +kernel
theorem dX11_rule_0 : decode cX11_rule 0 = .ok (.iload_n 1, 1) := by decide +kernel
theorem dX11_rule_1 : decode cX11_rule 1 = .ok (.tableswitch 96 0 6 #[43, 48, 56, 64, 72, 80, 88], 43) := by decide +kernel
theorem dX11_rule_44 : decode cX11_rule 44 = .ok (.aload_n 0, 1) := by decide +kernel
theorem dX11_rule_45 : decode cX11_rule 45 = .ok (.getfield 73, 3) := by decide +kernel
theorem dX11_rule_48 : decode cX11_rule 48 = .ok (.ireturn, 1) := by decide +kernel
theorem dX11_rule_49 : decode cX11_rule 49 = .ok (.aload_n 0, 1) := by decide +kernel
theorem dX11_rule_50 : decode cX11_rule 50 = .ok (.getfield 7, 3) := by decide +kernel
theorem dX11_rule_53 : decode cX11_rule 53 = .ok (.bipush 24, 2) := by decide +kernel
theorem dX11_rule_55 : decode cX11_rule 55 = .ok (.iaload, 1) := by decide +kernel
theorem dX11_rule_56 : decode cX11_rule 56 = .ok (.ireturn, 1) := by decide +kernel
theorem dX11_rule_57 : decode cX11_rule 57 = .ok (.aload_n 0, 1) := by decide +kernel
theorem dX11_rule_58 : decode cX11_rule 58 = .ok (.getfield 7, 3) := by decide +kernel
theorem dX11_rule_61 : decode cX11_rule 61 = .ok (.bipush 25, 2) := by decide +kernel
theorem dX11_rule_63 : decode cX11_rule 63 = .ok (.iaload, 1) := by decide +kernel
theorem dX11_rule_64 : decode cX11_rule 64 = .ok (.ireturn, 1) := by decide +kernel
theorem dX11_rule_65 : decode cX11_rule 65 = .ok (.aload_n 0, 1) := by decide +kernel
theorem dX11_rule_66 : decode cX11_rule 66 = .ok (.getfield 7, 3) := by decide +kernel
theorem dX11_rule_69 : decode cX11_rule 69 = .ok (.bipush 26, 2) := by decide +kernel
theorem dX11_rule_71 : decode cX11_rule 71 = .ok (.iaload, 1) := by decide +kernel
theorem dX11_rule_72 : decode cX11_rule 72 = .ok (.ireturn, 1) := by decide +kernel
theorem dX11_rule_73 : decode cX11_rule 73 = .ok (.aload_n 0, 1) := by decide +kernel
theorem dX11_rule_74 : decode cX11_rule 74 = .ok (.getfield 7, 3) := by decide +kernel
theorem dX11_rule_77 : decode cX11_rule 77 = .ok (.bipush 45, 2) := by decide +kernel
theorem dX11_rule_79 : decode cX11_rule 79 = .ok (.iaload, 1) := by decide +kernel
theorem dX11_rule_80 : decode cX11_rule 80 = .ok (.ireturn, 1) := by decide +kernel
theorem dX11_rule_81 : decode cX11_rule 81 = .ok (.aload_n 0, 1) := by decide +kernel
theorem dX11_rule_82 : decode cX11_rule 82 = .ok (.getfield 7, 3) := by decide +kernel
theorem dX11_rule_85 : decode cX11_rule 85 = .ok (.bipush 46, 2) := by decide +kernel
theorem dX11_rule_87 : decode cX11_rule 87 = .ok (.iaload, 1) := by decide +kernel
theorem dX11_rule_88 : decode cX11_rule 88 = .ok (.ireturn, 1) := by decide +kernel
theorem dX11_rule_89 : decode cX11_rule 89 = .ok (.aload_n 0, 1) := by decide +kernel
theorem dX11_rule_90 : decode cX11_rule 90 = .ok (.getfield 7, 3) := by decide +kernel
theorem dX11_rule_93 : decode cX11_rule 93 = .ok (.bipush 95, 2) := by decide +kernel
theorem dX11_rule_95 : decode cX11_rule 95 = .ok (.iaload, 1) := by decide +kernel
theorem dX11_rule_96 : decode cX11_rule 96 = .ok (.ireturn, 1) := by decide +kernel
theorem dX11_rule_97 : decode cX11_rule 97 = .ok (.iconst (-1), 1) := by decide +kernel
theorem dX11_rule_98 : decode cX11_rule 98 = .ok (.ireturn, 1) := by decide +kernel
theorem dX11_heat_0 : decode cX11_heat 0 = .ok (.aload_n 0, 1) := by decide +kernel
theorem dX11_heat_1 : decode cX11_heat 1 = .ok (.iload_n 1, 1) := by decide +kernel
theorem dX11_heat_2 : decode cX11_heat 2 = .ok (.invokevirtual 212, 3) := by decide +kernel
theorem dX11_heat_5 : decode cX11_heat 5 = .ok (.ifCond .eq 14, 3) := by decide +kernel
theorem dX11_heat_8 : decode cX11_heat 8 = .ok (.aload_n 0, 1) := by decide +kernel
theorem dX11_heat_9 : decode cX11_heat 9 = .ok (.getfield 7, 3) := by decide +kernel
theorem dX11_heat_12 : decode cX11_heat 12 = .ok (.iconst 0, 1) := by decide +kernel
theorem dX11_heat_13 : decode cX11_heat 13 = .ok (.iload_n 1, 1) := by decide +kernel
theorem dX11_heat_14 : decode cX11_heat 14 = .ok (.iadd, 1) := by decide +kernel
theorem dX11_heat_15 : decode cX11_heat 15 = .ok (.iaload, 1) := by decide +kernel
theorem dX11_heat_16 : decode cX11_heat 16 = .ok (.goto 4, 3) := by decide +kernel
theorem dX11_heat_19 : decode cX11_heat 19 = .ok (.iconst (-1), 1) := by decide +kernel
theorem dX11_heat_20 : decode cX11_heat 20 = .ok (.ireturn, 1) := by decide +kernel
theorem dX11_wood_0 : decode cX11_wood 0 = .ok (.iload_n 1, 1) := by decide +kernel
theorem dX11_wood_1 : decode cX11_wood 1 = .ok (.i2l, 1) := by decide +kernel
theorem dX11_wood_2 : decode cX11_wood 2 = .ok (.lconst 0, 1) := by decide +kernel
theorem dX11_wood_3 : decode cX11_wood 3 = .ok (.aload_n 0, 1) := by decide +kernel
theorem dX11_wood_4 : decode cX11_wood 4 = .ok (.getfield 7, 3) := by decide +kernel
theorem dX11_wood_7 : decode cX11_wood 7 = .ok (.bipush 26, 2) := by decide +kernel
theorem dX11_wood_9 : decode cX11_wood 9 = .ok (.iaload, 1) := by decide +kernel
theorem dX11_wood_10 : decode cX11_wood 10 = .ok (.iconst 1, 1) := by decide +kernel
theorem dX11_wood_11 : decode cX11_wood 11 = .ok (.isub, 1) := by decide +kernel
theorem dX11_wood_12 : decode cX11_wood 12 = .ok (.i2l, 1) := by decide +kernel
theorem dX11_wood_13 : decode cX11_wood 13 = .ok (.invokestatic 78, 3) := by decide +kernel
theorem dX11_wood_16 : decode cX11_wood 16 = .ok (.ifCond .eq 31, 3) := by decide +kernel
theorem dX11_wood_19 : decode cX11_wood 19 = .ok (.iload_n 2, 1) := by decide +kernel
theorem dX11_wood_20 : decode cX11_wood 20 = .ok (.i2l, 1) := by decide +kernel
theorem dX11_wood_21 : decode cX11_wood 21 = .ok (.lconst 0, 1) := by decide +kernel
theorem dX11_wood_22 : decode cX11_wood 22 = .ok (.ldc2_w 215, 3) := by decide +kernel
theorem dX11_wood_25 : decode cX11_wood 25 = .ok (.invokestatic 78, 3) := by decide +kernel
theorem dX11_wood_28 : decode cX11_wood 28 = .ok (.ifCond .eq 19, 3) := by decide +kernel
theorem dX11_wood_31 : decode cX11_wood 31 = .ok (.aload_n 0, 1) := by decide +kernel
theorem dX11_wood_32 : decode cX11_wood 32 = .ok (.getfield 7, 3) := by decide +kernel
theorem dX11_wood_35 : decode cX11_wood 35 = .ok (.bipush 27, 2) := by decide +kernel
theorem dX11_wood_37 : decode cX11_wood 37 = .ok (.iconst 3, 1) := by decide +kernel
theorem dX11_wood_38 : decode cX11_wood 38 = .ok (.iload_n 1, 1) := by decide +kernel
theorem dX11_wood_39 : decode cX11_wood 39 = .ok (.imul, 1) := by decide +kernel
theorem dX11_wood_40 : decode cX11_wood 40 = .ok (.iadd, 1) := by decide +kernel
theorem dX11_wood_41 : decode cX11_wood 41 = .ok (.iload_n 2, 1) := by decide +kernel
theorem dX11_wood_42 : decode cX11_wood 42 = .ok (.iadd, 1) := by decide +kernel
theorem dX11_wood_43 : decode cX11_wood 43 = .ok (.iaload, 1) := by decide +kernel
theorem dX11_wood_44 : decode cX11_wood 44 = .ok (.goto 4, 3) := by decide +kernel
theorem dX11_wood_47 : decode cX11_wood 47 = .ok (.iconst (-1), 1) := by decide +kernel
theorem dX11_wood_48 : decode cX11_wood 48 = .ok (.ireturn, 1) := by decide +kernel
theorem dX11_spud_0 : decode cX11_spud 0 = .ok (.aload_n 0, 1) := by decide +kernel
theorem dX11_spud_1 : decode cX11_spud 1 = .ok (.iload_n 1, 1) := by decide +kernel
theorem dX11_spud_2 : decode cX11_spud 2 = .ok (.invokevirtual 217, 3) := by decide +kernel
theorem dX11_spud_5 : decode cX11_spud 5 = .ok (.ifCond .eq 15, 3) := by decide +kernel
theorem dX11_spud_8 : decode cX11_spud 8 = .ok (.iload_n 2, 1) := by decide +kernel
theorem dX11_spud_9 : decode cX11_spud 9 = .ok (.i2l, 1) := by decide +kernel
theorem dX11_spud_10 : decode cX11_spud 10 = .ok (.lconst 0, 1) := by decide +kernel
theorem dX11_spud_11 : decode cX11_spud 11 = .ok (.ldc2_w 220, 3) := by decide +kernel
theorem dX11_spud_14 : decode cX11_spud 14 = .ok (.invokestatic 78, 3) := by decide +kernel
theorem dX11_spud_17 : decode cX11_spud 17 = .ok (.ifCond .ne 5, 3) := by decide +kernel
theorem dX11_spud_20 : decode cX11_spud 20 = .ok (.iconst (-1), 1) := by decide +kernel
theorem dX11_spud_21 : decode cX11_spud 21 = .ok (.ireturn, 1) := by decide +kernel
theorem dX11_spud_22 : decode cX11_spud 22 = .ok (.aload_n 0, 1) := by decide +kernel
theorem dX11_spud_23 : decode cX11_spud 23 = .ok (.invokevirtual 222, 3) := by decide +kernel
theorem dX11_spud_26 : decode cX11_spud 26 = .ok (.aload_n 0, 1) := by decide +kernel
theorem dX11_spud_27 : decode cX11_spud 27 = .ok (.iload_n 1, 1) := by decide +kernel
theorem dX11_spud_28 : decode cX11_spud 28 = .ok (.iload_n 2, 1) := by decide +kernel
theorem dX11_spud_29 : decode cX11_spud 29 = .ok (.invokevirtual 225, 3) := by decide +kernel
theorem dX11_spud_32 : decode cX11_spud 32 = .ok (.ireturn, 1) := by decide +kernel
theorem dX11_becomes_0 : decode cX11_becomes 0 = .ok (.aload_n 0, 1) := by decide +kernel
theorem dX11_becomes_1 : decode cX11_becomes 1 = .ok (.getfield 7, 3) := by decide +kernel
theorem dX11_becomes_4 : decode cX11_becomes 4 = .ok (.iload_n 1, 1) := by decide +kernel
theorem dX11_becomes_5 : decode cX11_becomes 5 = .ok (.iaload, 1) := by decide +kernel
theorem dX11_becomes_6 : decode cX11_becomes 6 = .ok (.istore_n 3, 1) := by decide +kernel
theorem dX11_becomes_7 : decode cX11_becomes 7 = .ok (.aload_n 0, 1) := by decide +kernel
theorem dX11_becomes_8 : decode cX11_becomes 8 = .ok (.getfield 7, 3) := by decide +kernel
theorem dX11_becomes_11 : decode cX11_becomes 11 = .ok (.iload_n 1, 1) := by decide +kernel
theorem dX11_becomes_12 : decode cX11_becomes 12 = .ok (.iload_n 2, 1) := by decide +kernel
theorem dX11_becomes_13 : decode cX11_becomes 13 = .ok (.iastore, 1) := by decide +kernel
theorem dX11_becomes_14 : decode cX11_becomes 14 = .ok (.iload_n 3, 1) := by decide +kernel
theorem dX11_becomes_15 : decode cX11_becomes 15 = .ok (.ireturn, 1) := by decide +kernel
theorem dX11_fan_0 : decode cX11_fan 0 = .ok (.aload_n 0, 1) := by decide +kernel
theorem dX11_fan_1 : decode cX11_fan 1 = .ok (.iload_n 1, 1) := by decide +kernel
theorem dX11_fan_2 : decode cX11_fan 2 = .ok (.invokevirtual 212, 3) := by decide +kernel
theorem dX11_fan_5 : decode cX11_fan 5 = .ok (.ifCond .eq 26, 3) := by decide +kernel
theorem dX11_fan_8 : decode cX11_fan 8 = .ok (.iload_n 2, 1) := by decide +kernel
theorem dX11_fan_9 : decode cX11_fan 9 = .ok (.i2l, 1) := by decide +kernel
theorem dX11_fan_10 : decode cX11_fan 10 = .ok (.lconst 0, 1) := by decide +kernel
theorem dX11_fan_11 : decode cX11_fan 11 = .ok (.ldc2_w 228, 3) := by decide +kernel
theorem dX11_fan_14 : decode cX11_fan 14 = .ok (.invokestatic 78, 3) := by decide +kernel
theorem dX11_fan_17 : decode cX11_fan 17 = .ok (.ifCond .eq 14, 3) := by decide +kernel
theorem dX11_fan_20 : decode cX11_fan 20 = .ok (.aload_n 0, 1) := by decide +kernel
theorem dX11_fan_21 : decode cX11_fan 21 = .ok (.iconst 0, 1) := by decide +kernel
theorem dX11_fan_22 : decode cX11_fan 22 = .ok (.iload_n 1, 1) := by decide +kernel
theorem dX11_fan_23 : decode cX11_fan 23 = .ok (.iadd, 1) := by decide +kernel
theorem dX11_fan_24 : decode cX11_fan 24 = .ok (.iload_n 2, 1) := by decide +kernel
theorem dX11_fan_25 : decode cX11_fan 25 = .ok (.invokevirtual 230, 3) := by decide +kernel
theorem dX11_fan_28 : decode cX11_fan 28 = .ok (.goto 4, 3) := by decide +kernel
theorem dX11_fan_31 : decode cX11_fan 31 = .ok (.iconst (-1), 1) := by decide +kernel
theorem dX11_fan_32 : decode cX11_fan 32 = .ok (.ireturn, 1) := by decide +kernel
theorem dX11_ash_0 : decode cX11_ash 0 = .ok (.iload_n 1, 1) := by decide +kernel
theorem dX11_ash_1 : decode cX11_ash 1 = .ok (.i2l, 1) := by decide +kernel
theorem dX11_ash_2 : decode cX11_ash 2 = .ok (.lconst 0, 1) := by decide +kernel
theorem dX11_ash_3 : decode cX11_ash 3 = .ok (.lconst 1, 1) := by decide +kernel
theorem dX11_ash_4 : decode cX11_ash 4 = .ok (.invokestatic 78, 3) := by decide +kernel
theorem dX11_ash_7 : decode cX11_ash 7 = .ok (.ifCond .eq 27, 3) := by decide +kernel
theorem dX11_ash_10 : decode cX11_ash 10 = .ok (.iload_n 2, 1) := by decide +kernel
theorem dX11_ash_11 : decode cX11_ash 11 = .ok (.i2l, 1) := by decide +kernel
theorem dX11_ash_12 : decode cX11_ash 12 = .ok (.lconst 0, 1) := by decide +kernel
theorem dX11_ash_13 : decode cX11_ash 13 = .ok (.ldc2_w 220, 3) := by decide +kernel
theorem dX11_ash_16 : decode cX11_ash 16 = .ok (.invokestatic 78, 3) := by decide +kernel
theorem dX11_ash_19 : decode cX11_ash 19 = .ok (.ifCond .eq 15, 3) := by decide +kernel
theorem dX11_ash_22 : decode cX11_ash 22 = .ok (.aload_n 0, 1) := by decide +kernel
theorem dX11_ash_23 : decode cX11_ash 23 = .ok (.bipush 24, 2) := by decide +kernel
theorem dX11_ash_25 : decode cX11_ash 25 = .ok (.iload_n 1, 1) := by decide +kernel
theorem dX11_ash_26 : decode cX11_ash 26 = .ok (.iadd, 1) := by decide +kernel
theorem dX11_ash_27 : decode cX11_ash 27 = .ok (.iload_n 2, 1) := by decide +kernel
theorem dX11_ash_28 : decode cX11_ash 28 = .ok (.invokevirtual 230, 3) := by decide +kernel
theorem dX11_ash_31 : decode cX11_ash 31 = .ok (.goto 4, 3) := by decide +kernel
theorem dX11_ash_34 : decode cX11_ash 34 = .ok (.iconst (-1), 1) := by decide +kernel
theorem dX11_ash_35 : decode cX11_ash 35 = .ok (.ireturn, 1) := by decide +kernel
theorem dX11_stoke_0 : decode cX11_stoke 0 = .ok (.aload_n 0, 1) := by decide +kernel
theorem dX11_stoke_1 : decode cX11_stoke 1 = .ok (.iload_n 1, 1) := by decide +kernel
theorem dX11_stoke_2 : decode cX11_stoke 2 = .ok (.invokevirtual 233, 3) := by decide +kernel
theorem dX11_stoke_5 : decode cX11_stoke 5 = .ok (.ifCond .eq 27, 3) := by decide +kernel
theorem dX11_stoke_8 : decode cX11_stoke 8 = .ok (.iload_n 2, 1) := by decide +kernel
theorem dX11_stoke_9 : decode cX11_stoke 9 = .ok (.i2l, 1) := by decide +kernel
theorem dX11_stoke_10 : decode cX11_stoke 10 = .ok (.lconst 1, 1) := by decide +kernel
theorem dX11_stoke_11 : decode cX11_stoke 11 = .ok (.ldc2_w 228, 3) := by decide +kernel
theorem dX11_stoke_14 : decode cX11_stoke 14 = .ok (.invokestatic 78, 3) := by decide +kernel
theorem dX11_stoke_17 : decode cX11_stoke 17 = .ok (.ifCond .eq 15, 3) := by decide +kernel
theorem dX11_stoke_20 : decode cX11_stoke 20 = .ok (.iload_n 3, 1) := by decide +kernel
theorem dX11_stoke_21 : decode cX11_stoke 21 = .ok (.i2l, 1) := by decide +kernel
theorem dX11_stoke_22 : decode cX11_stoke 22 = .ok (.lconst 1, 1) := by decide +kernel
theorem dX11_stoke_23 : decode cX11_stoke 23 = .ok (.ldc2_w 220, 3) := by decide +kernel
theorem dX11_stoke_26 : decode cX11_stoke 26 = .ok (.invokestatic 78, 3) := by decide +kernel
theorem dX11_stoke_29 : decode cX11_stoke 29 = .ok (.ifCond .ne 5, 3) := by decide +kernel
theorem dX11_stoke_32 : decode cX11_stoke 32 = .ok (.iconst (-1), 1) := by decide +kernel
theorem dX11_stoke_33 : decode cX11_stoke 33 = .ok (.ireturn, 1) := by decide +kernel
theorem dX11_stoke_34 : decode cX11_stoke 34 = .ok (.aload_n 0, 1) := by decide +kernel
theorem dX11_stoke_35 : decode cX11_stoke 35 = .ok (.getfield 7, 3) := by decide +kernel
theorem dX11_stoke_38 : decode cX11_stoke 38 = .ok (.bipush 26, 2) := by decide +kernel
theorem dX11_stoke_40 : decode cX11_stoke 40 = .ok (.iaload, 1) := by decide +kernel
theorem dX11_stoke_41 : decode cX11_stoke 41 = .ok (.bipush 6, 2) := by decide +kernel
theorem dX11_stoke_43 : decode cX11_stoke 43 = .ok (.if_icmp .ne 6, 3) := by decide +kernel
theorem dX11_stoke_46 : decode cX11_stoke 46 = .ok (.bipush (-3), 2) := by decide +kernel
theorem dX11_stoke_48 : decode cX11_stoke 48 = .ok (.ireturn, 1) := by decide +kernel
theorem dX11_stoke_49 : decode cX11_stoke 49 = .ok (.bipush 27, 2) := by decide +kernel
theorem dX11_stoke_51 : decode cX11_stoke 51 = .ok (.iconst 3, 1) := by decide +kernel
theorem dX11_stoke_52 : decode cX11_stoke 52 = .ok (.aload_n 0, 1) := by decide +kernel
theorem dX11_stoke_53 : decode cX11_stoke 53 = .ok (.getfield 7, 3) := by decide +kernel
theorem dX11_stoke_56 : decode cX11_stoke 56 = .ok (.bipush 26, 2) := by decide +kernel
theorem dX11_stoke_58 : decode cX11_stoke 58 = .ok (.iaload, 1) := by decide +kernel
theorem dX11_stoke_59 : decode cX11_stoke 59 = .ok (.imul, 1) := by decide +kernel
theorem dX11_stoke_60 : decode cX11_stoke 60 = .ok (.iadd, 1) := by decide +kernel
theorem dX11_stoke_61 : decode cX11_stoke 61 = .ok (.istore 4, 2) := by decide +kernel
theorem dX11_stoke_63 : decode cX11_stoke 63 = .ok (.aload_n 0, 1) := by decide +kernel
theorem dX11_stoke_64 : decode cX11_stoke 64 = .ok (.getfield 7, 3) := by decide +kernel
theorem dX11_stoke_67 : decode cX11_stoke 67 = .ok (.iload 4, 2) := by decide +kernel
theorem dX11_stoke_69 : decode cX11_stoke 69 = .ok (.iload_n 1, 1) := by decide +kernel
theorem dX11_stoke_70 : decode cX11_stoke 70 = .ok (.iastore, 1) := by decide +kernel
theorem dX11_stoke_71 : decode cX11_stoke 71 = .ok (.aload_n 0, 1) := by decide +kernel
theorem dX11_stoke_72 : decode cX11_stoke 72 = .ok (.getfield 7, 3) := by decide +kernel
theorem dX11_stoke_75 : decode cX11_stoke 75 = .ok (.iload 4, 2) := by decide +kernel
theorem dX11_stoke_77 : decode cX11_stoke 77 = .ok (.iconst 1, 1) := by decide +kernel
theorem dX11_stoke_78 : decode cX11_stoke 78 = .ok (.iadd, 1) := by decide +kernel
theorem dX11_stoke_79 : decode cX11_stoke 79 = .ok (.iload_n 2, 1) := by decide +kernel
theorem dX11_stoke_80 : decode cX11_stoke 80 = .ok (.iastore, 1) := by decide +kernel
theorem dX11_stoke_81 : decode cX11_stoke 81 = .ok (.aload_n 0, 1) := by decide +kernel
theorem dX11_stoke_82 : decode cX11_stoke 82 = .ok (.getfield 7, 3) := by decide +kernel
theorem dX11_stoke_85 : decode cX11_stoke 85 = .ok (.iload 4, 2) := by decide +kernel
theorem dX11_stoke_87 : decode cX11_stoke 87 = .ok (.iconst 2, 1) := by decide +kernel
theorem dX11_stoke_88 : decode cX11_stoke 88 = .ok (.iadd, 1) := by decide +kernel
theorem dX11_stoke_89 : decode cX11_stoke 89 = .ok (.iload_n 3, 1) := by decide +kernel
theorem dX11_stoke_90 : decode cX11_stoke 90 = .ok (.iastore, 1) := by decide +kernel
theorem dX11_stoke_91 : decode cX11_stoke 91 = .ok (.aload_n 0, 1) := by decide +kernel
theorem dX11_stoke_92 : decode cX11_stoke 92 = .ok (.getfield 7, 3) := by decide +kernel
theorem dX11_stoke_95 : decode cX11_stoke 95 = .ok (.bipush 26, 2) := by decide +kernel
theorem dX11_stoke_97 : decode cX11_stoke 97 = .ok (.dup2, 1) := by decide +kernel
theorem dX11_stoke_98 : decode cX11_stoke 98 = .ok (.iaload, 1) := by decide +kernel
theorem dX11_stoke_99 : decode cX11_stoke 99 = .ok (.iconst 1, 1) := by decide +kernel
theorem dX11_stoke_100 : decode cX11_stoke 100 = .ok (.iadd, 1) := by decide +kernel
theorem dX11_stoke_101 : decode cX11_stoke 101 = .ok (.iastore, 1) := by decide +kernel
theorem dX11_stoke_102 : decode cX11_stoke 102 = .ok (.aload_n 0, 1) := by decide +kernel
theorem dX11_stoke_103 : decode cX11_stoke 103 = .ok (.getfield 7, 3) := by decide +kernel
theorem dX11_stoke_106 : decode cX11_stoke 106 = .ok (.bipush 26, 2) := by decide +kernel
theorem dX11_stoke_108 : decode cX11_stoke 108 = .ok (.iaload, 1) := by decide +kernel
theorem dX11_stoke_109 : decode cX11_stoke 109 = .ok (.ireturn, 1) := by decide +kernel
theorem dX11_add_0 : decode cX11_add 0 = .ok (.iload_n 1, 1) := by decide +kernel
theorem dX11_add_1 : decode cX11_add 1 = .ok (.i2l, 1) := by decide +kernel
theorem dX11_add_2 : decode cX11_add 2 = .ok (.lconst 1, 1) := by decide +kernel
theorem dX11_add_3 : decode cX11_add 3 = .ok (.ldc2_w 220, 3) := by decide +kernel
theorem dX11_add_6 : decode cX11_add 6 = .ok (.invokestatic 78, 3) := by decide +kernel
theorem dX11_add_9 : decode cX11_add 9 = .ok (.ifCond .eq 15, 3) := by decide +kernel
theorem dX11_add_12 : decode cX11_add 12 = .ok (.iload_n 2, 1) := by decide +kernel
theorem dX11_add_13 : decode cX11_add 13 = .ok (.i2l, 1) := by decide +kernel
theorem dX11_add_14 : decode cX11_add 14 = .ok (.lconst 0, 1) := by decide +kernel
theorem dX11_add_15 : decode cX11_add 15 = .ok (.ldc2_w 215, 3) := by decide +kernel
theorem dX11_add_18 : decode cX11_add 18 = .ok (.invokestatic 78, 3) := by decide +kernel
theorem dX11_add_21 : decode cX11_add 21 = .ok (.ifCond .ne 5, 3) := by decide +kernel
theorem dX11_add_24 : decode cX11_add 24 = .ok (.iconst (-1), 1) := by decide +kernel
theorem dX11_add_25 : decode cX11_add 25 = .ok (.ireturn, 1) := by decide +kernel
theorem dX11_add_26 : decode cX11_add 26 = .ok (.aload_n 0, 1) := by decide +kernel
theorem dX11_add_27 : decode cX11_add 27 = .ok (.getfield 7, 3) := by decide +kernel
theorem dX11_add_30 : decode cX11_add 30 = .ok (.bipush 46, 2) := by decide +kernel
theorem dX11_add_32 : decode cX11_add 32 = .ok (.iaload, 1) := by decide +kernel
theorem dX11_add_33 : decode cX11_add 33 = .ok (.bipush 6, 2) := by decide +kernel
theorem dX11_add_35 : decode cX11_add 35 = .ok (.if_icmp .ne 6, 3) := by decide +kernel
theorem dX11_add_38 : decode cX11_add 38 = .ok (.bipush (-3), 2) := by decide +kernel
theorem dX11_add_40 : decode cX11_add 40 = .ok (.ireturn, 1) := by decide +kernel
theorem dX11_add_41 : decode cX11_add 41 = .ok (.bipush 47, 2) := by decide +kernel
theorem dX11_add_43 : decode cX11_add 43 = .ok (.bipush 8, 2) := by decide +kernel
theorem dX11_add_45 : decode cX11_add 45 = .ok (.aload_n 0, 1) := by decide +kernel
theorem dX11_add_46 : decode cX11_add 46 = .ok (.getfield 7, 3) := by decide +kernel
theorem dX11_add_49 : decode cX11_add 49 = .ok (.bipush 46, 2) := by decide +kernel
theorem dX11_add_51 : decode cX11_add 51 = .ok (.iaload, 1) := by decide +kernel
theorem dX11_add_52 : decode cX11_add 52 = .ok (.imul, 1) := by decide +kernel
theorem dX11_add_53 : decode cX11_add 53 = .ok (.iadd, 1) := by decide +kernel
theorem dX11_add_54 : decode cX11_add 54 = .ok (.istore_n 3, 1) := by decide +kernel
theorem dX11_add_55 : decode cX11_add 55 = .ok (.iconst 0, 1) := by decide +kernel
theorem dX11_add_56 : decode cX11_add 56 = .ok (.istore 4, 2) := by decide +kernel
theorem dX11_add_58 : decode cX11_add 58 = .ok (.iload 4, 2) := by decide +kernel
theorem dX11_add_60 : decode cX11_add 60 = .ok (.bipush 8, 2) := by decide +kernel
theorem dX11_add_62 : decode cX11_add 62 = .ok (.if_icmp .ge 37, 3) := by decide +kernel
theorem dX11_add_65 : decode cX11_add 65 = .ok (.aload_n 0, 1) := by decide +kernel
theorem dX11_add_66 : decode cX11_add 66 = .ok (.getfield 7, 3) := by decide +kernel
theorem dX11_add_69 : decode cX11_add 69 = .ok (.iload_n 3, 1) := by decide +kernel
theorem dX11_add_70 : decode cX11_add 70 = .ok (.iload 4, 2) := by decide +kernel
theorem dX11_add_72 : decode cX11_add 72 = .ok (.iadd, 1) := by decide +kernel
theorem dX11_add_73 : decode cX11_add 73 = .ok (.iload 4, 2) := by decide +kernel
theorem dX11_add_75 : decode cX11_add 75 = .ok (.iconst 2, 1) := by decide +kernel
theorem dX11_add_76 : decode cX11_add 76 = .ok (.if_icmp .eq 10, 3) := by decide +kernel
theorem dX11_add_79 : decode cX11_add 79 = .ok (.iload 4, 2) := by decide +kernel
theorem dX11_add_81 : decode cX11_add 81 = .ok (.bipush 7, 2) := by decide +kernel
theorem dX11_add_83 : decode cX11_add 83 = .ok (.if_icmp .ne 8, 3) := by decide +kernel
theorem dX11_add_86 : decode cX11_add 86 = .ok (.bipush (-4), 2) := by decide +kernel
theorem dX11_add_88 : decode cX11_add 88 = .ok (.goto 4, 3) := by decide +kernel
theorem dX11_add_91 : decode cX11_add 91 = .ok (.iconst 0, 1) := by decide +kernel
theorem dX11_add_92 : decode cX11_add 92 = .ok (.iastore, 1) := by decide +kernel
theorem dX11_add_93 : decode cX11_add 93 = .ok (.iinc 4 1, 3) := by decide +kernel
theorem dX11_add_96 : decode cX11_add 96 = .ok (.goto (-38), 3) := by decide +kernel
theorem dX11_add_99 : decode cX11_add 99 = .ok (.aload_n 0, 1) := by decide +kernel
theorem dX11_add_100 : decode cX11_add 100 = .ok (.getfield 7, 3) := by decide +kernel
theorem dX11_add_103 : decode cX11_add 103 = .ok (.iload_n 3, 1) := by decide +kernel
theorem dX11_add_104 : decode cX11_add 104 = .ok (.iconst 0, 1) := by decide +kernel
theorem dX11_add_105 : decode cX11_add 105 = .ok (.iadd, 1) := by decide +kernel
theorem dX11_add_106 : decode cX11_add 106 = .ok (.iload_n 1, 1) := by decide +kernel
theorem dX11_add_107 : decode cX11_add 107 = .ok (.iastore, 1) := by decide +kernel
theorem dX11_add_108 : decode cX11_add 108 = .ok (.aload_n 0, 1) := by decide +kernel
theorem dX11_add_109 : decode cX11_add 109 = .ok (.getfield 7, 3) := by decide +kernel
theorem dX11_add_112 : decode cX11_add 112 = .ok (.iload_n 3, 1) := by decide +kernel
theorem dX11_add_113 : decode cX11_add 113 = .ok (.iconst 1, 1) := by decide +kernel
theorem dX11_add_114 : decode cX11_add 114 = .ok (.iadd, 1) := by decide +kernel
theorem dX11_add_115 : decode cX11_add 115 = .ok (.iload_n 2, 1) := by decide +kernel
theorem dX11_add_116 : decode cX11_add 116 = .ok (.iastore, 1) := by decide +kernel
theorem dX11_add_117 : decode cX11_add 117 = .ok (.aload_n 0, 1) := by decide +kernel
theorem dX11_add_118 : decode cX11_add 118 = .ok (.getfield 7, 3) := by decide +kernel
theorem dX11_add_121 : decode cX11_add 121 = .ok (.bipush 46, 2) := by decide +kernel
theorem dX11_add_123 : decode cX11_add 123 = .ok (.dup2, 1) := by decide +kernel
theorem dX11_add_124 : decode cX11_add 124 = .ok (.iaload, 1) := by decide +kernel
theorem dX11_add_125 : decode cX11_add 125 = .ok (.iconst 1, 1) := by decide +kernel
theorem dX11_add_126 : decode cX11_add 126 = .ok (.iadd, 1) := by decide +kernel
theorem dX11_add_127 : decode cX11_add 127 = .ok (.iastore, 1) := by decide +kernel
theorem dX11_add_128 : decode cX11_add 128 = .ok (.aload_n 0, 1) := by decide +kernel
theorem dX11_add_129 : decode cX11_add 129 = .ok (.getfield 7, 3) := by decide +kernel
theorem dX11_add_132 : decode cX11_add 132 = .ok (.bipush 46, 2) := by decide +kernel
theorem dX11_add_134 : decode cX11_add 134 = .ok (.iaload, 1) := by decide +kernel
theorem dX11_add_135 : decode cX11_add 135 = .ok (.ireturn, 1) := by decide +kernel
theorem dX11_dig_0 : decode cX11_dig 0 = .ok (.aload_n 0, 1) := by decide +kernel
theorem dX11_dig_1 : decode cX11_dig 1 = .ok (.iload_n 1, 1) := by decide +kernel
theorem dX11_dig_2 : decode cX11_dig 2 = .ok (.invokevirtual 217, 3) := by decide +kernel
theorem dX11_dig_5 : decode cX11_dig 5 = .ok (.ifCond .eq 17, 3) := by decide +kernel
theorem dX11_dig_8 : decode cX11_dig 8 = .ok (.iload_n 2, 1) := by decide +kernel
theorem dX11_dig_9 : decode cX11_dig 9 = .ok (.bipush (-4), 2) := by decide +kernel
theorem dX11_dig_11 : decode cX11_dig 11 = .ok (.if_icmp .eq 13, 3) := by decide +kernel
theorem dX11_dig_14 : decode cX11_dig 14 = .ok (.aload_n 0, 1) := by decide +kernel
theorem dX11_dig_15 : decode cX11_dig 15 = .ok (.iload_n 2, 1) := by decide +kernel
theorem dX11_dig_16 : decode cX11_dig 16 = .ok (.invokevirtual 212, 3) := by decide +kernel
theorem dX11_dig_19 : decode cX11_dig 19 = .ok (.ifCond .ne 5, 3) := by decide +kernel
theorem dX11_dig_22 : decode cX11_dig 22 = .ok (.iconst (-1), 1) := by decide +kernel
theorem dX11_dig_23 : decode cX11_dig 23 = .ok (.ireturn, 1) := by decide +kernel
theorem dX11_dig_24 : decode cX11_dig 24 = .ok (.iconst 1, 1) := by decide +kernel
theorem dX11_dig_25 : decode cX11_dig 25 = .ok (.istore_n 3, 1) := by decide +kernel
theorem dX11_dig_26 : decode cX11_dig 26 = .ok (.iconst 0, 1) := by decide +kernel
theorem dX11_dig_27 : decode cX11_dig 27 = .ok (.istore 4, 2) := by decide +kernel
theorem dX11_dig_29 : decode cX11_dig 29 = .ok (.iload 4, 2) := by decide +kernel
theorem dX11_dig_31 : decode cX11_dig 31 = .ok (.aload_n 0, 1) := by decide +kernel
theorem dX11_dig_32 : decode cX11_dig 32 = .ok (.getfield 7, 3) := by decide +kernel
theorem dX11_dig_35 : decode cX11_dig 35 = .ok (.bipush 46, 2) := by decide +kernel
theorem dX11_dig_37 : decode cX11_dig 37 = .ok (.iaload, 1) := by decide +kernel
theorem dX11_dig_38 : decode cX11_dig 38 = .ok (.if_icmp .ge 50, 3) := by decide +kernel
theorem dX11_dig_41 : decode cX11_dig 41 = .ok (.iload_n 3, 1) := by decide +kernel
theorem dX11_dig_42 : decode cX11_dig 42 = .ok (.ifCond .eq 38, 3) := by decide +kernel
theorem dX11_dig_45 : decode cX11_dig 45 = .ok (.iload_n 2, 1) := by decide +kernel
theorem dX11_dig_46 : decode cX11_dig 46 = .ok (.bipush (-4), 2) := by decide +kernel
theorem dX11_dig_48 : decode cX11_dig 48 = .ok (.if_icmp .eq 28, 3) := by decide +kernel
theorem dX11_dig_51 : decode cX11_dig 51 = .ok (.iload 4, 2) := by decide +kernel
theorem dX11_dig_53 : decode cX11_dig 53 = .ok (.iload_n 1, 1) := by decide +kernel
theorem dX11_dig_54 : decode cX11_dig 54 = .ok (.if_icmp .eq 22, 3) := by decide +kernel
theorem dX11_dig_57 : decode cX11_dig 57 = .ok (.aload_n 0, 1) := by decide +kernel
theorem dX11_dig_58 : decode cX11_dig 58 = .ok (.getfield 7, 3) := by decide +kernel
theorem dX11_dig_61 : decode cX11_dig 61 = .ok (.bipush 47, 2) := by decide +kernel
theorem dX11_dig_63 : decode cX11_dig 63 = .ok (.bipush 8, 2) := by decide +kernel
theorem dX11_dig_65 : decode cX11_dig 65 = .ok (.iload 4, 2) := by decide +kernel
theorem dX11_dig_67 : decode cX11_dig 67 = .ok (.imul, 1) := by decide +kernel
theorem dX11_dig_68 : decode cX11_dig 68 = .ok (.iadd, 1) := by decide +kernel
theorem dX11_dig_69 : decode cX11_dig 69 = .ok (.iconst 2, 1) := by decide +kernel
theorem dX11_dig_70 : decode cX11_dig 70 = .ok (.iadd, 1) := by decide +kernel
theorem dX11_dig_71 : decode cX11_dig 71 = .ok (.iaload, 1) := by decide +kernel
theorem dX11_dig_72 : decode cX11_dig 72 = .ok (.iload_n 2, 1) := by decide +kernel
theorem dX11_dig_73 : decode cX11_dig 73 = .ok (.if_icmp .eq 7, 3) := by decide +kernel
theorem dX11_dig_76 : decode cX11_dig 76 = .ok (.iconst 1, 1) := by decide +kernel
theorem dX11_dig_77 : decode cX11_dig 77 = .ok (.goto 4, 3) := by decide +kernel
theorem dX11_dig_80 : decode cX11_dig 80 = .ok (.iconst 0, 1) := by decide +kernel
theorem dX11_dig_81 : decode cX11_dig 81 = .ok (.istore_n 3, 1) := by decide +kernel
theorem dX11_dig_82 : decode cX11_dig 82 = .ok (.iinc 4 1, 3) := by decide +kernel
theorem dX11_dig_85 : decode cX11_dig 85 = .ok (.goto (-56), 3) := by decide +kernel
theorem dX11_dig_88 : decode cX11_dig 88 = .ok (.iload_n 3, 1) := by decide +kernel
theorem dX11_dig_89 : decode cX11_dig 89 = .ok (.ifCond .eq 20, 3) := by decide +kernel
theorem dX11_dig_92 : decode cX11_dig 92 = .ok (.aload_n 0, 1) := by decide +kernel
theorem dX11_dig_93 : decode cX11_dig 93 = .ok (.bipush 47, 2) := by decide +kernel
theorem dX11_dig_95 : decode cX11_dig 95 = .ok (.bipush 8, 2) := by decide +kernel
theorem dX11_dig_97 : decode cX11_dig 97 = .ok (.iload_n 1, 1) := by decide +kernel
theorem dX11_dig_98 : decode cX11_dig 98 = .ok (.imul, 1) := by decide +kernel
theorem dX11_dig_99 : decode cX11_dig 99 = .ok (.iadd, 1) := by decide +kernel
theorem dX11_dig_100 : decode cX11_dig 100 = .ok (.iconst 2, 1) := by decide +kernel
theorem dX11_dig_101 : decode cX11_dig 101 = .ok (.iadd, 1) := by decide +kernel
theorem dX11_dig_102 : decode cX11_dig 102 = .ok (.iload_n 2, 1) := by decide +kernel
theorem dX11_dig_103 : decode cX11_dig 103 = .ok (.invokevirtual 230, 3) := by decide +kernel
theorem dX11_dig_106 : decode cX11_dig 106 = .ok (.goto 5, 3) := by decide +kernel
theorem dX11_dig_109 : decode cX11_dig 109 = .ok (.bipush (-2), 2) := by decide +kernel
theorem dX11_dig_111 : decode cX11_dig 111 = .ok (.ireturn, 1) := by decide +kernel
theorem dX11_turn_0 : decode cX11_turn 0 = .ok (.aload_n 0, 1) := by decide +kernel
theorem dX11_turn_1 : decode cX11_turn 1 = .ok (.iload_n 1, 1) := by decide +kernel
theorem dX11_turn_2 : decode cX11_turn 2 = .ok (.invokevirtual 217, 3) := by decide +kernel
theorem dX11_turn_5 : decode cX11_turn 5 = .ok (.ifCond .ne 5, 3) := by decide +kernel
end
section
theorem dX11_turn_8 : decode cX11_turn 8 = .ok (.iconst (-1), 1) := by decide +kernel
theorem dX11_turn_9 : decode cX11_turn 9 = .ok (.ireturn, 1) := by decide +kernel
theorem dX11_turn_10 : decode cX11_turn 10 = .ok (.bipush 47, 2) := by decide +kernel
theorem dX11_turn_12 : decode cX11_turn 12 = .ok (.bipush 8, 2) := by decide +kernel
theorem dX11_turn_14 : decode cX11_turn 14 = .ok (.iload_n 1, 1) := by decide +kernel
theorem dX11_turn_15 : decode cX11_turn 15 = .ok (.imul, 1) := by decide +kernel
theorem dX11_turn_16 : decode cX11_turn 16 = .ok (.iadd, 1) := by decide +kernel
theorem dX11_turn_17 : decode cX11_turn 17 = .ok (.istore_n 2, 1) := by decide +kernel
theorem dX11_turn_18 : decode cX11_turn 18 = .ok (.aload_n 0, 1) := by decide +kernel
theorem dX11_turn_19 : decode cX11_turn 19 = .ok (.getfield 7, 3) := by decide +kernel
theorem dX11_turn_22 : decode cX11_turn 22 = .ok (.iload_n 2, 1) := by decide +kernel
theorem dX11_turn_23 : decode cX11_turn 23 = .ok (.bipush 6, 2) := by decide +kernel
theorem dX11_turn_25 : decode cX11_turn 25 = .ok (.iadd, 1) := by decide +kernel
theorem dX11_turn_26 : decode cX11_turn 26 = .ok (.iconst 1, 1) := by decide +kernel
theorem dX11_turn_27 : decode cX11_turn 27 = .ok (.aload_n 0, 1) := by decide +kernel
theorem dX11_turn_28 : decode cX11_turn 28 = .ok (.getfield 7, 3) := by decide +kernel
theorem dX11_turn_31 : decode cX11_turn 31 = .ok (.iload_n 2, 1) := by decide +kernel
theorem dX11_turn_32 : decode cX11_turn 32 = .ok (.bipush 6, 2) := by decide +kernel
theorem dX11_turn_34 : decode cX11_turn 34 = .ok (.iadd, 1) := by decide +kernel
theorem dX11_turn_35 : decode cX11_turn 35 = .ok (.iaload, 1) := by decide +kernel
theorem dX11_turn_36 : decode cX11_turn 36 = .ok (.isub, 1) := by decide +kernel
theorem dX11_turn_37 : decode cX11_turn 37 = .ok (.iastore, 1) := by decide +kernel
theorem dX11_turn_38 : decode cX11_turn 38 = .ok (.aload_n 0, 1) := by decide +kernel
theorem dX11_turn_39 : decode cX11_turn 39 = .ok (.getfield 7, 3) := by decide +kernel
theorem dX11_turn_42 : decode cX11_turn 42 = .ok (.iload_n 2, 1) := by decide +kernel
theorem dX11_turn_43 : decode cX11_turn 43 = .ok (.iconst 4, 1) := by decide +kernel
theorem dX11_turn_44 : decode cX11_turn 44 = .ok (.iadd, 1) := by decide +kernel
theorem dX11_turn_45 : decode cX11_turn 45 = .ok (.aload_n 0, 1) := by decide +kernel
theorem dX11_turn_46 : decode cX11_turn 46 = .ok (.getfield 7, 3) := by decide +kernel
theorem dX11_turn_49 : decode cX11_turn 49 = .ok (.iload_n 2, 1) := by decide +kernel
theorem dX11_turn_50 : decode cX11_turn 50 = .ok (.bipush 6, 2) := by decide +kernel
theorem dX11_turn_52 : decode cX11_turn 52 = .ok (.iadd, 1) := by decide +kernel
theorem dX11_turn_53 : decode cX11_turn 53 = .ok (.iaload, 1) := by decide +kernel
theorem dX11_turn_54 : decode cX11_turn 54 = .ok (.iadd, 1) := by decide +kernel
theorem dX11_turn_55 : decode cX11_turn 55 = .ok (.iaload, 1) := by decide +kernel
theorem dX11_turn_56 : decode cX11_turn 56 = .ok (.ireturn, 1) := by decide +kernel
theorem dX11_wrap_0 : decode cX11_wrap 0 = .ok (.aload_n 0, 1) := by decide +kernel
theorem dX11_wrap_1 : decode cX11_wrap 1 = .ok (.iload_n 1, 1) := by decide +kernel
theorem dX11_wrap_2 : decode cX11_wrap 2 = .ok (.invokevirtual 217, 3) := by decide +kernel
theorem dX11_wrap_5 : decode cX11_wrap 5 = .ok (.ifCond .eq 32, 3) := by decide +kernel
theorem dX11_wrap_8 : decode cX11_wrap 8 = .ok (.iload_n 2, 1) := by decide +kernel
theorem dX11_wrap_9 : decode cX11_wrap 9 = .ok (.i2l, 1) := by decide +kernel
theorem dX11_wrap_10 : decode cX11_wrap 10 = .ok (.lconst 0, 1) := by decide +kernel
theorem dX11_wrap_11 : decode cX11_wrap 11 = .ok (.ldc2_w 215, 3) := by decide +kernel
theorem dX11_wrap_14 : decode cX11_wrap 14 = .ok (.invokestatic 78, 3) := by decide +kernel
theorem dX11_wrap_17 : decode cX11_wrap 17 = .ok (.ifCond .eq 20, 3) := by decide +kernel
theorem dX11_wrap_20 : decode cX11_wrap 20 = .ok (.aload_n 0, 1) := by decide +kernel
theorem dX11_wrap_21 : decode cX11_wrap 21 = .ok (.bipush 47, 2) := by decide +kernel
theorem dX11_wrap_23 : decode cX11_wrap 23 = .ok (.bipush 8, 2) := by decide +kernel
theorem dX11_wrap_25 : decode cX11_wrap 25 = .ok (.iload_n 1, 1) := by decide +kernel
theorem dX11_wrap_26 : decode cX11_wrap 26 = .ok (.imul, 1) := by decide +kernel
theorem dX11_wrap_27 : decode cX11_wrap 27 = .ok (.iadd, 1) := by decide +kernel
theorem dX11_wrap_28 : decode cX11_wrap 28 = .ok (.iconst 1, 1) := by decide +kernel
theorem dX11_wrap_29 : decode cX11_wrap 29 = .ok (.iadd, 1) := by decide +kernel
theorem dX11_wrap_30 : decode cX11_wrap 30 = .ok (.iload_n 2, 1) := by decide +kernel
theorem dX11_wrap_31 : decode cX11_wrap 31 = .ok (.invokevirtual 230, 3) := by decide +kernel
theorem dX11_wrap_34 : decode cX11_wrap 34 = .ok (.goto 4, 3) := by decide +kernel
theorem dX11_wrap_37 : decode cX11_wrap 37 = .ok (.iconst (-1), 1) := by decide +kernel
theorem dX11_wrap_38 : decode cX11_wrap 38 = .ok (.ireturn, 1) := by decide +kernel
theorem dX11_memo_0 : decode cX11_memo 0 = .ok (.aload_n 0, 1) := by decide +kernel
theorem dX11_memo_1 : decode cX11_memo 1 = .ok (.iload_n 1, 1) := by decide +kernel
theorem dX11_memo_2 : decode cX11_memo 2 = .ok (.invokevirtual 217, 3) := by decide +kernel
theorem dX11_memo_5 : decode cX11_memo 5 = .ok (.ifCond .eq 35, 3) := by decide +kernel
theorem dX11_memo_8 : decode cX11_memo 8 = .ok (.iload_n 2, 1) := by decide +kernel
theorem dX11_memo_9 : decode cX11_memo 9 = .ok (.bipush (-4), 2) := by decide +kernel
theorem dX11_memo_11 : decode cX11_memo 11 = .ok (.if_icmp .eq 11, 3) := by decide +kernel
theorem dX11_memo_14 : decode cX11_memo 14 = .ok (.aload_n 0, 1) := by decide +kernel
theorem dX11_memo_15 : decode cX11_memo 15 = .ok (.iload_n 2, 1) := by decide +kernel
theorem dX11_memo_16 : decode cX11_memo 16 = .ok (.invokevirtual 233, 3) := by decide +kernel
theorem dX11_memo_19 : decode cX11_memo 19 = .ok (.ifCond .eq 21, 3) := by decide +kernel
theorem dX11_memo_22 : decode cX11_memo 22 = .ok (.aload_n 0, 1) := by decide +kernel
theorem dX11_memo_23 : decode cX11_memo 23 = .ok (.bipush 47, 2) := by decide +kernel
theorem dX11_memo_25 : decode cX11_memo 25 = .ok (.bipush 8, 2) := by decide +kernel
theorem dX11_memo_27 : decode cX11_memo 27 = .ok (.iload_n 1, 1) := by decide +kernel
theorem dX11_memo_28 : decode cX11_memo 28 = .ok (.imul, 1) := by decide +kernel
theorem dX11_memo_29 : decode cX11_memo 29 = .ok (.iadd, 1) := by decide +kernel
theorem dX11_memo_30 : decode cX11_memo 30 = .ok (.bipush 7, 2) := by decide +kernel
theorem dX11_memo_32 : decode cX11_memo 32 = .ok (.iadd, 1) := by decide +kernel
theorem dX11_memo_33 : decode cX11_memo 33 = .ok (.iload_n 2, 1) := by decide +kernel
theorem dX11_memo_34 : decode cX11_memo 34 = .ok (.invokevirtual 230, 3) := by decide +kernel
theorem dX11_memo_37 : decode cX11_memo 37 = .ok (.goto 4, 3) := by decide +kernel
theorem dX11_memo_40 : decode cX11_memo 40 = .ok (.iconst (-1), 1) := by decide +kernel
theorem dX11_memo_41 : decode cX11_memo 41 = .ok (.ireturn, 1) := by decide +kernel
theorem dX11_rake_0 : decode cX11_rake 0 = .ok (.aload_n 0, 1) := by decide +kernel
theorem dX11_rake_1 : decode cX11_rake 1 = .ok (.iload_n 1, 1) := by decide +kernel
theorem dX11_rake_2 : decode cX11_rake 2 = .ok (.invokevirtual 212, 3) := by decide +kernel
theorem dX11_rake_5 : decode cX11_rake 5 = .ok (.ifCond .ne 5, 3) := by decide +kernel
theorem dX11_rake_8 : decode cX11_rake 8 = .ok (.iconst (-1), 1) := by decide +kernel
theorem dX11_rake_9 : decode cX11_rake 9 = .ok (.ireturn, 1) := by decide +kernel
theorem dX11_rake_10 : decode cX11_rake 10 = .ok (.aload_n 0, 1) := by decide +kernel
theorem dX11_rake_11 : decode cX11_rake 11 = .ok (.getfield 7, 3) := by decide +kernel
theorem dX11_rake_14 : decode cX11_rake 14 = .ok (.bipush 95, 2) := by decide +kernel
theorem dX11_rake_16 : decode cX11_rake 16 = .ok (.iaload, 1) := by decide +kernel
theorem dX11_rake_17 : decode cX11_rake 17 = .ok (.iload_n 1, 1) := by decide +kernel
theorem dX11_rake_18 : decode cX11_rake 18 = .ok (.ishr, 1) := by decide +kernel
theorem dX11_rake_19 : decode cX11_rake 19 = .ok (.iconst 1, 1) := by decide +kernel
theorem dX11_rake_20 : decode cX11_rake 20 = .ok (.iand, 1) := by decide +kernel
theorem dX11_rake_21 : decode cX11_rake 21 = .ok (.istore_n 3, 1) := by decide +kernel
theorem dX11_rake_22 : decode cX11_rake 22 = .ok (.aload_n 0, 1) := by decide +kernel
theorem dX11_rake_23 : decode cX11_rake 23 = .ok (.getfield 7, 3) := by decide +kernel
theorem dX11_rake_26 : decode cX11_rake 26 = .ok (.bipush 95, 2) := by decide +kernel
theorem dX11_rake_28 : decode cX11_rake 28 = .ok (.iload_n 2, 1) := by decide +kernel
theorem dX11_rake_29 : decode cX11_rake 29 = .ok (.ifCond .eq 17, 3) := by decide +kernel
theorem dX11_rake_32 : decode cX11_rake 32 = .ok (.aload_n 0, 1) := by decide +kernel
theorem dX11_rake_33 : decode cX11_rake 33 = .ok (.getfield 7, 3) := by decide +kernel
theorem dX11_rake_36 : decode cX11_rake 36 = .ok (.bipush 95, 2) := by decide +kernel
theorem dX11_rake_38 : decode cX11_rake 38 = .ok (.iaload, 1) := by decide +kernel
theorem dX11_rake_39 : decode cX11_rake 39 = .ok (.iconst 1, 1) := by decide +kernel
theorem dX11_rake_40 : decode cX11_rake 40 = .ok (.iload_n 1, 1) := by decide +kernel
theorem dX11_rake_41 : decode cX11_rake 41 = .ok (.ishl, 1) := by decide +kernel
theorem dX11_rake_42 : decode cX11_rake 42 = .ok (.ior, 1) := by decide +kernel
theorem dX11_rake_43 : decode cX11_rake 43 = .ok (.goto 16, 3) := by decide +kernel
theorem dX11_rake_46 : decode cX11_rake 46 = .ok (.aload_n 0, 1) := by decide +kernel
theorem dX11_rake_47 : decode cX11_rake 47 = .ok (.getfield 7, 3) := by decide +kernel
theorem dX11_rake_50 : decode cX11_rake 50 = .ok (.bipush 95, 2) := by decide +kernel
theorem dX11_rake_52 : decode cX11_rake 52 = .ok (.iaload, 1) := by decide +kernel
theorem dX11_rake_53 : decode cX11_rake 53 = .ok (.iconst 1, 1) := by decide +kernel
theorem dX11_rake_54 : decode cX11_rake 54 = .ok (.iload_n 1, 1) := by decide +kernel
theorem dX11_rake_55 : decode cX11_rake 55 = .ok (.ishl, 1) := by decide +kernel
theorem dX11_rake_56 : decode cX11_rake 56 = .ok (.iconst (-1), 1) := by decide +kernel
theorem dX11_rake_57 : decode cX11_rake 57 = .ok (.ixor, 1) := by decide +kernel
theorem dX11_rake_58 : decode cX11_rake 58 = .ok (.iand, 1) := by decide +kernel
theorem dX11_rake_59 : decode cX11_rake 59 = .ok (.iastore, 1) := by decide +kernel
theorem dX11_rake_60 : decode cX11_rake 60 = .ok (.iload_n 3, 1) := by decide +kernel
theorem dX11_rake_61 : decode cX11_rake 61 = .ok (.ireturn, 1) := by decide +kernel
theorem dX11_go_0 : decode cX11_go 0 = .ok (.iload_n 1, 1) := by decide +kernel
theorem dX11_go_1 : decode cX11_go 1 = .ok (.i2l, 1) := by decide +kernel
theorem dX11_go_2 : decode cX11_go 2 = .ok (.lconst 0, 1) := by decide +kernel
theorem dX11_go_3 : decode cX11_go 3 = .ok (.ldc2_w 236, 3) := by decide +kernel
theorem dX11_go_6 : decode cX11_go 6 = .ok (.invokestatic 78, 3) := by decide +kernel
theorem dX11_go_9 : decode cX11_go 9 = .ok (.ifCond .ne 5, 3) := by decide +kernel
theorem dX11_go_12 : decode cX11_go 12 = .ok (.iconst (-1), 1) := by decide +kernel
theorem dX11_go_13 : decode cX11_go 13 = .ok (.ireturn, 1) := by decide +kernel
theorem dX11_go_14 : decode cX11_go 14 = .ok (.aload_n 0, 1) := by decide +kernel
theorem dX11_go_15 : decode cX11_go 15 = .ok (.getfield 7, 3) := by decide +kernel
theorem dX11_go_18 : decode cX11_go 18 = .ok (.bipush 45, 2) := by decide +kernel
theorem dX11_go_20 : decode cX11_go 20 = .ok (.iaload, 1) := by decide +kernel
theorem dX11_go_21 : decode cX11_go 21 = .ok (.iload_n 1, 1) := by decide +kernel
theorem dX11_go_22 : decode cX11_go 22 = .ok (.iadd, 1) := by decide +kernel
theorem dX11_go_23 : decode cX11_go 23 = .ok (.sipush 999, 3) := by decide +kernel
theorem dX11_go_26 : decode cX11_go 26 = .ok (.if_icmp .le 6, 3) := by decide +kernel
theorem dX11_go_29 : decode cX11_go 29 = .ok (.bipush (-3), 2) := by decide +kernel
theorem dX11_go_31 : decode cX11_go 31 = .ok (.ireturn, 1) := by decide +kernel
theorem dX11_go_32 : decode cX11_go 32 = .ok (.aload_n 0, 1) := by decide +kernel
theorem dX11_go_33 : decode cX11_go 33 = .ok (.invokevirtual 222, 3) := by decide +kernel
theorem dX11_go_36 : decode cX11_go 36 = .ok (.aload_n 0, 1) := by decide +kernel
theorem dX11_go_37 : decode cX11_go 37 = .ok (.iload_n 1, 1) := by decide +kernel
theorem dX11_go_38 : decode cX11_go 38 = .ok (.invokevirtual 238, 3) := by decide +kernel
theorem dX11_go_41 : decode cX11_go 41 = .ok (.iconst 0, 1) := by decide +kernel
theorem dX11_go_42 : decode cX11_go 42 = .ok (.istore_n 2, 1) := by decide +kernel
theorem dX11_go_43 : decode cX11_go 43 = .ok (.iload_n 2, 1) := by decide +kernel
theorem dX11_go_44 : decode cX11_go 44 = .ok (.bipush 115, 2) := by decide +kernel
theorem dX11_go_46 : decode cX11_go 46 = .ok (.if_icmp .ge 21, 3) := by decide +kernel
theorem dX11_go_49 : decode cX11_go 49 = .ok (.aload_n 0, 1) := by decide +kernel
theorem dX11_go_50 : decode cX11_go 50 = .ok (.getfield 7, 3) := by decide +kernel
theorem dX11_go_53 : decode cX11_go 53 = .ok (.iload_n 2, 1) := by decide +kernel
theorem dX11_go_54 : decode cX11_go 54 = .ok (.aload_n 0, 1) := by decide +kernel
theorem dX11_go_55 : decode cX11_go 55 = .ok (.getfield 13, 3) := by decide +kernel
theorem dX11_go_58 : decode cX11_go 58 = .ok (.iload_n 2, 1) := by decide +kernel
theorem dX11_go_59 : decode cX11_go 59 = .ok (.iaload, 1) := by decide +kernel
theorem dX11_go_60 : decode cX11_go 60 = .ok (.iastore, 1) := by decide +kernel
theorem dX11_go_61 : decode cX11_go 61 = .ok (.iinc 2 1, 3) := by decide +kernel
theorem dX11_go_64 : decode cX11_go 64 = .ok (.goto (-21), 3) := by decide +kernel
theorem dX11_go_67 : decode cX11_go 67 = .ok (.aload_n 0, 1) := by decide +kernel
theorem dX11_go_68 : decode cX11_go 68 = .ok (.invokevirtual 241, 3) := by decide +kernel
theorem dX11_go_71 : decode cX11_go 71 = .ok (.ireturn, 1) := by decide +kernel
theorem dX11_ahead_0 : decode cX11_ahead 0 = .ok (.aload_n 0, 1) := by decide +kernel
theorem dX11_ahead_1 : decode cX11_ahead 1 = .ok (.iload_n 1, 1) := by decide +kernel
theorem dX11_ahead_2 : decode cX11_ahead 2 = .ok (.invokevirtual 217, 3) := by decide +kernel
theorem dX11_ahead_5 : decode cX11_ahead 5 = .ok (.ifCond .eq 27, 3) := by decide +kernel
theorem dX11_ahead_8 : decode cX11_ahead 8 = .ok (.iload_n 2, 1) := by decide +kernel
theorem dX11_ahead_9 : decode cX11_ahead 9 = .ok (.i2l, 1) := by decide +kernel
theorem dX11_ahead_10 : decode cX11_ahead 10 = .ok (.lconst 0, 1) := by decide +kernel
theorem dX11_ahead_11 : decode cX11_ahead 11 = .ok (.ldc2_w 236, 3) := by decide +kernel
theorem dX11_ahead_14 : decode cX11_ahead 14 = .ok (.invokestatic 78, 3) := by decide +kernel
theorem dX11_ahead_17 : decode cX11_ahead 17 = .ok (.ifCond .eq 15, 3) := by decide +kernel
theorem dX11_ahead_20 : decode cX11_ahead 20 = .ok (.iload_n 3, 1) := by decide +kernel
theorem dX11_ahead_21 : decode cX11_ahead 21 = .ok (.i2l, 1) := by decide +kernel
theorem dX11_ahead_22 : decode cX11_ahead 22 = .ok (.lconst 0, 1) := by decide +kernel
theorem dX11_ahead_23 : decode cX11_ahead 23 = .ok (.ldc2_w 220, 3) := by decide +kernel
theorem dX11_ahead_26 : decode cX11_ahead 26 = .ok (.invokestatic 78, 3) := by decide +kernel
theorem dX11_ahead_29 : decode cX11_ahead 29 = .ok (.ifCond .ne 5, 3) := by decide +kernel
theorem dX11_ahead_32 : decode cX11_ahead 32 = .ok (.iconst (-1), 1) := by decide +kernel
theorem dX11_ahead_33 : decode cX11_ahead 33 = .ok (.ireturn, 1) := by decide +kernel
theorem dX11_ahead_34 : decode cX11_ahead 34 = .ok (.aload_n 0, 1) := by decide +kernel
theorem dX11_ahead_35 : decode cX11_ahead 35 = .ok (.invokevirtual 222, 3) := by decide +kernel
theorem dX11_ahead_38 : decode cX11_ahead 38 = .ok (.aload_n 0, 1) := by decide +kernel
theorem dX11_ahead_39 : decode cX11_ahead 39 = .ok (.iload_n 2, 1) := by decide +kernel
theorem dX11_ahead_40 : decode cX11_ahead 40 = .ok (.invokevirtual 238, 3) := by decide +kernel
theorem dX11_ahead_43 : decode cX11_ahead 43 = .ok (.aload_n 0, 1) := by decide +kernel
theorem dX11_ahead_44 : decode cX11_ahead 44 = .ok (.iload_n 1, 1) := by decide +kernel
theorem dX11_ahead_45 : decode cX11_ahead 45 = .ok (.iload_n 3, 1) := by decide +kernel
theorem dX11_ahead_46 : decode cX11_ahead 46 = .ok (.invokevirtual 225, 3) := by decide +kernel
theorem dX11_ahead_49 : decode cX11_ahead 49 = .ok (.ireturn, 1) := by decide +kernel
theorem dX11_later_0 : decode cX11_later 0 = .ok (.aload_n 0, 1) := by decide +kernel
theorem dX11_later_1 : decode cX11_later 1 = .ok (.iload_n 1, 1) := by decide +kernel
theorem dX11_later_2 : decode cX11_later 2 = .ok (.invokevirtual 212, 3) := by decide +kernel
theorem dX11_later_5 : decode cX11_later 5 = .ok (.ifCond .eq 15, 3) := by decide +kernel
theorem dX11_later_8 : decode cX11_later 8 = .ok (.iload_n 2, 1) := by decide +kernel
theorem dX11_later_9 : decode cX11_later 9 = .ok (.i2l, 1) := by decide +kernel
theorem dX11_later_10 : decode cX11_later 10 = .ok (.lconst 0, 1) := by decide +kernel
theorem dX11_later_11 : decode cX11_later 11 = .ok (.ldc2_w 236, 3) := by decide +kernel
theorem dX11_later_14 : decode cX11_later 14 = .ok (.invokestatic 78, 3) := by decide +kernel
theorem dX11_later_17 : decode cX11_later 17 = .ok (.ifCond .ne 5, 3) := by decide +kernel
theorem dX11_later_20 : decode cX11_later 20 = .ok (.iconst (-1), 1) := by decide +kernel
theorem dX11_later_21 : decode cX11_later 21 = .ok (.ireturn, 1) := by decide +kernel
theorem dX11_later_22 : decode cX11_later 22 = .ok (.aload_n 0, 1) := by decide +kernel
theorem dX11_later_23 : decode cX11_later 23 = .ok (.invokevirtual 222, 3) := by decide +kernel
theorem dX11_later_26 : decode cX11_later 26 = .ok (.aload_n 0, 1) := by decide +kernel
theorem dX11_later_27 : decode cX11_later 27 = .ok (.iload_n 2, 1) := by decide +kernel
theorem dX11_later_28 : decode cX11_later 28 = .ok (.invokevirtual 238, 3) := by decide +kernel
theorem dX11_later_31 : decode cX11_later 31 = .ok (.aload_n 0, 1) := by decide +kernel
theorem dX11_later_32 : decode cX11_later 32 = .ok (.getfield 13, 3) := by decide +kernel
theorem dX11_later_35 : decode cX11_later 35 = .ok (.iconst 0, 1) := by decide +kernel
theorem dX11_later_36 : decode cX11_later 36 = .ok (.iload_n 1, 1) := by decide +kernel
theorem dX11_later_37 : decode cX11_later 37 = .ok (.iadd, 1) := by decide +kernel
theorem dX11_later_38 : decode cX11_later 38 = .ok (.iaload, 1) := by decide +kernel
theorem dX11_later_39 : decode cX11_later 39 = .ok (.ireturn, 1) := by decide +kernel
theorem dX11_when_0 : decode cX11_when 0 = .ok (.aload_n 0, 1) := by decide +kernel
theorem dX11_when_1 : decode cX11_when 1 = .ok (.iload_n 1, 1) := by decide +kernel
theorem dX11_when_2 : decode cX11_when 2 = .ok (.invokevirtual 217, 3) := by decide +kernel
theorem dX11_when_5 : decode cX11_when 5 = .ok (.ifCond .eq 15, 3) := by decide +kernel
theorem dX11_when_8 : decode cX11_when 8 = .ok (.iload_n 2, 1) := by decide +kernel
theorem dX11_when_9 : decode cX11_when 9 = .ok (.i2l, 1) := by decide +kernel
theorem dX11_when_10 : decode cX11_when 10 = .ok (.lconst 0, 1) := by decide +kernel
theorem dX11_when_11 : decode cX11_when 11 = .ok (.ldc2_w 215, 3) := by decide +kernel
theorem dX11_when_14 : decode cX11_when 14 = .ok (.invokestatic 78, 3) := by decide +kernel
theorem dX11_when_17 : decode cX11_when 17 = .ok (.ifCond .ne 5, 3) := by decide +kernel
theorem dX11_when_20 : decode cX11_when 20 = .ok (.iconst (-1), 1) := by decide +kernel
theorem dX11_when_21 : decode cX11_when 21 = .ok (.ireturn, 1) := by decide +kernel
theorem dX11_when_22 : decode cX11_when 22 = .ok (.bipush (-4), 2) := by decide +kernel
theorem dX11_when_24 : decode cX11_when 24 = .ok (.istore_n 3, 1) := by decide +kernel
theorem dX11_when_25 : decode cX11_when 25 = .ok (.bipush (-4), 2) := by decide +kernel
theorem dX11_when_27 : decode cX11_when 27 = .ok (.istore 4, 2) := by decide +kernel
theorem dX11_when_29 : decode cX11_when 29 = .ok (.iconst 0, 1) := by decide +kernel
theorem dX11_when_30 : decode cX11_when 30 = .ok (.istore 5, 2) := by decide +kernel
theorem dX11_when_32 : decode cX11_when 32 = .ok (.aload_n 0, 1) := by decide +kernel
theorem dX11_when_33 : decode cX11_when 33 = .ok (.invokevirtual 222, 3) := by decide +kernel
theorem dX11_when_36 : decode cX11_when 36 = .ok (.iconst 0, 1) := by decide +kernel
theorem dX11_when_37 : decode cX11_when 37 = .ok (.istore 6, 2) := by decide +kernel
theorem dX11_when_39 : decode cX11_when 39 = .ok (.iload 6, 2) := by decide +kernel
theorem dX11_when_41 : decode cX11_when 41 = .ok (.bipush 40, 2) := by decide +kernel
theorem dX11_when_43 : decode cX11_when 43 = .ok (.if_icmp .gt 71, 3) := by decide +kernel
theorem dX11_when_46 : decode cX11_when 46 = .ok (.iload_n 3, 1) := by decide +kernel
theorem dX11_when_47 : decode cX11_when 47 = .ok (.bipush (-4), 2) := by decide +kernel
theorem dX11_when_49 : decode cX11_when 49 = .ok (.if_icmp .ne 16, 3) := by decide +kernel
theorem dX11_when_52 : decode cX11_when 52 = .ok (.aload_n 0, 1) := by decide +kernel
theorem dX11_when_53 : decode cX11_when 53 = .ok (.iload_n 1, 1) := by decide +kernel
theorem dX11_when_54 : decode cX11_when 54 = .ok (.invokevirtual 199, 3) := by decide +kernel
theorem dX11_when_57 : decode cX11_when 57 = .ok (.ifCond .eq 8, 3) := by decide +kernel
theorem dX11_when_60 : decode cX11_when 60 = .ok (.iload 6, 2) := by decide +kernel
theorem dX11_when_62 : decode cX11_when 62 = .ok (.goto 4, 3) := by decide +kernel
theorem dX11_when_65 : decode cX11_when 65 = .ok (.iload_n 3, 1) := by decide +kernel
theorem dX11_when_66 : decode cX11_when 66 = .ok (.istore_n 3, 1) := by decide +kernel
theorem dX11_when_67 : decode cX11_when 67 = .ok (.iload 4, 2) := by decide +kernel
theorem dX11_when_69 : decode cX11_when 69 = .ok (.bipush (-4), 2) := by decide +kernel
theorem dX11_when_71 : decode cX11_when 71 = .ok (.if_icmp .ne 16, 3) := by decide +kernel
theorem dX11_when_74 : decode cX11_when 74 = .ok (.aload_n 0, 1) := by decide +kernel
theorem dX11_when_75 : decode cX11_when 75 = .ok (.iload_n 1, 1) := by decide +kernel
theorem dX11_when_76 : decode cX11_when 76 = .ok (.invokevirtual 202, 3) := by decide +kernel
theorem dX11_when_79 : decode cX11_when 79 = .ok (.ifCond .eq 8, 3) := by decide +kernel
theorem dX11_when_82 : decode cX11_when 82 = .ok (.iload 6, 2) := by decide +kernel
theorem dX11_when_84 : decode cX11_when 84 = .ok (.goto 5, 3) := by decide +kernel
theorem dX11_when_87 : decode cX11_when 87 = .ok (.iload 4, 2) := by decide +kernel
theorem dX11_when_89 : decode cX11_when 89 = .ok (.istore 4, 2) := by decide +kernel
theorem dX11_when_91 : decode cX11_when 91 = .ok (.iload 5, 2) := by decide +kernel
theorem dX11_when_93 : decode cX11_when 93 = .ok (.aload_n 0, 1) := by decide +kernel
theorem dX11_when_94 : decode cX11_when 94 = .ok (.iload_n 1, 1) := by decide +kernel
theorem dX11_when_95 : decode cX11_when 95 = .ok (.invokevirtual 205, 3) := by decide +kernel
theorem dX11_when_98 : decode cX11_when 98 = .ok (.invokestatic 208, 3) := by decide +kernel
theorem dX11_when_101 : decode cX11_when 101 = .ok (.iadd, 1) := by decide +kernel
theorem dX11_when_102 : decode cX11_when 102 = .ok (.istore 5, 2) := by decide +kernel
theorem dX11_when_104 : decode cX11_when 104 = .ok (.aload_n 0, 1) := by decide +kernel
theorem dX11_when_105 : decode cX11_when 105 = .ok (.invokevirtual 196, 3) := by decide +kernel
theorem dX11_when_108 : decode cX11_when 108 = .ok (.iinc 6 1, 3) := by decide +kernel
theorem dX11_when_111 : decode cX11_when 111 = .ok (.goto (-72), 3) := by decide +kernel
theorem dX11_when_114 : decode cX11_when 114 = .ok (.iload_n 2, 1) := by decide +kernel
theorem dX11_when_115 : decode cX11_when 115 = .ok (.ifCond .ne 7, 3) := by decide +kernel
theorem dX11_when_118 : decode cX11_when 118 = .ok (.iload_n 3, 1) := by decide +kernel
theorem dX11_when_119 : decode cX11_when 119 = .ok (.goto 15, 3) := by decide +kernel
theorem dX11_when_122 : decode cX11_when 122 = .ok (.iload_n 2, 1) := by decide +kernel
theorem dX11_when_123 : decode cX11_when 123 = .ok (.iconst 1, 1) := by decide +kernel
theorem dX11_when_124 : decode cX11_when 124 = .ok (.if_icmp .ne 8, 3) := by decide +kernel
theorem dX11_when_127 : decode cX11_when 127 = .ok (.iload 4, 2) := by decide +kernel
theorem dX11_when_129 : decode cX11_when 129 = .ok (.goto 5, 3) := by decide +kernel
theorem dX11_when_132 : decode cX11_when 132 = .ok (.iload 5, 2) := by decide +kernel
theorem dX11_when_134 : decode cX11_when 134 = .ok (.ireturn, 1) := by decide +kernel
theorem dX11_findGoods_0 : decode cX11_findGoods 0 = .ok (.iconst 0, 1) := by decide +kernel
theorem dX11_findGoods_1 : decode cX11_findGoods 1 = .ok (.istore_n 2, 1) := by decide +kernel
theorem dX11_findGoods_2 : decode cX11_findGoods 2 = .ok (.iload_n 2, 1) := by decide +kernel
theorem dX11_findGoods_3 : decode cX11_findGoods 3 = .ok (.aload_n 0, 1) := by decide +kernel
theorem dX11_findGoods_4 : decode cX11_findGoods 4 = .ok (.getfield 7, 3) := by decide +kernel
theorem dX11_findGoods_7 : decode cX11_findGoods 7 = .ok (.bipush 46, 2) := by decide +kernel
theorem dX11_findGoods_9 : decode cX11_findGoods 9 = .ok (.iaload, 1) := by decide +kernel
theorem dX11_findGoods_10 : decode cX11_findGoods 10 = .ok (.if_icmp .ge 84, 3) := by decide +kernel
theorem dX11_findGoods_13 : decode cX11_findGoods 13 = .ok (.aload_n 0, 1) := by decide +kernel
theorem dX11_findGoods_14 : decode cX11_findGoods 14 = .ok (.getfield 26, 3) := by decide +kernel
theorem dX11_findGoods_17 : decode cX11_findGoods 17 = .ok (.iload_n 2, 1) := by decide +kernel
theorem dX11_findGoods_18 : decode cX11_findGoods 18 = .ok (.iconst 0, 1) := by decide +kernel
theorem dX11_findGoods_19 : decode cX11_findGoods 19 = .ok (.iastore, 1) := by decide +kernel
theorem dX11_findGoods_20 : decode cX11_findGoods 20 = .ok (.iconst 0, 1) := by decide +kernel
theorem dX11_findGoods_21 : decode cX11_findGoods 21 = .ok (.istore_n 3, 1) := by decide +kernel
theorem dX11_findGoods_22 : decode cX11_findGoods 22 = .ok (.iload_n 3, 1) := by decide +kernel
theorem dX11_findGoods_23 : decode cX11_findGoods 23 = .ok (.iconst 3, 1) := by decide +kernel
theorem dX11_findGoods_24 : decode cX11_findGoods 24 = .ok (.aload_n 0, 1) := by decide +kernel
theorem dX11_findGoods_25 : decode cX11_findGoods 25 = .ok (.getfield 73, 3) := by decide +kernel
theorem dX11_findGoods_28 : decode cX11_findGoods 28 = .ok (.imul, 1) := by decide +kernel
theorem dX11_findGoods_29 : decode cX11_findGoods 29 = .ok (.if_icmp .ge 44, 3) := by decide +kernel
theorem dX11_findGoods_32 : decode cX11_findGoods 32 = .ok (.aload_n 0, 1) := by decide +kernel
theorem dX11_findGoods_33 : decode cX11_findGoods 33 = .ok (.invokevirtual 222, 3) := by decide +kernel
theorem dX11_findGoods_36 : decode cX11_findGoods 36 = .ok (.aload_n 0, 1) := by decide +kernel
theorem dX11_findGoods_37 : decode cX11_findGoods 37 = .ok (.iload_n 2, 1) := by decide +kernel
theorem dX11_findGoods_38 : decode cX11_findGoods 38 = .ok (.iconst 2, 1) := by decide +kernel
theorem dX11_findGoods_39 : decode cX11_findGoods 39 = .ok (.iload_n 3, 1) := by decide +kernel
theorem dX11_findGoods_40 : decode cX11_findGoods 40 = .ok (.invokevirtual 179, 3) := by decide +kernel
theorem dX11_findGoods_43 : decode cX11_findGoods 43 = .ok (.aload_n 0, 1) := by decide +kernel
theorem dX11_findGoods_44 : decode cX11_findGoods 44 = .ok (.iload_n 1, 1) := by decide +kernel
theorem dX11_findGoods_45 : decode cX11_findGoods 45 = .ok (.invokevirtual 238, 3) := by decide +kernel
theorem dX11_findGoods_48 : decode cX11_findGoods 48 = .ok (.aload_n 0, 1) := by decide +kernel
theorem dX11_findGoods_49 : decode cX11_findGoods 49 = .ok (.getfield 26, 3) := by decide +kernel
theorem dX11_findGoods_52 : decode cX11_findGoods 52 = .ok (.iload_n 2, 1) := by decide +kernel
theorem dX11_findGoods_53 : decode cX11_findGoods 53 = .ok (.dup2, 1) := by decide +kernel
theorem dX11_findGoods_54 : decode cX11_findGoods 54 = .ok (.iaload, 1) := by decide +kernel
theorem dX11_findGoods_55 : decode cX11_findGoods 55 = .ok (.aload_n 0, 1) := by decide +kernel
theorem dX11_findGoods_56 : decode cX11_findGoods 56 = .ok (.iload_n 2, 1) := by decide +kernel
theorem dX11_findGoods_57 : decode cX11_findGoods 57 = .ok (.invokevirtual 205, 3) := by decide +kernel
theorem dX11_findGoods_60 : decode cX11_findGoods 60 = .ok (.invokestatic 208, 3) := by decide +kernel
theorem dX11_findGoods_63 : decode cX11_findGoods 63 = .ok (.iload_n 3, 1) := by decide +kernel
theorem dX11_findGoods_64 : decode cX11_findGoods 64 = .ok (.ishl, 1) := by decide +kernel
theorem dX11_findGoods_65 : decode cX11_findGoods 65 = .ok (.ior, 1) := by decide +kernel
theorem dX11_findGoods_66 : decode cX11_findGoods 66 = .ok (.iastore, 1) := by decide +kernel
theorem dX11_findGoods_67 : decode cX11_findGoods 67 = .ok (.iinc 3 1, 3) := by decide +kernel
theorem dX11_findGoods_70 : decode cX11_findGoods 70 = .ok (.goto (-48), 3) := by decide +kernel
theorem dX11_findGoods_73 : decode cX11_findGoods 73 = .ok (.aload_n 0, 1) := by decide +kernel
theorem dX11_findGoods_74 : decode cX11_findGoods 74 = .ok (.invokevirtual 222, 3) := by decide +kernel
theorem dX11_findGoods_77 : decode cX11_findGoods 77 = .ok (.aload_n 0, 1) := by decide +kernel
theorem dX11_findGoods_78 : decode cX11_findGoods 78 = .ok (.getfield 29, 3) := by decide +kernel
theorem dX11_findGoods_81 : decode cX11_findGoods 81 = .ok (.iload_n 2, 1) := by decide +kernel
theorem dX11_findGoods_82 : decode cX11_findGoods 82 = .ok (.aload_n 0, 1) := by decide +kernel
theorem dX11_findGoods_83 : decode cX11_findGoods 83 = .ok (.iload_n 2, 1) := by decide +kernel
theorem dX11_findGoods_84 : decode cX11_findGoods 84 = .ok (.invokevirtual 205, 3) := by decide +kernel
theorem dX11_findGoods_87 : decode cX11_findGoods 87 = .ok (.bastore, 1) := by decide +kernel
theorem dX11_findGoods_88 : decode cX11_findGoods 88 = .ok (.iinc 2 1, 3) := by decide +kernel
theorem dX11_findGoods_91 : decode cX11_findGoods 91 = .ok (.goto (-89), 3) := by decide +kernel
theorem dX11_findGoods_94 : decode cX11_findGoods 94 = .ok (.return_, 1) := by decide +kernel
theorem dX11_bitsOf_0 : decode cX11_bitsOf 0 = .ok (.iconst 0, 1) := by decide +kernel
theorem dX11_bitsOf_1 : decode cX11_bitsOf 1 = .ok (.istore_n 1, 1) := by decide +kernel
theorem dX11_bitsOf_2 : decode cX11_bitsOf 2 = .ok (.iconst 0, 1) := by decide +kernel
theorem dX11_bitsOf_3 : decode cX11_bitsOf 3 = .ok (.istore_n 2, 1) := by decide +kernel
theorem dX11_bitsOf_4 : decode cX11_bitsOf 4 = .ok (.iload_n 2, 1) := by decide +kernel
theorem dX11_bitsOf_5 : decode cX11_bitsOf 5 = .ok (.bipush 6, 2) := by decide +kernel
theorem dX11_bitsOf_7 : decode cX11_bitsOf 7 = .ok (.if_icmp .ge 17, 3) := by decide +kernel
theorem dX11_bitsOf_10 : decode cX11_bitsOf 10 = .ok (.iload_n 1, 1) := by decide +kernel
theorem dX11_bitsOf_11 : decode cX11_bitsOf 11 = .ok (.iload_n 0, 1) := by decide +kernel
theorem dX11_bitsOf_12 : decode cX11_bitsOf 12 = .ok (.iload_n 2, 1) := by decide +kernel
theorem dX11_bitsOf_13 : decode cX11_bitsOf 13 = .ok (.ishr, 1) := by decide +kernel
theorem dX11_bitsOf_14 : decode cX11_bitsOf 14 = .ok (.iconst 1, 1) := by decide +kernel
theorem dX11_bitsOf_15 : decode cX11_bitsOf 15 = .ok (.iand, 1) := by decide +kernel
theorem dX11_bitsOf_16 : decode cX11_bitsOf 16 = .ok (.iadd, 1) := by decide +kernel
theorem dX11_bitsOf_17 : decode cX11_bitsOf 17 = .ok (.istore_n 1, 1) := by decide +kernel
theorem dX11_bitsOf_18 : decode cX11_bitsOf 18 = .ok (.iinc 2 1, 3) := by decide +kernel
theorem dX11_bitsOf_21 : decode cX11_bitsOf 21 = .ok (.goto (-17), 3) := by decide +kernel
theorem dX11_bitsOf_24 : decode cX11_bitsOf 24 = .ok (.iload_n 1, 1) := by decide +kernel
theorem dX11_bitsOf_25 : decode cX11_bitsOf 25 = .ok (.ireturn, 1) := by decide +kernel
theorem dX11_mostFrom_0 : decode cX11_mostFrom 0 = .ok (.iconst 0, 1) := by decide +kernel
theorem dX11_mostFrom_1 : decode cX11_mostFrom 1 = .ok (.istore_n 3, 1) := by decide +kernel
theorem dX11_mostFrom_2 : decode cX11_mostFrom 2 = .ok (.iconst 0, 1) := by decide +kernel
theorem dX11_mostFrom_3 : decode cX11_mostFrom 3 = .ok (.istore 4, 2) := by decide +kernel
theorem dX11_mostFrom_5 : decode cX11_mostFrom 5 = .ok (.iload 4, 2) := by decide +kernel
theorem dX11_mostFrom_7 : decode cX11_mostFrom 7 = .ok (.bipush 64, 2) := by decide +kernel
theorem dX11_mostFrom_9 : decode cX11_mostFrom 9 = .ok (.if_icmp .ge 26, 3) := by decide +kernel
theorem dX11_mostFrom_12 : decode cX11_mostFrom 12 = .ok (.aload_n 0, 1) := by decide +kernel
theorem dX11_mostFrom_13 : decode cX11_mostFrom 13 = .ok (.getfield 32, 3) := by decide +kernel
theorem dX11_mostFrom_16 : decode cX11_mostFrom 16 = .ok (.iload 4, 2) := by decide +kernel
theorem dX11_mostFrom_18 : decode cX11_mostFrom 18 = .ok (.iload 4, 2) := by decide +kernel
theorem dX11_mostFrom_20 : decode cX11_mostFrom 20 = .ok (.ifCond .ne 7, 3) := by decide +kernel
theorem dX11_mostFrom_23 : decode cX11_mostFrom 23 = .ok (.iconst 1, 1) := by decide +kernel
theorem dX11_mostFrom_24 : decode cX11_mostFrom 24 = .ok (.goto 4, 3) := by decide +kernel
theorem dX11_mostFrom_27 : decode cX11_mostFrom 27 = .ok (.iconst 0, 1) := by decide +kernel
theorem dX11_mostFrom_28 : decode cX11_mostFrom 28 = .ok (.bastore, 1) := by decide +kernel
theorem dX11_mostFrom_29 : decode cX11_mostFrom 29 = .ok (.iinc 4 1, 3) := by decide +kernel
theorem dX11_mostFrom_32 : decode cX11_mostFrom 32 = .ok (.goto (-27), 3) := by decide +kernel
theorem dX11_mostFrom_35 : decode cX11_mostFrom 35 = .ok (.iload_n 1, 1) := by decide +kernel
theorem dX11_mostFrom_36 : decode cX11_mostFrom 36 = .ok (.istore 4, 2) := by decide +kernel
theorem dX11_mostFrom_38 : decode cX11_mostFrom 38 = .ok (.iload 4, 2) := by decide +kernel
theorem dX11_mostFrom_40 : decode cX11_mostFrom 40 = .ok (.aload_n 0, 1) := by decide +kernel
theorem dX11_mostFrom_41 : decode cX11_mostFrom 41 = .ok (.getfield 7, 3) := by decide +kernel
theorem dX11_mostFrom_44 : decode cX11_mostFrom 44 = .ok (.bipush 46, 2) := by decide +kernel
theorem dX11_mostFrom_46 : decode cX11_mostFrom 46 = .ok (.iaload, 1) := by decide +kernel
theorem dX11_mostFrom_47 : decode cX11_mostFrom 47 = .ok (.if_icmp .ge 25, 3) := by decide +kernel
theorem dX11_mostFrom_50 : decode cX11_mostFrom 50 = .ok (.iload_n 3, 1) := by decide +kernel
theorem dX11_mostFrom_51 : decode cX11_mostFrom 51 = .ok (.aload_n 0, 1) := by decide +kernel
theorem dX11_mostFrom_52 : decode cX11_mostFrom 52 = .ok (.getfield 29, 3) := by decide +kernel
theorem dX11_mostFrom_55 : decode cX11_mostFrom 55 = .ok (.iload 4, 2) := by decide +kernel
theorem dX11_mostFrom_57 : decode cX11_mostFrom 57 = .ok (.baload, 1) := by decide +kernel
theorem dX11_mostFrom_58 : decode cX11_mostFrom 58 = .ok (.invokestatic 208, 3) := by decide +kernel
theorem dX11_mostFrom_61 : decode cX11_mostFrom 61 = .ok (.iload 4, 2) := by decide +kernel
theorem dX11_mostFrom_63 : decode cX11_mostFrom 63 = .ok (.ishl, 1) := by decide +kernel
theorem dX11_mostFrom_64 : decode cX11_mostFrom 64 = .ok (.ior, 1) := by decide +kernel
theorem dX11_mostFrom_65 : decode cX11_mostFrom 65 = .ok (.istore_n 3, 1) := by decide +kernel
theorem dX11_mostFrom_66 : decode cX11_mostFrom 66 = .ok (.iinc 4 1, 3) := by decide +kernel
theorem dX11_mostFrom_69 : decode cX11_mostFrom 69 = .ok (.goto (-31), 3) := by decide +kernel
theorem dX11_mostFrom_72 : decode cX11_mostFrom 72 = .ok (.iconst 0, 1) := by decide +kernel
theorem dX11_mostFrom_73 : decode cX11_mostFrom 73 = .ok (.istore 4, 2) := by decide +kernel
theorem dX11_mostFrom_75 : decode cX11_mostFrom 75 = .ok (.iload 4, 2) := by decide +kernel
theorem dX11_mostFrom_77 : decode cX11_mostFrom 77 = .ok (.iconst 3, 1) := by decide +kernel
theorem dX11_mostFrom_78 : decode cX11_mostFrom 78 = .ok (.aload_n 0, 1) := by decide +kernel
theorem dX11_mostFrom_79 : decode cX11_mostFrom 79 = .ok (.getfield 73, 3) := by decide +kernel
theorem dX11_mostFrom_82 : decode cX11_mostFrom 82 = .ok (.imul, 1) := by decide +kernel
theorem dX11_mostFrom_83 : decode cX11_mostFrom 83 = .ok (.if_icmp .ge 120, 3) := by decide +kernel
theorem dX11_mostFrom_86 : decode cX11_mostFrom 86 = .ok (.bipush 63, 2) := by decide +kernel
theorem dX11_mostFrom_88 : decode cX11_mostFrom 88 = .ok (.istore 5, 2) := by decide +kernel
theorem dX11_mostFrom_90 : decode cX11_mostFrom 90 = .ok (.iload 5, 2) := by decide +kernel
theorem dX11_mostFrom_92 : decode cX11_mostFrom 92 = .ok (.ifCond .lt 105, 3) := by decide +kernel
theorem dX11_mostFrom_95 : decode cX11_mostFrom 95 = .ok (.iload_n 2, 1) := by decide +kernel
theorem dX11_mostFrom_96 : decode cX11_mostFrom 96 = .ok (.iload 4, 2) := by decide +kernel
theorem dX11_mostFrom_98 : decode cX11_mostFrom 98 = .ok (.ishr, 1) := by decide +kernel
theorem dX11_mostFrom_99 : decode cX11_mostFrom 99 = .ok (.iconst 1, 1) := by decide +kernel
theorem dX11_mostFrom_100 : decode cX11_mostFrom 100 = .ok (.iand, 1) := by decide +kernel
theorem dX11_mostFrom_101 : decode cX11_mostFrom 101 = .ok (.ifCond .ne 96, 3) := by decide +kernel
theorem dX11_mostFrom_104 : decode cX11_mostFrom 104 = .ok (.iload_n 1, 1) := by decide +kernel
theorem dX11_mostFrom_105 : decode cX11_mostFrom 105 = .ok (.istore 6, 2) := by decide +kernel
theorem dX11_mostFrom_107 : decode cX11_mostFrom 107 = .ok (.iload 6, 2) := by decide +kernel
theorem dX11_mostFrom_109 : decode cX11_mostFrom 109 = .ok (.aload_n 0, 1) := by decide +kernel
theorem dX11_mostFrom_110 : decode cX11_mostFrom 110 = .ok (.getfield 7, 3) := by decide +kernel
theorem dX11_mostFrom_113 : decode cX11_mostFrom 113 = .ok (.bipush 46, 2) := by decide +kernel
theorem dX11_mostFrom_115 : decode cX11_mostFrom 115 = .ok (.iaload, 1) := by decide +kernel
theorem dX11_mostFrom_116 : decode cX11_mostFrom 116 = .ok (.if_icmp .ge 75, 3) := by decide +kernel
theorem dX11_mostFrom_119 : decode cX11_mostFrom 119 = .ok (.aload_n 0, 1) := by decide +kernel
theorem dX11_mostFrom_120 : decode cX11_mostFrom 120 = .ok (.getfield 32, 3) := by decide +kernel
theorem dX11_mostFrom_123 : decode cX11_mostFrom 123 = .ok (.iload 5, 2) := by decide +kernel
theorem dX11_mostFrom_125 : decode cX11_mostFrom 125 = .ok (.baload, 1) := by decide +kernel
theorem dX11_mostFrom_126 : decode cX11_mostFrom 126 = .ok (.ifCond .eq 65, 3) := by decide +kernel
theorem dX11_mostFrom_129 : decode cX11_mostFrom 129 = .ok (.iload 5, 2) := by decide +kernel
theorem dX11_mostFrom_131 : decode cX11_mostFrom 131 = .ok (.iload 6, 2) := by decide +kernel
theorem dX11_mostFrom_133 : decode cX11_mostFrom 133 = .ok (.ishr, 1) := by decide +kernel
theorem dX11_mostFrom_134 : decode cX11_mostFrom 134 = .ok (.iconst 1, 1) := by decide +kernel
theorem dX11_mostFrom_135 : decode cX11_mostFrom 135 = .ok (.iand, 1) := by decide +kernel
theorem dX11_mostFrom_136 : decode cX11_mostFrom 136 = .ok (.ifCond .ne 23, 3) := by decide +kernel
theorem dX11_mostFrom_139 : decode cX11_mostFrom 139 = .ok (.aload_n 0, 1) := by decide +kernel
theorem dX11_mostFrom_140 : decode cX11_mostFrom 140 = .ok (.getfield 26, 3) := by decide +kernel
theorem dX11_mostFrom_143 : decode cX11_mostFrom 143 = .ok (.iload 6, 2) := by decide +kernel
theorem dX11_mostFrom_145 : decode cX11_mostFrom 145 = .ok (.iaload, 1) := by decide +kernel
theorem dX11_mostFrom_146 : decode cX11_mostFrom 146 = .ok (.iload 4, 2) := by decide +kernel
theorem dX11_mostFrom_148 : decode cX11_mostFrom 148 = .ok (.ishr, 1) := by decide +kernel
theorem dX11_mostFrom_149 : decode cX11_mostFrom 149 = .ok (.iconst 1, 1) := by decide +kernel
theorem dX11_mostFrom_150 : decode cX11_mostFrom 150 = .ok (.iand, 1) := by decide +kernel
theorem dX11_mostFrom_151 : decode cX11_mostFrom 151 = .ok (.iconst 1, 1) := by decide +kernel
theorem dX11_mostFrom_152 : decode cX11_mostFrom 152 = .ok (.if_icmp .ne 7, 3) := by decide +kernel
theorem dX11_mostFrom_155 : decode cX11_mostFrom 155 = .ok (.iconst 1, 1) := by decide +kernel
theorem dX11_mostFrom_156 : decode cX11_mostFrom 156 = .ok (.goto 4, 3) := by decide +kernel
theorem dX11_mostFrom_159 : decode cX11_mostFrom 159 = .ok (.iconst 0, 1) := by decide +kernel
theorem dX11_mostFrom_160 : decode cX11_mostFrom 160 = .ok (.istore 7, 2) := by decide +kernel
theorem dX11_mostFrom_162 : decode cX11_mostFrom 162 = .ok (.aload_n 0, 1) := by decide +kernel
theorem dX11_mostFrom_163 : decode cX11_mostFrom 163 = .ok (.getfield 32, 3) := by decide +kernel
theorem dX11_mostFrom_166 : decode cX11_mostFrom 166 = .ok (.iload 7, 2) := by decide +kernel
theorem dX11_mostFrom_168 : decode cX11_mostFrom 168 = .ok (.ifCond .eq 13, 3) := by decide +kernel
theorem dX11_mostFrom_171 : decode cX11_mostFrom 171 = .ok (.iload 5, 2) := by decide +kernel
theorem dX11_mostFrom_173 : decode cX11_mostFrom 173 = .ok (.iconst 1, 1) := by decide +kernel
theorem dX11_mostFrom_174 : decode cX11_mostFrom 174 = .ok (.iload 6, 2) := by decide +kernel
theorem dX11_mostFrom_176 : decode cX11_mostFrom 176 = .ok (.ishl, 1) := by decide +kernel
theorem dX11_mostFrom_177 : decode cX11_mostFrom 177 = .ok (.ior, 1) := by decide +kernel
theorem dX11_mostFrom_178 : decode cX11_mostFrom 178 = .ok (.goto 5, 3) := by decide +kernel
theorem dX11_mostFrom_181 : decode cX11_mostFrom 181 = .ok (.iload 5, 2) := by decide +kernel
theorem dX11_mostFrom_183 : decode cX11_mostFrom 183 = .ok (.iconst 1, 1) := by decide +kernel
theorem dX11_mostFrom_184 : decode cX11_mostFrom 184 = .ok (.bastore, 1) := by decide +kernel
theorem dX11_mostFrom_185 : decode cX11_mostFrom 185 = .ok (.iinc 6 1, 3) := by decide +kernel
theorem dX11_mostFrom_188 : decode cX11_mostFrom 188 = .ok (.goto (-81), 3) := by decide +kernel
theorem dX11_mostFrom_191 : decode cX11_mostFrom 191 = .ok (.iinc 5 (-1), 3) := by decide +kernel
theorem dX11_mostFrom_194 : decode cX11_mostFrom 194 = .ok (.goto (-104), 3) := by decide +kernel
theorem dX11_mostFrom_197 : decode cX11_mostFrom 197 = .ok (.iinc 4 1, 3) := by decide +kernel
theorem dX11_mostFrom_200 : decode cX11_mostFrom 200 = .ok (.goto (-125), 3) := by decide +kernel
theorem dX11_mostFrom_203 : decode cX11_mostFrom 203 = .ok (.iconst 0, 1) := by decide +kernel
theorem dX11_mostFrom_204 : decode cX11_mostFrom 204 = .ok (.istore 4, 2) := by decide +kernel
theorem dX11_mostFrom_206 : decode cX11_mostFrom 206 = .ok (.iconst 0, 1) := by decide +kernel
theorem dX11_mostFrom_207 : decode cX11_mostFrom 207 = .ok (.istore 5, 2) := by decide +kernel
theorem dX11_mostFrom_209 : decode cX11_mostFrom 209 = .ok (.iload 5, 2) := by decide +kernel
theorem dX11_mostFrom_211 : decode cX11_mostFrom 211 = .ok (.bipush 64, 2) := by decide +kernel
theorem dX11_mostFrom_213 : decode cX11_mostFrom 213 = .ok (.if_icmp .ge 48, 3) := by decide +kernel
theorem dX11_mostFrom_216 : decode cX11_mostFrom 216 = .ok (.aload_n 0, 1) := by decide +kernel
theorem dX11_mostFrom_217 : decode cX11_mostFrom 217 = .ok (.getfield 32, 3) := by decide +kernel
theorem dX11_mostFrom_220 : decode cX11_mostFrom 220 = .ok (.iload 5, 2) := by decide +kernel
theorem dX11_mostFrom_222 : decode cX11_mostFrom 222 = .ok (.baload, 1) := by decide +kernel
theorem dX11_mostFrom_223 : decode cX11_mostFrom 223 = .ok (.ifCond .eq 13, 3) := by decide +kernel
theorem dX11_mostFrom_226 : decode cX11_mostFrom 226 = .ok (.iload 5, 2) := by decide +kernel
theorem dX11_mostFrom_228 : decode cX11_mostFrom 228 = .ok (.iload_n 3, 1) := by decide +kernel
theorem dX11_mostFrom_229 : decode cX11_mostFrom 229 = .ok (.ior, 1) := by decide +kernel
theorem dX11_mostFrom_230 : decode cX11_mostFrom 230 = .ok (.invokestatic 244, 3) := by decide +kernel
theorem dX11_mostFrom_233 : decode cX11_mostFrom 233 = .ok (.goto 4, 3) := by decide +kernel
theorem dX11_mostFrom_236 : decode cX11_mostFrom 236 = .ok (.iconst 0, 1) := by decide +kernel
theorem dX11_mostFrom_237 : decode cX11_mostFrom 237 = .ok (.istore 6, 2) := by decide +kernel
theorem dX11_mostFrom_239 : decode cX11_mostFrom 239 = .ok (.iload 6, 2) := by decide +kernel
theorem dX11_mostFrom_241 : decode cX11_mostFrom 241 = .ok (.iload 4, 2) := by decide +kernel
theorem dX11_mostFrom_243 : decode cX11_mostFrom 243 = .ok (.if_icmp .le 8, 3) := by decide +kernel
theorem dX11_mostFrom_246 : decode cX11_mostFrom 246 = .ok (.iload 6, 2) := by decide +kernel
theorem dX11_mostFrom_248 : decode cX11_mostFrom 248 = .ok (.goto 5, 3) := by decide +kernel
theorem dX11_mostFrom_251 : decode cX11_mostFrom 251 = .ok (.iload 4, 2) := by decide +kernel
theorem dX11_mostFrom_253 : decode cX11_mostFrom 253 = .ok (.istore 4, 2) := by decide +kernel
theorem dX11_mostFrom_255 : decode cX11_mostFrom 255 = .ok (.iinc 5 1, 3) := by decide +kernel
theorem dX11_mostFrom_258 : decode cX11_mostFrom 258 = .ok (.goto (-49), 3) := by decide +kernel
theorem dX11_mostFrom_261 : decode cX11_mostFrom 261 = .ok (.iload 4, 2) := by decide +kernel
theorem dX11_mostFrom_263 : decode cX11_mostFrom 263 = .ok (.ireturn, 1) := by decide +kernel
theorem dX11_placeOf_0 : decode cX11_placeOf 0 = .ok (.iconst 0, 1) := by decide +kernel
theorem dX11_placeOf_1 : decode cX11_placeOf 1 = .ok (.istore 4, 2) := by decide +kernel
theorem dX11_placeOf_3 : decode cX11_placeOf 3 = .ok (.iload 4, 2) := by decide +kernel
theorem dX11_placeOf_5 : decode cX11_placeOf 5 = .ok (.iconst 3, 1) := by decide +kernel
theorem dX11_placeOf_6 : decode cX11_placeOf 6 = .ok (.aload_n 0, 1) := by decide +kernel
theorem dX11_placeOf_7 : decode cX11_placeOf 7 = .ok (.getfield 73, 3) := by decide +kernel
theorem dX11_placeOf_10 : decode cX11_placeOf 10 = .ok (.imul, 1) := by decide +kernel
theorem dX11_placeOf_11 : decode cX11_placeOf 11 = .ok (.if_icmp .ge 62, 3) := by decide +kernel
theorem dX11_placeOf_14 : decode cX11_placeOf 14 = .ok (.iload_n 2, 1) := by decide +kernel
theorem dX11_placeOf_15 : decode cX11_placeOf 15 = .ok (.iload 4, 2) := by decide +kernel
theorem dX11_placeOf_17 : decode cX11_placeOf 17 = .ok (.ishr, 1) := by decide +kernel
theorem dX11_placeOf_18 : decode cX11_placeOf 18 = .ok (.iconst 1, 1) := by decide +kernel
theorem dX11_placeOf_19 : decode cX11_placeOf 19 = .ok (.iand, 1) := by decide +kernel
theorem dX11_placeOf_20 : decode cX11_placeOf 20 = .ok (.ifCond .ne 7, 3) := by decide +kernel
theorem dX11_placeOf_23 : decode cX11_placeOf 23 = .ok (.iconst 1, 1) := by decide +kernel
theorem dX11_placeOf_24 : decode cX11_placeOf 24 = .ok (.goto 4, 3) := by decide +kernel
theorem dX11_placeOf_27 : decode cX11_placeOf 27 = .ok (.iconst 0, 1) := by decide +kernel
theorem dX11_placeOf_28 : decode cX11_placeOf 28 = .ok (.istore 5, 2) := by decide +kernel
theorem dX11_placeOf_30 : decode cX11_placeOf 30 = .ok (.iload 5, 2) := by decide +kernel
theorem dX11_placeOf_32 : decode cX11_placeOf 32 = .ok (.ifCond .eq 35, 3) := by decide +kernel
theorem dX11_placeOf_35 : decode cX11_placeOf 35 = .ok (.aload_n 0, 1) := by decide +kernel
theorem dX11_placeOf_36 : decode cX11_placeOf 36 = .ok (.getfield 26, 3) := by decide +kernel
theorem dX11_placeOf_39 : decode cX11_placeOf 39 = .ok (.iload_n 1, 1) := by decide +kernel
theorem dX11_placeOf_40 : decode cX11_placeOf 40 = .ok (.iaload, 1) := by decide +kernel
theorem dX11_placeOf_41 : decode cX11_placeOf 41 = .ok (.iload 4, 2) := by decide +kernel
theorem dX11_placeOf_43 : decode cX11_placeOf 43 = .ok (.ishr, 1) := by decide +kernel
theorem dX11_placeOf_44 : decode cX11_placeOf 44 = .ok (.iconst 1, 1) := by decide +kernel
theorem dX11_placeOf_45 : decode cX11_placeOf 45 = .ok (.iand, 1) := by decide +kernel
theorem dX11_placeOf_46 : decode cX11_placeOf 46 = .ok (.aload_n 0, 1) := by decide +kernel
theorem dX11_placeOf_47 : decode cX11_placeOf 47 = .ok (.iload_n 1, 1) := by decide +kernel
theorem dX11_placeOf_48 : decode cX11_placeOf 48 = .ok (.iconst 1, 1) := by decide +kernel
theorem dX11_placeOf_49 : decode cX11_placeOf 49 = .ok (.iadd, 1) := by decide +kernel
theorem dX11_placeOf_50 : decode cX11_placeOf 50 = .ok (.iload_n 2, 1) := by decide +kernel
theorem dX11_placeOf_51 : decode cX11_placeOf 51 = .ok (.iconst 1, 1) := by decide +kernel
theorem dX11_placeOf_52 : decode cX11_placeOf 52 = .ok (.iload 4, 2) := by decide +kernel
theorem dX11_placeOf_54 : decode cX11_placeOf 54 = .ok (.ishl, 1) := by decide +kernel
theorem dX11_placeOf_55 : decode cX11_placeOf 55 = .ok (.ior, 1) := by decide +kernel
theorem dX11_placeOf_56 : decode cX11_placeOf 56 = .ok (.invokevirtual 247, 3) := by decide +kernel
theorem dX11_placeOf_59 : decode cX11_placeOf 59 = .ok (.iadd, 1) := by decide +kernel
theorem dX11_placeOf_60 : decode cX11_placeOf 60 = .ok (.iload_n 3, 1) := by decide +kernel
theorem dX11_placeOf_61 : decode cX11_placeOf 61 = .ok (.if_icmp .ne 6, 3) := by decide +kernel
theorem dX11_placeOf_64 : decode cX11_placeOf 64 = .ok (.iload 4, 2) := by decide +kernel
theorem dX11_placeOf_66 : decode cX11_placeOf 66 = .ok (.ireturn, 1) := by decide +kernel
theorem dX11_placeOf_67 : decode cX11_placeOf 67 = .ok (.iinc 4 1, 3) := by decide +kernel
theorem dX11_placeOf_70 : decode cX11_placeOf 70 = .ok (.goto (-67), 3) := by decide +kernel
theorem dX11_placeOf_73 : decode cX11_placeOf 73 = .ok (.bipush (-4), 2) := by decide +kernel
theorem dX11_placeOf_75 : decode cX11_placeOf 75 = .ok (.ireturn, 1) := by decide +kernel
theorem dX11_places_0 : decode cX11_places 0 = .ok (.iload_n 1, 1) := by decide +kernel
theorem dX11_places_1 : decode cX11_places 1 = .ok (.i2l, 1) := by decide +kernel
theorem dX11_places_2 : decode cX11_places 2 = .ok (.lconst 0, 1) := by decide +kernel
theorem dX11_places_3 : decode cX11_places 3 = .ok (.ldc2_w 250, 3) := by decide +kernel
theorem dX11_places_6 : decode cX11_places 6 = .ok (.invokestatic 78, 3) := by decide +kernel
theorem dX11_places_9 : decode cX11_places 9 = .ok (.ifCond .eq 18, 3) := by decide +kernel
theorem dX11_places_12 : decode cX11_places 12 = .ok (.iload_n 2, 1) := by decide +kernel
theorem dX11_places_13 : decode cX11_places 13 = .ok (.ifCond .eq 16, 3) := by decide +kernel
theorem dX11_places_16 : decode cX11_places 16 = .ok (.aload_n 0, 1) := by decide +kernel
theorem dX11_places_17 : decode cX11_places 17 = .ok (.iload_n 2, 1) := by decide +kernel
theorem dX11_places_18 : decode cX11_places 18 = .ok (.bipush 10, 2) := by decide +kernel
theorem dX11_places_20 : decode cX11_places 20 = .ok (.isub, 1) := by decide +kernel
theorem dX11_places_21 : decode cX11_places 21 = .ok (.invokevirtual 217, 3) := by decide +kernel
theorem dX11_places_24 : decode cX11_places 24 = .ok (.ifCond .ne 5, 3) := by decide +kernel
theorem dX11_places_27 : decode cX11_places 27 = .ok (.iconst (-1), 1) := by decide +kernel
theorem dX11_places_28 : decode cX11_places 28 = .ok (.ireturn, 1) := by decide +kernel
theorem dX11_places_29 : decode cX11_places 29 = .ok (.aload_n 0, 1) := by decide +kernel
theorem dX11_places_30 : decode cX11_places 30 = .ok (.iload_n 1, 1) := by decide +kernel
theorem dX11_places_31 : decode cX11_places 31 = .ok (.invokevirtual 252, 3) := by decide +kernel
theorem dX11_places_34 : decode cX11_places 34 = .ok (.aload_n 0, 1) := by decide +kernel
theorem dX11_places_35 : decode cX11_places 35 = .ok (.iconst 0, 1) := by decide +kernel
theorem dX11_places_36 : decode cX11_places 36 = .ok (.iconst 0, 1) := by decide +kernel
theorem dX11_places_37 : decode cX11_places 37 = .ok (.invokevirtual 247, 3) := by decide +kernel
theorem dX11_places_40 : decode cX11_places 40 = .ok (.istore_n 3, 1) := by decide +kernel
theorem dX11_places_41 : decode cX11_places 41 = .ok (.iconst 0, 1) := by decide +kernel
theorem dX11_places_42 : decode cX11_places 42 = .ok (.istore 4, 2) := by decide +kernel
theorem dX11_places_44 : decode cX11_places 44 = .ok (.bipush (-4), 2) := by decide +kernel
theorem dX11_places_46 : decode cX11_places 46 = .ok (.istore 5, 2) := by decide +kernel
theorem dX11_places_48 : decode cX11_places 48 = .ok (.iload_n 2, 1) := by decide +kernel
theorem dX11_places_49 : decode cX11_places 49 = .ok (.ifCond .ne 5, 3) := by decide +kernel
theorem dX11_places_52 : decode cX11_places 52 = .ok (.iload_n 3, 1) := by decide +kernel
theorem dX11_places_53 : decode cX11_places 53 = .ok (.ireturn, 1) := by decide +kernel
theorem dX11_places_54 : decode cX11_places 54 = .ok (.iconst 0, 1) := by decide +kernel
theorem dX11_places_55 : decode cX11_places 55 = .ok (.istore 6, 2) := by decide +kernel
theorem dX11_places_57 : decode cX11_places 57 = .ok (.iload 6, 2) := by decide +kernel
theorem dX11_places_59 : decode cX11_places 59 = .ok (.iload_n 2, 1) := by decide +kernel
theorem dX11_places_60 : decode cX11_places 60 = .ok (.bipush 10, 2) := by decide +kernel
theorem dX11_places_62 : decode cX11_places 62 = .ok (.isub, 1) := by decide +kernel
theorem dX11_places_63 : decode cX11_places 63 = .ok (.if_icmp .gt 75, 3) := by decide +kernel
theorem dX11_places_66 : decode cX11_places 66 = .ok (.aload_n 0, 1) := by decide +kernel
theorem dX11_places_67 : decode cX11_places 67 = .ok (.iload 6, 2) := by decide +kernel
theorem dX11_places_69 : decode cX11_places 69 = .ok (.iload 4, 2) := by decide +kernel
theorem dX11_places_71 : decode cX11_places 71 = .ok (.iload_n 3, 1) := by decide +kernel
theorem dX11_places_72 : decode cX11_places 72 = .ok (.invokevirtual 255, 3) := by decide +kernel
theorem dX11_places_75 : decode cX11_places 75 = .ok (.istore 5, 2) := by decide +kernel
theorem dX11_places_77 : decode cX11_places 77 = .ok (.iload_n 3, 1) := by decide +kernel
theorem dX11_places_78 : decode cX11_places 78 = .ok (.iload 5, 2) := by decide +kernel
theorem dX11_places_80 : decode cX11_places 80 = .ok (.bipush (-4), 2) := by decide +kernel
theorem dX11_places_82 : decode cX11_places 82 = .ok (.if_icmp .ne 16, 3) := by decide +kernel
theorem dX11_places_85 : decode cX11_places 85 = .ok (.aload_n 0, 1) := by decide +kernel
theorem dX11_places_86 : decode cX11_places 86 = .ok (.getfield 29, 3) := by decide +kernel
theorem dX11_places_89 : decode cX11_places 89 = .ok (.iload 6, 2) := by decide +kernel
theorem dX11_places_91 : decode cX11_places 91 = .ok (.baload, 1) := by decide +kernel
theorem dX11_places_92 : decode cX11_places 92 = .ok (.invokestatic 208, 3) := by decide +kernel
theorem dX11_places_95 : decode cX11_places 95 = .ok (.goto 15, 3) := by decide +kernel
theorem dX11_places_98 : decode cX11_places 98 = .ok (.aload_n 0, 1) := by decide +kernel
theorem dX11_places_99 : decode cX11_places 99 = .ok (.getfield 26, 3) := by decide +kernel
theorem dX11_places_102 : decode cX11_places 102 = .ok (.iload 6, 2) := by decide +kernel
theorem dX11_places_104 : decode cX11_places 104 = .ok (.iaload, 1) := by decide +kernel
theorem dX11_places_105 : decode cX11_places 105 = .ok (.iload 5, 2) := by decide +kernel
theorem dX11_places_107 : decode cX11_places 107 = .ok (.ishr, 1) := by decide +kernel
theorem dX11_places_108 : decode cX11_places 108 = .ok (.iconst 1, 1) := by decide +kernel
theorem dX11_places_109 : decode cX11_places 109 = .ok (.iand, 1) := by decide +kernel
theorem dX11_places_110 : decode cX11_places 110 = .ok (.isub, 1) := by decide +kernel
theorem dX11_places_111 : decode cX11_places 111 = .ok (.istore_n 3, 1) := by decide +kernel
theorem dX11_places_112 : decode cX11_places 112 = .ok (.iload 4, 2) := by decide +kernel
theorem dX11_places_114 : decode cX11_places 114 = .ok (.iload 5, 2) := by decide +kernel
theorem dX11_places_116 : decode cX11_places 116 = .ok (.bipush (-4), 2) := by decide +kernel
theorem dX11_places_118 : decode cX11_places 118 = .ok (.if_icmp .ne 7, 3) := by decide +kernel
theorem dX11_places_121 : decode cX11_places 121 = .ok (.iconst 0, 1) := by decide +kernel
theorem dX11_places_122 : decode cX11_places 122 = .ok (.goto 7, 3) := by decide +kernel
theorem dX11_places_125 : decode cX11_places 125 = .ok (.iconst 1, 1) := by decide +kernel
theorem dX11_places_126 : decode cX11_places 126 = .ok (.iload 5, 2) := by decide +kernel
theorem dX11_places_128 : decode cX11_places 128 = .ok (.ishl, 1) := by decide +kernel
theorem dX11_places_129 : decode cX11_places 129 = .ok (.ior, 1) := by decide +kernel
theorem dX11_places_130 : decode cX11_places 130 = .ok (.istore 4, 2) := by decide +kernel
theorem dX11_places_132 : decode cX11_places 132 = .ok (.iinc 6 1, 3) := by decide +kernel
theorem dX11_places_135 : decode cX11_places 135 = .ok (.goto (-78), 3) := by decide +kernel
theorem dX11_places_138 : decode cX11_places 138 = .ok (.iload 5, 2) := by decide +kernel
theorem dX11_places_140 : decode cX11_places 140 = .ok (.ireturn, 1) := by decide +kernel
theorem dX11_flip_0 : decode cX11_flip 0 = .ok (.aload_n 0, 1) := by decide +kernel
theorem dX11_flip_1 : decode cX11_flip 1 = .ok (.iload_n 1, 1) := by decide +kernel
theorem dX11_flip_2 : decode cX11_flip 2 = .ok (.invokevirtual 217, 3) := by decide +kernel
theorem dX11_flip_5 : decode cX11_flip 5 = .ok (.ifCond .eq 15, 3) := by decide +kernel
theorem dX11_flip_8 : decode cX11_flip 8 = .ok (.iload_n 2, 1) := by decide +kernel
theorem dX11_flip_9 : decode cX11_flip 9 = .ok (.i2l, 1) := by decide +kernel
theorem dX11_flip_10 : decode cX11_flip 10 = .ok (.lconst 1, 1) := by decide +kernel
theorem dX11_flip_11 : decode cX11_flip 11 = .ok (.ldc2_w 250, 3) := by decide +kernel
theorem dX11_flip_14 : decode cX11_flip 14 = .ok (.invokestatic 78, 3) := by decide +kernel
theorem dX11_flip_17 : decode cX11_flip 17 = .ok (.ifCond .ne 5, 3) := by decide +kernel
theorem dX11_flip_20 : decode cX11_flip 20 = .ok (.iconst (-1), 1) := by decide +kernel
theorem dX11_flip_21 : decode cX11_flip 21 = .ok (.ireturn, 1) := by decide +kernel
theorem dX11_flip_22 : decode cX11_flip 22 = .ok (.iconst 0, 1) := by decide +kernel
theorem dX11_flip_23 : decode cX11_flip 23 = .ok (.istore_n 3, 1) := by decide +kernel
theorem dX11_flip_24 : decode cX11_flip 24 = .ok (.iload_n 3, 1) := by decide +kernel
theorem dX11_flip_25 : decode cX11_flip 25 = .ok (.iload_n 2, 1) := by decide +kernel
theorem dX11_flip_26 : decode cX11_flip 26 = .ok (.if_icmp .ge 51, 3) := by decide +kernel
theorem dX11_flip_29 : decode cX11_flip 29 = .ok (.aload_n 0, 1) := by decide +kernel
theorem dX11_flip_30 : decode cX11_flip 30 = .ok (.invokevirtual 222, 3) := by decide +kernel
theorem dX11_flip_33 : decode cX11_flip 33 = .ok (.aload_n 0, 1) := by decide +kernel
theorem dX11_flip_34 : decode cX11_flip 34 = .ok (.iload_n 3, 1) := by decide +kernel
theorem dX11_flip_35 : decode cX11_flip 35 = .ok (.invokevirtual 238, 3) := by decide +kernel
theorem dX11_flip_38 : decode cX11_flip 38 = .ok (.aload_n 0, 1) := by decide +kernel
theorem dX11_flip_39 : decode cX11_flip 39 = .ok (.iload_n 1, 1) := by decide +kernel
theorem dX11_flip_40 : decode cX11_flip 40 = .ok (.bipush 6, 2) := by decide +kernel
theorem dX11_flip_42 : decode cX11_flip 42 = .ok (.iconst 1, 1) := by decide +kernel
theorem dX11_flip_43 : decode cX11_flip 43 = .ok (.aload_n 0, 1) := by decide +kernel
theorem dX11_flip_44 : decode cX11_flip 44 = .ok (.iload_n 1, 1) := by decide +kernel
theorem dX11_flip_45 : decode cX11_flip 45 = .ok (.bipush 6, 2) := by decide +kernel
theorem dX11_flip_47 : decode cX11_flip 47 = .ok (.invokevirtual 173, 3) := by decide +kernel
theorem dX11_flip_50 : decode cX11_flip 50 = .ok (.isub, 1) := by decide +kernel
theorem dX11_flip_51 : decode cX11_flip 51 = .ok (.invokevirtual 179, 3) := by decide +kernel
theorem dX11_flip_54 : decode cX11_flip 54 = .ok (.aload_n 0, 1) := by decide +kernel
theorem dX11_flip_55 : decode cX11_flip 55 = .ok (.iload_n 2, 1) := by decide +kernel
theorem dX11_flip_56 : decode cX11_flip 56 = .ok (.iload_n 3, 1) := by decide +kernel
theorem dX11_flip_57 : decode cX11_flip 57 = .ok (.isub, 1) := by decide +kernel
theorem dX11_flip_58 : decode cX11_flip 58 = .ok (.invokevirtual 238, 3) := by decide +kernel
theorem dX11_flip_61 : decode cX11_flip 61 = .ok (.aload_n 0, 1) := by decide +kernel
theorem dX11_flip_62 : decode cX11_flip 62 = .ok (.iload_n 1, 1) := by decide +kernel
theorem dX11_flip_63 : decode cX11_flip 63 = .ok (.invokevirtual 205, 3) := by decide +kernel
theorem dX11_flip_66 : decode cX11_flip 66 = .ok (.ifCond .eq 5, 3) := by decide +kernel
theorem dX11_flip_69 : decode cX11_flip 69 = .ok (.iload_n 3, 1) := by decide +kernel
theorem dX11_flip_70 : decode cX11_flip 70 = .ok (.ireturn, 1) := by decide +kernel
theorem dX11_flip_71 : decode cX11_flip 71 = .ok (.iinc 3 1, 3) := by decide +kernel
theorem dX11_flip_74 : decode cX11_flip 74 = .ok (.goto (-50), 3) := by decide +kernel
theorem dX11_flip_77 : decode cX11_flip 77 = .ok (.bipush (-4), 2) := by decide +kernel
theorem dX11_flip_79 : decode cX11_flip 79 = .ok (.ireturn, 1) := by decide +kernel
theorem dX11_least_0 : decode cX11_least 0 = .ok (.aload_n 0, 1) := by decide +kernel
theorem dX11_least_1 : decode cX11_least 1 = .ok (.iload_n 1, 1) := by decide +kernel
theorem dX11_least_2 : decode cX11_least 2 = .ok (.invokevirtual 217, 3) := by decide +kernel
theorem dX11_least_5 : decode cX11_least 5 = .ok (.ifCond .eq 15, 3) := by decide +kernel
theorem dX11_least_8 : decode cX11_least 8 = .ok (.iload_n 2, 1) := by decide +kernel
theorem dX11_least_9 : decode cX11_least 9 = .ok (.i2l, 1) := by decide +kernel
theorem dX11_least_10 : decode cX11_least 10 = .ok (.lconst 1, 1) := by decide +kernel
theorem dX11_least_11 : decode cX11_least 11 = .ok (.ldc2_w 250, 3) := by decide +kernel
theorem dX11_least_14 : decode cX11_least 14 = .ok (.invokestatic 78, 3) := by decide +kernel
theorem dX11_least_17 : decode cX11_least 17 = .ok (.ifCond .ne 5, 3) := by decide +kernel
theorem dX11_least_20 : decode cX11_least 20 = .ok (.iconst (-1), 1) := by decide +kernel
theorem dX11_least_21 : decode cX11_least 21 = .ok (.ireturn, 1) := by decide +kernel
theorem dX11_least_22 : decode cX11_least 22 = .ok (.aload_n 0, 1) := by decide +kernel
theorem dX11_least_23 : decode cX11_least 23 = .ok (.getfield 7, 3) := by decide +kernel
theorem dX11_least_26 : decode cX11_least 26 = .ok (.bipush 47, 2) := by decide +kernel
theorem dX11_least_28 : decode cX11_least 28 = .ok (.bipush 8, 2) := by decide +kernel
theorem dX11_least_30 : decode cX11_least 30 = .ok (.iload_n 1, 1) := by decide +kernel
theorem dX11_least_31 : decode cX11_least 31 = .ok (.imul, 1) := by decide +kernel
theorem dX11_least_32 : decode cX11_least 32 = .ok (.iadd, 1) := by decide +kernel
theorem dX11_least_33 : decode cX11_least 33 = .ok (.iconst 2, 1) := by decide +kernel
theorem dX11_least_34 : decode cX11_least 34 = .ok (.iadd, 1) := by decide +kernel
theorem dX11_least_35 : decode cX11_least 35 = .ok (.iaload, 1) := by decide +kernel
theorem dX11_least_36 : decode cX11_least 36 = .ok (.istore_n 3, 1) := by decide +kernel
theorem dX11_least_37 : decode cX11_least 37 = .ok (.iload_n 3, 1) := by decide +kernel
theorem dX11_least_38 : decode cX11_least 38 = .ok (.bipush (-4), 2) := by decide +kernel
theorem dX11_least_40 : decode cX11_least 40 = .ok (.if_icmp .ne 6, 3) := by decide +kernel
theorem dX11_least_43 : decode cX11_least 43 = .ok (.bipush (-2), 2) := by decide +kernel
theorem dX11_least_45 : decode cX11_least 45 = .ok (.ireturn, 1) := by decide +kernel
theorem dX11_least_46 : decode cX11_least 46 = .ok (.iconst 0, 1) := by decide +kernel
theorem dX11_least_47 : decode cX11_least 47 = .ok (.istore 4, 2) := by decide +kernel
theorem dX11_least_49 : decode cX11_least 49 = .ok (.iload 4, 2) := by decide +kernel
theorem dX11_least_51 : decode cX11_least 51 = .ok (.bipush 99, 2) := by decide +kernel
theorem dX11_least_53 : decode cX11_least 53 = .ok (.if_icmp .gt 88, 3) := by decide +kernel
theorem dX11_least_56 : decode cX11_least 56 = .ok (.aload_n 0, 1) := by decide +kernel
theorem dX11_least_57 : decode cX11_least 57 = .ok (.invokevirtual 222, 3) := by decide +kernel
theorem dX11_least_60 : decode cX11_least 60 = .ok (.iconst 0, 1) := by decide +kernel
theorem dX11_least_61 : decode cX11_least 61 = .ok (.istore 5, 2) := by decide +kernel
theorem dX11_least_63 : decode cX11_least 63 = .ok (.iload 5, 2) := by decide +kernel
theorem dX11_least_65 : decode cX11_least 65 = .ok (.iload_n 2, 1) := by decide +kernel
theorem dX11_least_66 : decode cX11_least 66 = .ok (.if_icmp .ge 58, 3) := by decide +kernel
theorem dX11_least_69 : decode cX11_least 69 = .ok (.iconst 0, 1) := by decide +kernel
theorem dX11_least_70 : decode cX11_least 70 = .ok (.istore 6, 2) := by decide +kernel
theorem dX11_least_72 : decode cX11_least 72 = .ok (.iload 6, 2) := by decide +kernel
theorem dX11_least_74 : decode cX11_least 74 = .ok (.aload_n 0, 1) := by decide +kernel
theorem dX11_least_75 : decode cX11_least 75 = .ok (.getfield 13, 3) := by decide +kernel
theorem dX11_least_78 : decode cX11_least 78 = .ok (.bipush 46, 2) := by decide +kernel
theorem dX11_least_80 : decode cX11_least 80 = .ok (.iaload, 1) := by decide +kernel
theorem dX11_least_81 : decode cX11_least 81 = .ok (.if_icmp .ge 15, 3) := by decide +kernel
theorem dX11_least_84 : decode cX11_least 84 = .ok (.aload_n 0, 1) := by decide +kernel
theorem dX11_least_85 : decode cX11_least 85 = .ok (.iload 6, 2) := by decide +kernel
theorem dX11_least_87 : decode cX11_least 87 = .ok (.invokevirtual 187, 3) := by decide +kernel
theorem dX11_least_90 : decode cX11_least 90 = .ok (.iinc 6 1, 3) := by decide +kernel
theorem dX11_least_93 : decode cX11_least 93 = .ok (.goto (-21), 3) := by decide +kernel
theorem dX11_least_96 : decode cX11_least 96 = .ok (.aload_n 0, 1) := by decide +kernel
theorem dX11_least_97 : decode cX11_least 97 = .ok (.invokevirtual 190, 3) := by decide +kernel
theorem dX11_least_100 : decode cX11_least 100 = .ok (.iload 5, 2) := by decide +kernel
theorem dX11_least_102 : decode cX11_least 102 = .ok (.ifCond .ne 12, 3) := by decide +kernel
theorem dX11_least_105 : decode cX11_least 105 = .ok (.aload_n 0, 1) := by decide +kernel
theorem dX11_least_106 : decode cX11_least 106 = .ok (.iload_n 3, 1) := by decide +kernel
theorem dX11_least_107 : decode cX11_least 107 = .ok (.iconst 3, 1) := by decide +kernel
theorem dX11_least_108 : decode cX11_least 108 = .ok (.idiv, 1) := by decide +kernel
theorem dX11_least_109 : decode cX11_least 109 = .ok (.iload 4, 2) := by decide +kernel
theorem dX11_least_111 : decode cX11_least 111 = .ok (.invokevirtual 183, 3) := by decide +kernel
theorem dX11_least_114 : decode cX11_least 114 = .ok (.aload_n 0, 1) := by decide +kernel
theorem dX11_least_115 : decode cX11_least 115 = .ok (.invokevirtual 193, 3) := by decide +kernel
theorem dX11_least_118 : decode cX11_least 118 = .ok (.iinc 5 1, 3) := by decide +kernel
theorem dX11_least_121 : decode cX11_least 121 = .ok (.goto (-58), 3) := by decide +kernel
theorem dX11_least_124 : decode cX11_least 124 = .ok (.aload_n 0, 1) := by decide +kernel
theorem dX11_least_125 : decode cX11_least 125 = .ok (.iload_n 1, 1) := by decide +kernel
theorem dX11_least_126 : decode cX11_least 126 = .ok (.invokevirtual 199, 3) := by decide +kernel
theorem dX11_least_129 : decode cX11_least 129 = .ok (.ifCond .eq 6, 3) := by decide +kernel
theorem dX11_least_132 : decode cX11_least 132 = .ok (.iload 4, 2) := by decide +kernel
theorem dX11_least_134 : decode cX11_least 134 = .ok (.ireturn, 1) := by decide +kernel
theorem dX11_least_135 : decode cX11_least 135 = .ok (.iinc 4 1, 3) := by decide +kernel
theorem dX11_least_138 : decode cX11_least 138 = .ok (.goto (-89), 3) := by decide +kernel
theorem dX11_least_141 : decode cX11_least 141 = .ok (.bipush (-4), 2) := by decide +kernel
theorem dX11_least_143 : decode cX11_least 143 = .ok (.ireturn, 1) := by decide +kernel
theorem dX11_best_0 : decode cX11_best 0 = .ok (.iload_n 1, 1) := by decide +kernel
theorem dX11_best_1 : decode cX11_best 1 = .ok (.i2l, 1) := by decide +kernel
theorem dX11_best_2 : decode cX11_best 2 = .ok (.lconst 0, 1) := by decide +kernel
theorem dX11_best_3 : decode cX11_best 3 = .ok (.lconst 1, 1) := by decide +kernel
theorem dX11_best_4 : decode cX11_best 4 = .ok (.invokestatic 78, 3) := by decide +kernel
theorem dX11_best_7 : decode cX11_best 7 = .ok (.ifCond .ne 5, 3) := by decide +kernel
theorem dX11_best_10 : decode cX11_best 10 = .ok (.iconst (-1), 1) := by decide +kernel
theorem dX11_best_11 : decode cX11_best 11 = .ok (.ireturn, 1) := by decide +kernel
theorem dX11_best_12 : decode cX11_best 12 = .ok (.iconst 0, 1) := by decide +kernel
theorem dX11_best_13 : decode cX11_best 13 = .ok (.istore_n 2, 1) := by decide +kernel
theorem dX11_best_14 : decode cX11_best 14 = .ok (.iconst (-1), 1) := by decide +kernel
theorem dX11_best_15 : decode cX11_best 15 = .ok (.istore_n 3, 1) := by decide +kernel
theorem dX11_best_16 : decode cX11_best 16 = .ok (.aload_n 0, 1) := by decide +kernel
theorem dX11_best_17 : decode cX11_best 17 = .ok (.invokevirtual 222, 3) := by decide +kernel
theorem dX11_best_20 : decode cX11_best 20 = .ok (.iconst 0, 1) := by decide +kernel
theorem dX11_best_21 : decode cX11_best 21 = .ok (.istore 4, 2) := by decide +kernel
theorem dX11_best_23 : decode cX11_best 23 = .ok (.iload 4, 2) := by decide +kernel
theorem dX11_best_25 : decode cX11_best 25 = .ok (.bipush 20, 2) := by decide +kernel
theorem dX11_best_27 : decode cX11_best 27 = .ok (.if_icmp .gt 45, 3) := by decide +kernel
theorem dX11_best_30 : decode cX11_best 30 = .ok (.aload_n 0, 1) := by decide +kernel
theorem dX11_best_31 : decode cX11_best 31 = .ok (.invokevirtual 241, 3) := by decide +kernel
theorem dX11_best_34 : decode cX11_best 34 = .ok (.istore 5, 2) := by decide +kernel
theorem dX11_best_36 : decode cX11_best 36 = .ok (.iload 5, 2) := by decide +kernel
theorem dX11_best_38 : decode cX11_best 38 = .ok (.iload_n 3, 1) := by decide +kernel
theorem dX11_best_39 : decode cX11_best 39 = .ok (.if_icmp .le 8, 3) := by decide +kernel
theorem dX11_best_42 : decode cX11_best 42 = .ok (.iload 4, 2) := by decide +kernel
theorem dX11_best_44 : decode cX11_best 44 = .ok (.goto 4, 3) := by decide +kernel
theorem dX11_best_47 : decode cX11_best 47 = .ok (.iload_n 2, 1) := by decide +kernel
theorem dX11_best_48 : decode cX11_best 48 = .ok (.istore_n 2, 1) := by decide +kernel
theorem dX11_best_49 : decode cX11_best 49 = .ok (.iload 5, 2) := by decide +kernel
theorem dX11_best_51 : decode cX11_best 51 = .ok (.iload_n 3, 1) := by decide +kernel
theorem dX11_best_52 : decode cX11_best 52 = .ok (.if_icmp .le 8, 3) := by decide +kernel
theorem dX11_best_55 : decode cX11_best 55 = .ok (.iload 5, 2) := by decide +kernel
theorem dX11_best_57 : decode cX11_best 57 = .ok (.goto 4, 3) := by decide +kernel
theorem dX11_best_60 : decode cX11_best 60 = .ok (.iload_n 3, 1) := by decide +kernel
theorem dX11_best_61 : decode cX11_best 61 = .ok (.istore_n 3, 1) := by decide +kernel
theorem dX11_best_62 : decode cX11_best 62 = .ok (.aload_n 0, 1) := by decide +kernel
theorem dX11_best_63 : decode cX11_best 63 = .ok (.invokevirtual 196, 3) := by decide +kernel
theorem dX11_best_66 : decode cX11_best 66 = .ok (.iinc 4 1, 3) := by decide +kernel
theorem dX11_best_69 : decode cX11_best 69 = .ok (.goto (-46), 3) := by decide +kernel
theorem dX11_best_72 : decode cX11_best 72 = .ok (.iload_n 1, 1) := by decide +kernel
theorem dX11_best_73 : decode cX11_best 73 = .ok (.ifCond .ne 7, 3) := by decide +kernel
theorem dX11_best_76 : decode cX11_best 76 = .ok (.iload_n 2, 1) := by decide +kernel
theorem dX11_best_77 : decode cX11_best 77 = .ok (.goto 4, 3) := by decide +kernel
theorem dX11_best_80 : decode cX11_best 80 = .ok (.iload_n 3, 1) := by decide +kernel
theorem dX11_best_81 : decode cX11_best 81 = .ok (.ireturn, 1) := by decide +kernel
theorem dX11_feel_0 : decode cX11_feel 0 = .ok (.iload_n 1, 1) := by decide +kernel
theorem dX11_feel_1 : decode cX11_feel 1 = .ok (.i2l, 1) := by decide +kernel
theorem dX11_feel_2 : decode cX11_feel 2 = .ok (.lconst 0, 1) := by decide +kernel
theorem dX11_feel_3 : decode cX11_feel 3 = .ok (.ldc2_w 250, 3) := by decide +kernel
theorem dX11_feel_6 : decode cX11_feel 6 = .ok (.invokestatic 78, 3) := by decide +kernel
theorem dX11_feel_9 : decode cX11_feel 9 = .ok (.ifCond .eq 23, 3) := by decide +kernel
theorem dX11_feel_12 : decode cX11_feel 12 = .ok (.aload_n 0, 1) := by decide +kernel
theorem dX11_feel_13 : decode cX11_feel 13 = .ok (.iload_n 2, 1) := by decide +kernel
theorem dX11_feel_14 : decode cX11_feel 14 = .ok (.invokevirtual 212, 3) := by decide +kernel
theorem dX11_feel_17 : decode cX11_feel 17 = .ok (.ifCond .eq 15, 3) := by decide +kernel
theorem dX11_feel_20 : decode cX11_feel 20 = .ok (.iload_n 3, 1) := by decide +kernel
theorem dX11_feel_21 : decode cX11_feel 21 = .ok (.i2l, 1) := by decide +kernel
theorem dX11_feel_22 : decode cX11_feel 22 = .ok (.lconst 0, 1) := by decide +kernel
theorem dX11_feel_23 : decode cX11_feel 23 = .ok (.ldc2_w 228, 3) := by decide +kernel
theorem dX11_feel_26 : decode cX11_feel 26 = .ok (.invokestatic 78, 3) := by decide +kernel
theorem dX11_feel_29 : decode cX11_feel 29 = .ok (.ifCond .ne 5, 3) := by decide +kernel
theorem dX11_feel_32 : decode cX11_feel 32 = .ok (.iconst (-1), 1) := by decide +kernel
theorem dX11_feel_33 : decode cX11_feel 33 = .ok (.ireturn, 1) := by decide +kernel
theorem dX11_feel_34 : decode cX11_feel 34 = .ok (.aload_n 0, 1) := by decide +kernel
theorem dX11_feel_35 : decode cX11_feel 35 = .ok (.getfield 7, 3) := by decide +kernel
theorem dX11_feel_38 : decode cX11_feel 38 = .ok (.bipush 96, 2) := by decide +kernel
theorem dX11_feel_40 : decode cX11_feel 40 = .ok (.iaload, 1) := by decide +kernel
theorem dX11_feel_41 : decode cX11_feel 41 = .ok (.bipush 6, 2) := by decide +kernel
theorem dX11_feel_43 : decode cX11_feel 43 = .ok (.if_icmp .ne 6, 3) := by decide +kernel
theorem dX11_feel_46 : decode cX11_feel 46 = .ok (.bipush (-3), 2) := by decide +kernel
theorem dX11_feel_48 : decode cX11_feel 48 = .ok (.ireturn, 1) := by decide +kernel
theorem dX11_feel_49 : decode cX11_feel 49 = .ok (.bipush 97, 2) := by decide +kernel
theorem dX11_feel_51 : decode cX11_feel 51 = .ok (.iconst 3, 1) := by decide +kernel
theorem dX11_feel_52 : decode cX11_feel 52 = .ok (.aload_n 0, 1) := by decide +kernel
theorem dX11_feel_53 : decode cX11_feel 53 = .ok (.getfield 7, 3) := by decide +kernel
theorem dX11_feel_56 : decode cX11_feel 56 = .ok (.bipush 96, 2) := by decide +kernel
theorem dX11_feel_58 : decode cX11_feel 58 = .ok (.iaload, 1) := by decide +kernel
theorem dX11_feel_59 : decode cX11_feel 59 = .ok (.imul, 1) := by decide +kernel
theorem dX11_feel_60 : decode cX11_feel 60 = .ok (.iadd, 1) := by decide +kernel
theorem dX11_feel_61 : decode cX11_feel 61 = .ok (.istore 4, 2) := by decide +kernel
theorem dX11_feel_63 : decode cX11_feel 63 = .ok (.aload_n 0, 1) := by decide +kernel
theorem dX11_feel_64 : decode cX11_feel 64 = .ok (.getfield 7, 3) := by decide +kernel
theorem dX11_feel_67 : decode cX11_feel 67 = .ok (.iload 4, 2) := by decide +kernel
theorem dX11_feel_69 : decode cX11_feel 69 = .ok (.iload_n 1, 1) := by decide +kernel
theorem dX11_feel_70 : decode cX11_feel 70 = .ok (.iastore, 1) := by decide +kernel
theorem dX11_feel_71 : decode cX11_feel 71 = .ok (.aload_n 0, 1) := by decide +kernel
theorem dX11_feel_72 : decode cX11_feel 72 = .ok (.getfield 7, 3) := by decide +kernel
theorem dX11_feel_75 : decode cX11_feel 75 = .ok (.iload 4, 2) := by decide +kernel
theorem dX11_feel_77 : decode cX11_feel 77 = .ok (.iconst 1, 1) := by decide +kernel
theorem dX11_feel_78 : decode cX11_feel 78 = .ok (.iadd, 1) := by decide +kernel
theorem dX11_feel_79 : decode cX11_feel 79 = .ok (.iload_n 2, 1) := by decide +kernel
theorem dX11_feel_80 : decode cX11_feel 80 = .ok (.iastore, 1) := by decide +kernel
theorem dX11_feel_81 : decode cX11_feel 81 = .ok (.aload_n 0, 1) := by decide +kernel
theorem dX11_feel_82 : decode cX11_feel 82 = .ok (.getfield 7, 3) := by decide +kernel
theorem dX11_feel_85 : decode cX11_feel 85 = .ok (.iload 4, 2) := by decide +kernel
theorem dX11_feel_87 : decode cX11_feel 87 = .ok (.iconst 2, 1) := by decide +kernel
theorem dX11_feel_88 : decode cX11_feel 88 = .ok (.iadd, 1) := by decide +kernel
theorem dX11_feel_89 : decode cX11_feel 89 = .ok (.iload_n 3, 1) := by decide +kernel
theorem dX11_feel_90 : decode cX11_feel 90 = .ok (.iastore, 1) := by decide +kernel
theorem dX11_feel_91 : decode cX11_feel 91 = .ok (.aload_n 0, 1) := by decide +kernel
theorem dX11_feel_92 : decode cX11_feel 92 = .ok (.getfield 7, 3) := by decide +kernel
theorem dX11_feel_95 : decode cX11_feel 95 = .ok (.bipush 96, 2) := by decide +kernel
theorem dX11_feel_97 : decode cX11_feel 97 = .ok (.dup2, 1) := by decide +kernel
theorem dX11_feel_98 : decode cX11_feel 98 = .ok (.iaload, 1) := by decide +kernel
theorem dX11_feel_99 : decode cX11_feel 99 = .ok (.iconst 1, 1) := by decide +kernel
theorem dX11_feel_100 : decode cX11_feel 100 = .ok (.iadd, 1) := by decide +kernel
theorem dX11_feel_101 : decode cX11_feel 101 = .ok (.iastore, 1) := by decide +kernel
theorem dX11_feel_102 : decode cX11_feel 102 = .ok (.aload_n 0, 1) := by decide +kernel
theorem dX11_feel_103 : decode cX11_feel 103 = .ok (.getfield 7, 3) := by decide +kernel
theorem dX11_feel_106 : decode cX11_feel 106 = .ok (.bipush 96, 2) := by decide +kernel
theorem dX11_feel_108 : decode cX11_feel 108 = .ok (.iaload, 1) := by decide +kernel
theorem dX11_feel_109 : decode cX11_feel 109 = .ok (.ireturn, 1) := by decide +kernel
theorem dX11_forget_0 : decode cX11_forget 0 = .ok (.iload_n 1, 1) := by decide +kernel
theorem dX11_forget_1 : decode cX11_forget 1 = .ok (.i2l, 1) := by decide +kernel
theorem dX11_forget_2 : decode cX11_forget 2 = .ok (.lconst 0, 1) := by decide +kernel
theorem dX11_forget_3 : decode cX11_forget 3 = .ok (.aload_n 0, 1) := by decide +kernel
theorem dX11_forget_4 : decode cX11_forget 4 = .ok (.getfield 7, 3) := by decide +kernel
theorem dX11_forget_7 : decode cX11_forget 7 = .ok (.bipush 96, 2) := by decide +kernel
theorem dX11_forget_9 : decode cX11_forget 9 = .ok (.iaload, 1) := by decide +kernel
theorem dX11_forget_10 : decode cX11_forget 10 = .ok (.i2l, 1) := by decide +kernel
theorem dX11_forget_11 : decode cX11_forget 11 = .ok (.invokestatic 78, 3) := by decide +kernel
theorem dX11_forget_14 : decode cX11_forget 14 = .ok (.ifCond .eq 13, 3) := by decide +kernel
theorem dX11_forget_17 : decode cX11_forget 17 = .ok (.aload_n 0, 1) := by decide +kernel
theorem dX11_forget_18 : decode cX11_forget 18 = .ok (.bipush 96, 2) := by decide +kernel
theorem dX11_forget_20 : decode cX11_forget 20 = .ok (.iload_n 1, 1) := by decide +kernel
theorem dX11_forget_21 : decode cX11_forget 21 = .ok (.invokevirtual 230, 3) := by decide +kernel
theorem dX11_forget_24 : decode cX11_forget 24 = .ok (.goto 4, 3) := by decide +kernel
theorem dX11_forget_27 : decode cX11_forget 27 = .ok (.iconst (-1), 1) := by decide +kernel
theorem dX11_forget_28 : decode cX11_forget 28 = .ok (.ireturn, 1) := by decide +kernel
theorem dX11_isSo_0 : decode cX11_isSo 0 = .ok (.iconst 1, 1) := by decide +kernel
theorem dX11_isSo_1 : decode cX11_isSo 1 = .ok (.istore_n 3, 1) := by decide +kernel
theorem dX11_isSo_2 : decode cX11_isSo 2 = .ok (.aload_n 0, 1) := by decide +kernel
theorem dX11_isSo_3 : decode cX11_isSo 3 = .ok (.invokevirtual 222, 3) := by decide +kernel
theorem dX11_isSo_6 : decode cX11_isSo 6 = .ok (.aload_n 0, 1) := by decide +kernel
theorem dX11_isSo_7 : decode cX11_isSo 7 = .ok (.getfield 13, 3) := by decide +kernel
theorem dX11_isSo_10 : decode cX11_isSo 10 = .ok (.bipush 24, 2) := by decide +kernel
theorem dX11_isSo_12 : decode cX11_isSo 12 = .ok (.iload_n 1, 1) := by decide +kernel
theorem dX11_isSo_13 : decode cX11_isSo 13 = .ok (.iastore, 1) := by decide +kernel
theorem dX11_isSo_14 : decode cX11_isSo 14 = .ok (.aload_n 0, 1) := by decide +kernel
theorem dX11_isSo_15 : decode cX11_isSo 15 = .ok (.getfield 13, 3) := by decide +kernel
theorem dX11_isSo_18 : decode cX11_isSo 18 = .ok (.bipush 25, 2) := by decide +kernel
theorem dX11_isSo_20 : decode cX11_isSo 20 = .ok (.iload_n 2, 1) := by decide +kernel
theorem dX11_isSo_21 : decode cX11_isSo 21 = .ok (.iastore, 1) := by decide +kernel
theorem dX11_isSo_22 : decode cX11_isSo 22 = .ok (.iconst 0, 1) := by decide +kernel
theorem dX11_isSo_23 : decode cX11_isSo 23 = .ok (.istore 4, 2) := by decide +kernel
theorem dX11_isSo_25 : decode cX11_isSo 25 = .ok (.iload 4, 2) := by decide +kernel
theorem dX11_isSo_27 : decode cX11_isSo 27 = .ok (.bipush 20, 2) := by decide +kernel
theorem dX11_isSo_29 : decode cX11_isSo 29 = .ok (.if_icmp .gt 93, 3) := by decide +kernel
theorem dX11_isSo_32 : decode cX11_isSo 32 = .ok (.iconst 0, 1) := by decide +kernel
theorem dX11_isSo_33 : decode cX11_isSo 33 = .ok (.istore 5, 2) := by decide +kernel
theorem dX11_isSo_35 : decode cX11_isSo 35 = .ok (.iload 5, 2) := by decide +kernel
theorem dX11_isSo_37 : decode cX11_isSo 37 = .ok (.aload_n 0, 1) := by decide +kernel
theorem dX11_isSo_38 : decode cX11_isSo 38 = .ok (.getfield 7, 3) := by decide +kernel
theorem dX11_isSo_41 : decode cX11_isSo 41 = .ok (.bipush 96, 2) := by decide +kernel
theorem dX11_isSo_43 : decode cX11_isSo 43 = .ok (.iaload, 1) := by decide +kernel
theorem dX11_isSo_44 : decode cX11_isSo 44 = .ok (.if_icmp .ge 68, 3) := by decide +kernel
theorem dX11_isSo_47 : decode cX11_isSo 47 = .ok (.bipush 97, 2) := by decide +kernel
theorem dX11_isSo_49 : decode cX11_isSo 49 = .ok (.iconst 3, 1) := by decide +kernel
theorem dX11_isSo_50 : decode cX11_isSo 50 = .ok (.iload 5, 2) := by decide +kernel
theorem dX11_isSo_52 : decode cX11_isSo 52 = .ok (.imul, 1) := by decide +kernel
theorem dX11_isSo_53 : decode cX11_isSo 53 = .ok (.iadd, 1) := by decide +kernel
theorem dX11_isSo_54 : decode cX11_isSo 54 = .ok (.istore 6, 2) := by decide +kernel
theorem dX11_isSo_56 : decode cX11_isSo 56 = .ok (.iload_n 3, 1) := by decide +kernel
theorem dX11_isSo_57 : decode cX11_isSo 57 = .ok (.ifCond .eq 47, 3) := by decide +kernel
theorem dX11_isSo_60 : decode cX11_isSo 60 = .ok (.aload_n 0, 1) := by decide +kernel
theorem dX11_isSo_61 : decode cX11_isSo 61 = .ok (.getfield 7, 3) := by decide +kernel
theorem dX11_isSo_64 : decode cX11_isSo 64 = .ok (.iload 6, 2) := by decide +kernel
theorem dX11_isSo_66 : decode cX11_isSo 66 = .ok (.iaload, 1) := by decide +kernel
theorem dX11_isSo_67 : decode cX11_isSo 67 = .ok (.iload 4, 2) := by decide +kernel
theorem dX11_isSo_69 : decode cX11_isSo 69 = .ok (.if_icmp .ne 31, 3) := by decide +kernel
theorem dX11_isSo_72 : decode cX11_isSo 72 = .ok (.aload_n 0, 1) := by decide +kernel
theorem dX11_isSo_73 : decode cX11_isSo 73 = .ok (.getfield 13, 3) := by decide +kernel
theorem dX11_isSo_76 : decode cX11_isSo 76 = .ok (.iconst 0, 1) := by decide +kernel
theorem dX11_isSo_77 : decode cX11_isSo 77 = .ok (.aload_n 0, 1) := by decide +kernel
theorem dX11_isSo_78 : decode cX11_isSo 78 = .ok (.getfield 7, 3) := by decide +kernel
theorem dX11_isSo_81 : decode cX11_isSo 81 = .ok (.iload 6, 2) := by decide +kernel
theorem dX11_isSo_83 : decode cX11_isSo 83 = .ok (.iconst 1, 1) := by decide +kernel
theorem dX11_isSo_84 : decode cX11_isSo 84 = .ok (.iadd, 1) := by decide +kernel
theorem dX11_isSo_85 : decode cX11_isSo 85 = .ok (.iaload, 1) := by decide +kernel
theorem dX11_isSo_86 : decode cX11_isSo 86 = .ok (.iadd, 1) := by decide +kernel
theorem dX11_isSo_87 : decode cX11_isSo 87 = .ok (.iaload, 1) := by decide +kernel
theorem dX11_isSo_88 : decode cX11_isSo 88 = .ok (.aload_n 0, 1) := by decide +kernel
theorem dX11_isSo_89 : decode cX11_isSo 89 = .ok (.getfield 7, 3) := by decide +kernel
theorem dX11_isSo_92 : decode cX11_isSo 92 = .ok (.iload 6, 2) := by decide +kernel
theorem dX11_isSo_94 : decode cX11_isSo 94 = .ok (.iconst 2, 1) := by decide +kernel
theorem dX11_isSo_95 : decode cX11_isSo 95 = .ok (.iadd, 1) := by decide +kernel
theorem dX11_isSo_96 : decode cX11_isSo 96 = .ok (.iaload, 1) := by decide +kernel
theorem dX11_isSo_97 : decode cX11_isSo 97 = .ok (.if_icmp .ne 7, 3) := by decide +kernel
theorem dX11_isSo_100 : decode cX11_isSo 100 = .ok (.iconst 1, 1) := by decide +kernel
theorem dX11_isSo_101 : decode cX11_isSo 101 = .ok (.goto 4, 3) := by decide +kernel
theorem dX11_isSo_104 : decode cX11_isSo 104 = .ok (.iconst 0, 1) := by decide +kernel
theorem dX11_isSo_105 : decode cX11_isSo 105 = .ok (.istore_n 3, 1) := by decide +kernel
theorem dX11_isSo_106 : decode cX11_isSo 106 = .ok (.iinc 5 1, 3) := by decide +kernel
theorem dX11_isSo_109 : decode cX11_isSo 109 = .ok (.goto (-74), 3) := by decide +kernel
theorem dX11_isSo_112 : decode cX11_isSo 112 = .ok (.aload_n 0, 1) := by decide +kernel
theorem dX11_isSo_113 : decode cX11_isSo 113 = .ok (.invokevirtual 196, 3) := by decide +kernel
theorem dX11_isSo_116 : decode cX11_isSo 116 = .ok (.iinc 4 1, 3) := by decide +kernel
theorem dX11_isSo_119 : decode cX11_isSo 119 = .ok (.goto (-94), 3) := by decide +kernel
theorem dX11_isSo_122 : decode cX11_isSo 122 = .ok (.iload_n 3, 1) := by decide +kernel
theorem dX11_isSo_123 : decode cX11_isSo 123 = .ok (.ireturn, 1) := by decide +kernel
theorem dX11_fits_0 : decode cX11_fits 0 = .ok (.iload_n 1, 1) := by decide +kernel
theorem dX11_fits_1 : decode cX11_fits 1 = .ok (.i2l, 1) := by decide +kernel
theorem dX11_fits_2 : decode cX11_fits 2 = .ok (.lconst 0, 1) := by decide +kernel
theorem dX11_fits_3 : decode cX11_fits 3 = .ok (.ldc2_w 215, 3) := by decide +kernel
theorem dX11_fits_6 : decode cX11_fits 6 = .ok (.invokestatic 78, 3) := by decide +kernel
theorem dX11_fits_9 : decode cX11_fits 9 = .ok (.ifCond .ne 5, 3) := by decide +kernel
theorem dX11_fits_12 : decode cX11_fits 12 = .ok (.iconst (-1), 1) := by decide +kernel
theorem dX11_fits_13 : decode cX11_fits 13 = .ok (.ireturn, 1) := by decide +kernel
theorem dX11_fits_14 : decode cX11_fits 14 = .ok (.iconst 0, 1) := by decide +kernel
theorem dX11_fits_15 : decode cX11_fits 15 = .ok (.istore_n 2, 1) := by decide +kernel
theorem dX11_fits_16 : decode cX11_fits 16 = .ok (.bipush (-4), 2) := by decide +kernel
theorem dX11_fits_18 : decode cX11_fits 18 = .ok (.istore_n 3, 1) := by decide +kernel
theorem dX11_fits_19 : decode cX11_fits 19 = .ok (.bipush (-4), 2) := by decide +kernel
theorem dX11_fits_21 : decode cX11_fits 21 = .ok (.istore 4, 2) := by decide +kernel
theorem dX11_fits_23 : decode cX11_fits 23 = .ok (.iconst 0, 1) := by decide +kernel
theorem dX11_fits_24 : decode cX11_fits 24 = .ok (.istore 5, 2) := by decide +kernel
theorem dX11_fits_26 : decode cX11_fits 26 = .ok (.iload 5, 2) := by decide +kernel
theorem dX11_fits_28 : decode cX11_fits 28 = .ok (.bipush 100, 2) := by decide +kernel
theorem dX11_fits_30 : decode cX11_fits 30 = .ok (.if_icmp .ge 44, 3) := by decide +kernel
theorem dX11_fits_33 : decode cX11_fits 33 = .ok (.aload_n 0, 1) := by decide +kernel
theorem dX11_fits_34 : decode cX11_fits 34 = .ok (.iload 5, 2) := by decide +kernel
theorem dX11_fits_36 : decode cX11_fits 36 = .ok (.bipush 10, 2) := by decide +kernel
theorem dX11_fits_38 : decode cX11_fits 38 = .ok (.idiv, 1) := by decide +kernel
theorem dX11_fits_39 : decode cX11_fits 39 = .ok (.iload 5, 2) := by decide +kernel
theorem dX11_fits_41 : decode cX11_fits 41 = .ok (.bipush 10, 2) := by decide +kernel
theorem dX11_fits_43 : decode cX11_fits 43 = .ok (.irem, 1) := by decide +kernel
theorem dX11_fits_44 : decode cX11_fits 44 = .ok (.invokevirtual 259, 3) := by decide +kernel
theorem dX11_fits_47 : decode cX11_fits 47 = .ok (.ifCond .eq 21, 3) := by decide +kernel
theorem dX11_fits_50 : decode cX11_fits 50 = .ok (.iload_n 2, 1) := by decide +kernel
theorem dX11_fits_51 : decode cX11_fits 51 = .ok (.ifCond .ne 8, 3) := by decide +kernel
theorem dX11_fits_54 : decode cX11_fits 54 = .ok (.iload 5, 2) := by decide +kernel
theorem dX11_fits_56 : decode cX11_fits 56 = .ok (.goto 4, 3) := by decide +kernel
theorem dX11_fits_59 : decode cX11_fits 59 = .ok (.iload_n 3, 1) := by decide +kernel
theorem dX11_fits_60 : decode cX11_fits 60 = .ok (.istore_n 3, 1) := by decide +kernel
theorem dX11_fits_61 : decode cX11_fits 61 = .ok (.iload 5, 2) := by decide +kernel
theorem dX11_fits_63 : decode cX11_fits 63 = .ok (.istore 4, 2) := by decide +kernel
theorem dX11_fits_65 : decode cX11_fits 65 = .ok (.iinc 2 1, 3) := by decide +kernel
theorem dX11_fits_68 : decode cX11_fits 68 = .ok (.iinc 5 1, 3) := by decide +kernel
theorem dX11_fits_71 : decode cX11_fits 71 = .ok (.goto (-45), 3) := by decide +kernel
theorem dX11_fits_74 : decode cX11_fits 74 = .ok (.iload_n 1, 1) := by decide +kernel
theorem dX11_fits_75 : decode cX11_fits 75 = .ok (.ifCond .ne 7, 3) := by decide +kernel
theorem dX11_fits_78 : decode cX11_fits 78 = .ok (.iload_n 2, 1) := by decide +kernel
theorem dX11_fits_79 : decode cX11_fits 79 = .ok (.goto 14, 3) := by decide +kernel
theorem dX11_fits_82 : decode cX11_fits 82 = .ok (.iload_n 1, 1) := by decide +kernel
theorem dX11_fits_83 : decode cX11_fits 83 = .ok (.iconst 1, 1) := by decide +kernel
theorem dX11_fits_84 : decode cX11_fits 84 = .ok (.if_icmp .ne 7, 3) := by decide +kernel
theorem dX11_fits_87 : decode cX11_fits 87 = .ok (.iload_n 3, 1) := by decide +kernel
theorem dX11_fits_88 : decode cX11_fits 88 = .ok (.goto 5, 3) := by decide +kernel
theorem dX11_fits_91 : decode cX11_fits 91 = .ok (.iload 4, 2) := by decide +kernel
theorem dX11_fits_93 : decode cX11_fits 93 = .ok (.ireturn, 1) := by decide +kernel
theorem dX11_weightOf_0 : decode cX11_weightOf 0 = .ok (.aload_n 0, 1) := by decide +kernel
theorem dX11_weightOf_1 : decode cX11_weightOf 1 = .ok (.getfield 7, 3) := by decide +kernel
theorem dX11_weightOf_4 : decode cX11_weightOf 4 = .ok (.bipush 47, 2) := by decide +kernel
theorem dX11_weightOf_6 : decode cX11_weightOf 6 = .ok (.bipush 8, 2) := by decide +kernel
theorem dX11_weightOf_8 : decode cX11_weightOf 8 = .ok (.iload_n 1, 1) := by decide +kernel
theorem dX11_weightOf_9 : decode cX11_weightOf 9 = .ok (.imul, 1) := by decide +kernel
theorem dX11_weightOf_10 : decode cX11_weightOf 10 = .ok (.iadd, 1) := by decide +kernel
theorem dX11_weightOf_11 : decode cX11_weightOf 11 = .ok (.bipush 7, 2) := by decide +kernel
theorem dX11_weightOf_13 : decode cX11_weightOf 13 = .ok (.iadd, 1) := by decide +kernel
theorem dX11_weightOf_14 : decode cX11_weightOf 14 = .ok (.iaload, 1) := by decide +kernel
theorem dX11_weightOf_15 : decode cX11_weightOf 15 = .ok (.istore_n 3, 1) := by decide +kernel
theorem dX11_weightOf_16 : decode cX11_weightOf 16 = .ok (.iload_n 3, 1) := by decide +kernel
theorem dX11_weightOf_17 : decode cX11_weightOf 17 = .ok (.bipush (-4), 2) := by decide +kernel
theorem dX11_weightOf_19 : decode cX11_weightOf 19 = .ok (.if_icmp .eq 18, 3) := by decide +kernel
theorem dX11_weightOf_22 : decode cX11_weightOf 22 = .ok (.aload_n 0, 1) := by decide +kernel
theorem dX11_weightOf_23 : decode cX11_weightOf 23 = .ok (.getfield 7, 3) := by decide +kernel
theorem dX11_weightOf_26 : decode cX11_weightOf 26 = .ok (.bipush 95, 2) := by decide +kernel
theorem dX11_weightOf_28 : decode cX11_weightOf 28 = .ok (.iaload, 1) := by decide +kernel
theorem dX11_weightOf_29 : decode cX11_weightOf 29 = .ok (.iload_n 2, 1) := by decide +kernel
theorem dX11_weightOf_30 : decode cX11_weightOf 30 = .ok (.ishr, 1) := by decide +kernel
theorem dX11_weightOf_31 : decode cX11_weightOf 31 = .ok (.iconst 1, 1) := by decide +kernel
theorem dX11_weightOf_32 : decode cX11_weightOf 32 = .ok (.iand, 1) := by decide +kernel
theorem dX11_weightOf_33 : decode cX11_weightOf 33 = .ok (.iconst 1, 1) := by decide +kernel
theorem dX11_weightOf_34 : decode cX11_weightOf 34 = .ok (.if_icmp .ne 5, 3) := by decide +kernel
theorem dX11_weightOf_37 : decode cX11_weightOf 37 = .ok (.iconst 0, 1) := by decide +kernel
theorem dX11_weightOf_38 : decode cX11_weightOf 38 = .ok (.ireturn, 1) := by decide +kernel
theorem dX11_weightOf_39 : decode cX11_weightOf 39 = .ok (.iload_n 2, 1) := by decide +kernel
theorem dX11_weightOf_40 : decode cX11_weightOf 40 = .ok (.iconst 3, 1) := by decide +kernel
theorem dX11_weightOf_41 : decode cX11_weightOf 41 = .ok (.idiv, 1) := by decide +kernel
theorem dX11_weightOf_42 : decode cX11_weightOf 42 = .ok (.iload_n 3, 1) := by decide +kernel
theorem dX11_weightOf_43 : decode cX11_weightOf 43 = .ok (.isub, 1) := by decide +kernel
theorem dX11_weightOf_44 : decode cX11_weightOf 44 = .ok (.istore 4, 2) := by decide +kernel
theorem dX11_weightOf_46 : decode cX11_weightOf 46 = .ok (.iload 4, 2) := by decide +kernel
theorem dX11_weightOf_48 : decode cX11_weightOf 48 = .ok (.ifCond .ne 7, 3) := by decide +kernel
theorem dX11_weightOf_51 : decode cX11_weightOf 51 = .ok (.iconst 2, 1) := by decide +kernel
theorem dX11_weightOf_52 : decode cX11_weightOf 52 = .ok (.goto 20, 3) := by decide +kernel
theorem dX11_weightOf_55 : decode cX11_weightOf 55 = .ok (.iload 4, 2) := by decide +kernel
theorem dX11_weightOf_57 : decode cX11_weightOf 57 = .ok (.iconst 1, 1) := by decide +kernel
theorem dX11_weightOf_58 : decode cX11_weightOf 58 = .ok (.if_icmp .eq 9, 3) := by decide +kernel
theorem dX11_weightOf_61 : decode cX11_weightOf 61 = .ok (.iload 4, 2) := by decide +kernel
theorem dX11_weightOf_63 : decode cX11_weightOf 63 = .ok (.iconst (-1), 1) := by decide +kernel
theorem dX11_weightOf_64 : decode cX11_weightOf 64 = .ok (.if_icmp .ne 7, 3) := by decide +kernel
theorem dX11_weightOf_67 : decode cX11_weightOf 67 = .ok (.iconst 1, 1) := by decide +kernel
theorem dX11_weightOf_68 : decode cX11_weightOf 68 = .ok (.goto 4, 3) := by decide +kernel
theorem dX11_weightOf_71 : decode cX11_weightOf 71 = .ok (.iconst 0, 1) := by decide +kernel
theorem dX11_weightOf_72 : decode cX11_weightOf 72 = .ok (.ireturn, 1) := by decide +kernel
theorem dX11_allOf_0 : decode cX11_allOf 0 = .ok (.iconst 0, 1) := by decide +kernel
theorem dX11_allOf_1 : decode cX11_allOf 1 = .ok (.istore_n 2, 1) := by decide +kernel
theorem dX11_allOf_2 : decode cX11_allOf 2 = .ok (.iconst 0, 1) := by decide +kernel
theorem dX11_allOf_3 : decode cX11_allOf 3 = .ok (.istore_n 3, 1) := by decide +kernel
theorem dX11_allOf_4 : decode cX11_allOf 4 = .ok (.iload_n 3, 1) := by decide +kernel
theorem dX11_allOf_5 : decode cX11_allOf 5 = .ok (.iconst 3, 1) := by decide +kernel
theorem dX11_allOf_6 : decode cX11_allOf 6 = .ok (.aload_n 0, 1) := by decide +kernel
theorem dX11_allOf_7 : decode cX11_allOf 7 = .ok (.getfield 73, 3) := by decide +kernel
theorem dX11_allOf_10 : decode cX11_allOf 10 = .ok (.imul, 1) := by decide +kernel
theorem dX11_allOf_11 : decode cX11_allOf 11 = .ok (.if_icmp .ge 18, 3) := by decide +kernel
theorem dX11_allOf_14 : decode cX11_allOf 14 = .ok (.iload_n 2, 1) := by decide +kernel
theorem dX11_allOf_15 : decode cX11_allOf 15 = .ok (.aload_n 0, 1) := by decide +kernel
theorem dX11_allOf_16 : decode cX11_allOf 16 = .ok (.iload_n 1, 1) := by decide +kernel
theorem dX11_allOf_17 : decode cX11_allOf 17 = .ok (.iload_n 3, 1) := by decide +kernel
theorem dX11_allOf_18 : decode cX11_allOf 18 = .ok (.invokevirtual 263, 3) := by decide +kernel
theorem dX11_allOf_21 : decode cX11_allOf 21 = .ok (.iadd, 1) := by decide +kernel
theorem dX11_allOf_22 : decode cX11_allOf 22 = .ok (.istore_n 2, 1) := by decide +kernel
theorem dX11_allOf_23 : decode cX11_allOf 23 = .ok (.iinc 3 1, 3) := by decide +kernel
theorem dX11_allOf_26 : decode cX11_allOf 26 = .ok (.goto (-22), 3) := by decide +kernel
theorem dX11_allOf_29 : decode cX11_allOf 29 = .ok (.iload_n 2, 1) := by decide +kernel
theorem dX11_allOf_30 : decode cX11_allOf 30 = .ok (.ireturn, 1) := by decide +kernel
theorem dX11_common_0 : decode cX11_common 0 = .ok (.lload_n 0, 1) := by decide +kernel
theorem dX11_common_1 : decode cX11_common 1 = .ok (.lstore 4, 2) := by decide +kernel
theorem dX11_common_3 : decode cX11_common 3 = .ok (.lload_n 2, 1) := by decide +kernel
theorem dX11_common_4 : decode cX11_common 4 = .ok (.lstore 6, 2) := by decide +kernel
theorem dX11_common_6 : decode cX11_common 6 = .ok (.lload 6, 2) := by decide +kernel
theorem dX11_common_8 : decode cX11_common 8 = .ok (.lconst 0, 1) := by decide +kernel
theorem dX11_common_9 : decode cX11_common 9 = .ok (.lcmp, 1) := by decide +kernel
theorem dX11_common_10 : decode cX11_common 10 = .ok (.ifCond .eq 21, 3) := by decide +kernel
theorem dX11_common_13 : decode cX11_common 13 = .ok (.lload 4, 2) := by decide +kernel
theorem dX11_common_15 : decode cX11_common 15 = .ok (.lload 6, 2) := by decide +kernel
theorem dX11_common_17 : decode cX11_common 17 = .ok (.lrem, 1) := by decide +kernel
theorem dX11_common_18 : decode cX11_common 18 = .ok (.lstore 8, 2) := by decide +kernel
theorem dX11_common_20 : decode cX11_common 20 = .ok (.lload 6, 2) := by decide +kernel
theorem dX11_common_22 : decode cX11_common 22 = .ok (.lstore 4, 2) := by decide +kernel
theorem dX11_common_24 : decode cX11_common 24 = .ok (.lload 8, 2) := by decide +kernel
theorem dX11_common_26 : decode cX11_common 26 = .ok (.lstore 6, 2) := by decide +kernel
theorem dX11_common_28 : decode cX11_common 28 = .ok (.goto (-22), 3) := by decide +kernel
theorem dX11_common_31 : decode cX11_common 31 = .ok (.lload 4, 2) := by decide +kernel
theorem dX11_common_33 : decode cX11_common 33 = .ok (.lreturn, 1) := by decide +kernel
theorem dX11_told_0 : decode cX11_told 0 = .ok (.lload_n 2, 1) := by decide +kernel
theorem dX11_told_1 : decode cX11_told 1 = .ok (.lload_n 0, 1) := by decide +kernel
theorem dX11_told_2 : decode cX11_told 2 = .ok (.invokestatic 266, 3) := by decide +kernel
theorem dX11_told_5 : decode cX11_told 5 = .ok (.lstore 5, 2) := by decide +kernel
theorem dX11_told_7 : decode cX11_told 7 = .ok (.iload 4, 2) := by decide +kernel
theorem dX11_told_9 : decode cX11_told 9 = .ok (.ifCond .eq 10, 3) := by decide +kernel
theorem dX11_told_12 : decode cX11_told 12 = .ok (.lload_n 0, 1) := by decide +kernel
theorem dX11_told_13 : decode cX11_told 13 = .ok (.lload 5, 2) := by decide +kernel
theorem dX11_told_15 : decode cX11_told 15 = .ok (.ldiv, 1) := by decide +kernel
theorem dX11_told_16 : decode cX11_told 16 = .ok (.goto 7, 3) := by decide +kernel
theorem dX11_told_19 : decode cX11_told 19 = .ok (.lload_n 2, 1) := by decide +kernel
theorem dX11_told_20 : decode cX11_told 20 = .ok (.lload 5, 2) := by decide +kernel
theorem dX11_told_22 : decode cX11_told 22 = .ok (.ldiv, 1) := by decide +kernel
theorem dX11_told_23 : decode cX11_told 23 = .ok (.lreturn, 1) := by decide +kernel
theorem dX11_lies_0 : decode cX11_lies 0 = .ok (.aload_n 0, 1) := by decide +kernel
theorem dX11_lies_1 : decode cX11_lies 1 = .ok (.iload_n 1, 1) := by decide +kernel
theorem dX11_lies_2 : decode cX11_lies 2 = .ok (.invokevirtual 217, 3) := by decide +kernel
theorem dX11_lies_5 : decode cX11_lies 5 = .ok (.ifCond .eq 21, 3) := by decide +kernel
theorem dX11_lies_8 : decode cX11_lies 8 = .ok (.aload_n 0, 1) := by decide +kernel
theorem dX11_lies_9 : decode cX11_lies 9 = .ok (.iload_n 2, 1) := by decide +kernel
theorem dX11_lies_10 : decode cX11_lies 10 = .ok (.invokevirtual 212, 3) := by decide +kernel
theorem dX11_lies_13 : decode cX11_lies 13 = .ok (.ifCond .eq 13, 3) := by decide +kernel
theorem dX11_lies_16 : decode cX11_lies 16 = .ok (.iload_n 3, 1) := by decide +kernel
theorem dX11_lies_17 : decode cX11_lies 17 = .ok (.i2l, 1) := by decide +kernel
theorem dX11_lies_18 : decode cX11_lies 18 = .ok (.lconst 0, 1) := by decide +kernel
theorem dX11_lies_19 : decode cX11_lies 19 = .ok (.lconst 1, 1) := by decide +kernel
theorem dX11_lies_20 : decode cX11_lies 20 = .ok (.invokestatic 78, 3) := by decide +kernel
theorem dX11_lies_23 : decode cX11_lies 23 = .ok (.ifCond .ne 7, 3) := by decide +kernel
theorem dX11_lies_26 : decode cX11_lies 26 = .ok (.ldc2_w 270, 3) := by decide +kernel
theorem dX11_lies_29 : decode cX11_lies 29 = .ok (.lreturn, 1) := by decide +kernel
theorem dX11_lies_30 : decode cX11_lies 30 = .ok (.aload_n 0, 1) := by decide +kernel
theorem dX11_lies_31 : decode cX11_lies 31 = .ok (.getfield 7, 3) := by decide +kernel
theorem dX11_lies_34 : decode cX11_lies 34 = .ok (.bipush 47, 2) := by decide +kernel
theorem dX11_lies_36 : decode cX11_lies 36 = .ok (.bipush 8, 2) := by decide +kernel
theorem dX11_lies_38 : decode cX11_lies 38 = .ok (.iload_n 1, 1) := by decide +kernel
theorem dX11_lies_39 : decode cX11_lies 39 = .ok (.imul, 1) := by decide +kernel
theorem dX11_lies_40 : decode cX11_lies 40 = .ok (.iadd, 1) := by decide +kernel
theorem dX11_lies_41 : decode cX11_lies 41 = .ok (.bipush 7, 2) := by decide +kernel
theorem dX11_lies_43 : decode cX11_lies 43 = .ok (.iadd, 1) := by decide +kernel
theorem dX11_lies_44 : decode cX11_lies 44 = .ok (.iaload, 1) := by decide +kernel
theorem dX11_lies_45 : decode cX11_lies 45 = .ok (.bipush (-4), 2) := by decide +kernel
theorem dX11_lies_47 : decode cX11_lies 47 = .ok (.if_icmp .ne 7, 3) := by decide +kernel
theorem dX11_lies_50 : decode cX11_lies 50 = .ok (.ldc2_w 272, 3) := by decide +kernel
theorem dX11_lies_53 : decode cX11_lies 53 = .ok (.lreturn, 1) := by decide +kernel
theorem dX11_lies_54 : decode cX11_lies 54 = .ok (.aload_n 0, 1) := by decide +kernel
theorem dX11_lies_55 : decode cX11_lies 55 = .ok (.iload_n 1, 1) := by decide +kernel
theorem dX11_lies_56 : decode cX11_lies 56 = .ok (.invokevirtual 274, 3) := by decide +kernel
theorem dX11_lies_59 : decode cX11_lies 59 = .ok (.istore 4, 2) := by decide +kernel
theorem dX11_lies_61 : decode cX11_lies 61 = .ok (.iload 4, 2) := by decide +kernel
theorem dX11_lies_63 : decode cX11_lies 63 = .ok (.ifCond .ne 9, 3) := by decide +kernel
theorem dX11_lies_66 : decode cX11_lies 66 = .ok (.ldc2_w 277, 3) := by decide +kernel
theorem dX11_lies_69 : decode cX11_lies 69 = .ok (.goto 25, 3) := by decide +kernel
theorem dX11_lies_72 : decode cX11_lies 72 = .ok (.aload_n 0, 1) := by decide +kernel
theorem dX11_lies_73 : decode cX11_lies 73 = .ok (.iload_n 1, 1) := by decide +kernel
theorem dX11_lies_74 : decode cX11_lies 74 = .ok (.iload_n 2, 1) := by decide +kernel
theorem dX11_lies_75 : decode cX11_lies 75 = .ok (.invokevirtual 263, 3) := by decide +kernel
theorem dX11_lies_78 : decode cX11_lies 78 = .ok (.i2l, 1) := by decide +kernel
theorem dX11_lies_79 : decode cX11_lies 79 = .ok (.iload 4, 2) := by decide +kernel
theorem dX11_lies_81 : decode cX11_lies 81 = .ok (.i2l, 1) := by decide +kernel
theorem dX11_lies_82 : decode cX11_lies 82 = .ok (.iload_n 3, 1) := by decide +kernel
theorem dX11_lies_83 : decode cX11_lies 83 = .ok (.ifCond .ne 7, 3) := by decide +kernel
theorem dX11_lies_86 : decode cX11_lies 86 = .ok (.iconst 1, 1) := by decide +kernel
theorem dX11_lies_87 : decode cX11_lies 87 = .ok (.goto 4, 3) := by decide +kernel
theorem dX11_lies_90 : decode cX11_lies 90 = .ok (.iconst 0, 1) := by decide +kernel
theorem dX11_lies_91 : decode cX11_lies 91 = .ok (.invokestatic 279, 3) := by decide +kernel
theorem dX11_lies_94 : decode cX11_lies 94 = .ok (.lreturn, 1) := by decide +kernel
theorem dX11_next__0 : decode cX11_next_ 0 = .ok (.iload_n 1, 1) := by decide +kernel
theorem dX11_next__1 : decode cX11_next_ 1 = .ok (.i2l, 1) := by decide +kernel
theorem dX11_next__2 : decode cX11_next_ 2 = .ok (.lconst 0, 1) := by decide +kernel
theorem dX11_next__3 : decode cX11_next_ 3 = .ok (.ldc2_w 215, 3) := by decide +kernel
theorem dX11_next__6 : decode cX11_next_ 6 = .ok (.invokestatic 78, 3) := by decide +kernel
theorem dX11_next__9 : decode cX11_next_ 9 = .ok (.ifCond .ne 7, 3) := by decide +kernel
theorem dX11_next__12 : decode cX11_next_ 12 = .ok (.ldc2_w 270, 3) := by decide +kernel
theorem dX11_next__15 : decode cX11_next_ 15 = .ok (.lreturn, 1) := by decide +kernel
theorem dX11_next__16 : decode cX11_next_ 16 = .ok (.bipush (-4), 2) := by decide +kernel
theorem dX11_next__18 : decode cX11_next_ 18 = .ok (.istore_n 2, 1) := by decide +kernel
theorem dX11_next__19 : decode cX11_next_ 19 = .ok (.lconst 0, 1) := by decide +kernel
theorem dX11_next__20 : decode cX11_next_ 20 = .ok (.lstore_n 3, 1) := by decide +kernel
theorem dX11_next__21 : decode cX11_next_ 21 = .ok (.iconst 0, 1) := by decide +kernel
theorem dX11_next__22 : decode cX11_next_ 22 = .ok (.istore 5, 2) := by decide +kernel
theorem dX11_next__24 : decode cX11_next_ 24 = .ok (.iload 5, 2) := by decide +kernel
theorem dX11_next__26 : decode cX11_next_ 26 = .ok (.iconst 3, 1) := by decide +kernel
theorem dX11_next__27 : decode cX11_next_ 27 = .ok (.aload_n 0, 1) := by decide +kernel
theorem dX11_next__28 : decode cX11_next_ 28 = .ok (.getfield 73, 3) := by decide +kernel
theorem dX11_next__31 : decode cX11_next_ 31 = .ok (.imul, 1) := by decide +kernel
theorem dX11_next__32 : decode cX11_next_ 32 = .ok (.if_icmp .ge 99, 3) := by decide +kernel
theorem dX11_next__35 : decode cX11_next_ 35 = .ok (.lconst 0, 1) := by decide +kernel
theorem dX11_next__36 : decode cX11_next_ 36 = .ok (.lstore 6, 2) := by decide +kernel
theorem dX11_next__38 : decode cX11_next_ 38 = .ok (.iconst 0, 1) := by decide +kernel
theorem dX11_next__39 : decode cX11_next_ 39 = .ok (.istore 8, 2) := by decide +kernel
theorem dX11_next__41 : decode cX11_next_ 41 = .ok (.iload 8, 2) := by decide +kernel
theorem dX11_next__43 : decode cX11_next_ 43 = .ok (.aload_n 0, 1) := by decide +kernel
theorem dX11_next__44 : decode cX11_next_ 44 = .ok (.getfield 7, 3) := by decide +kernel
theorem dX11_next__47 : decode cX11_next_ 47 = .ok (.bipush 46, 2) := by decide +kernel
theorem dX11_next__49 : decode cX11_next_ 49 = .ok (.iaload, 1) := by decide +kernel
theorem dX11_next__50 : decode cX11_next_ 50 = .ok (.if_icmp .ge 47, 3) := by decide +kernel
theorem dX11_next__53 : decode cX11_next_ 53 = .ok (.aload_n 0, 1) := by decide +kernel
theorem dX11_next__54 : decode cX11_next_ 54 = .ok (.iload 8, 2) := by decide +kernel
theorem dX11_next__56 : decode cX11_next_ 56 = .ok (.invokevirtual 274, 3) := by decide +kernel
theorem dX11_next__59 : decode cX11_next_ 59 = .ok (.istore 9, 2) := by decide +kernel
theorem dX11_next__61 : decode cX11_next_ 61 = .ok (.lload 6, 2) := by decide +kernel
theorem dX11_next__63 : decode cX11_next_ 63 = .ok (.iload 9, 2) := by decide +kernel
theorem dX11_next__65 : decode cX11_next_ 65 = .ok (.ifCond .ne 7, 3) := by decide +kernel
theorem dX11_next__68 : decode cX11_next_ 68 = .ok (.lconst 0, 1) := by decide +kernel
theorem dX11_next__69 : decode cX11_next_ 69 = .ok (.goto 19, 3) := by decide +kernel
theorem dX11_next__72 : decode cX11_next_ 72 = .ok (.sipush 27720, 3) := by decide +kernel
theorem dX11_next__75 : decode cX11_next_ 75 = .ok (.iload 9, 2) := by decide +kernel
theorem dX11_next__77 : decode cX11_next_ 77 = .ok (.idiv, 1) := by decide +kernel
theorem dX11_next__78 : decode cX11_next_ 78 = .ok (.aload_n 0, 1) := by decide +kernel
theorem dX11_next__79 : decode cX11_next_ 79 = .ok (.iload 8, 2) := by decide +kernel
theorem dX11_next__81 : decode cX11_next_ 81 = .ok (.iload 5, 2) := by decide +kernel
theorem dX11_next__83 : decode cX11_next_ 83 = .ok (.invokevirtual 263, 3) := by decide +kernel
theorem dX11_next__86 : decode cX11_next_ 86 = .ok (.imul, 1) := by decide +kernel
theorem dX11_next__87 : decode cX11_next_ 87 = .ok (.i2l, 1) := by decide +kernel
theorem dX11_next__88 : decode cX11_next_ 88 = .ok (.ladd, 1) := by decide +kernel
theorem dX11_next__89 : decode cX11_next_ 89 = .ok (.lstore 6, 2) := by decide +kernel
theorem dX11_next__91 : decode cX11_next_ 91 = .ok (.iinc 8 1, 3) := by decide +kernel
theorem dX11_next__94 : decode cX11_next_ 94 = .ok (.goto (-53), 3) := by decide +kernel
theorem dX11_next__97 : decode cX11_next_ 97 = .ok (.lload 6, 2) := by decide +kernel
theorem dX11_next__99 : decode cX11_next_ 99 = .ok (.lload_n 3, 1) := by decide +kernel
theorem dX11_next__100 : decode cX11_next_ 100 = .ok (.lcmp, 1) := by decide +kernel
theorem dX11_next__101 : decode cX11_next_ 101 = .ok (.ifCond .le 8, 3) := by decide +kernel
theorem dX11_next__104 : decode cX11_next_ 104 = .ok (.iload 5, 2) := by decide +kernel
theorem dX11_next__106 : decode cX11_next_ 106 = .ok (.goto 4, 3) := by decide +kernel
theorem dX11_next__109 : decode cX11_next_ 109 = .ok (.iload_n 2, 1) := by decide +kernel
theorem dX11_next__110 : decode cX11_next_ 110 = .ok (.istore_n 2, 1) := by decide +kernel
theorem dX11_next__111 : decode cX11_next_ 111 = .ok (.lload 6, 2) := by decide +kernel
theorem dX11_next__113 : decode cX11_next_ 113 = .ok (.lload_n 3, 1) := by decide +kernel
theorem dX11_next__114 : decode cX11_next_ 114 = .ok (.lcmp, 1) := by decide +kernel
theorem dX11_next__115 : decode cX11_next_ 115 = .ok (.ifCond .le 8, 3) := by decide +kernel
theorem dX11_next__118 : decode cX11_next_ 118 = .ok (.lload 6, 2) := by decide +kernel
theorem dX11_next__120 : decode cX11_next_ 120 = .ok (.goto 4, 3) := by decide +kernel
theorem dX11_next__123 : decode cX11_next_ 123 = .ok (.lload_n 3, 1) := by decide +kernel
theorem dX11_next__124 : decode cX11_next_ 124 = .ok (.lstore_n 3, 1) := by decide +kernel
theorem dX11_next__125 : decode cX11_next_ 125 = .ok (.iinc 5 1, 3) := by decide +kernel
theorem dX11_next__128 : decode cX11_next_ 128 = .ok (.goto (-104), 3) := by decide +kernel
theorem dX11_next__131 : decode cX11_next_ 131 = .ok (.iload_n 2, 1) := by decide +kernel
theorem dX11_next__132 : decode cX11_next_ 132 = .ok (.bipush (-4), 2) := by decide +kernel
theorem dX11_next__134 : decode cX11_next_ 134 = .ok (.if_icmp .ne 7, 3) := by decide +kernel
theorem dX11_next__137 : decode cX11_next_ 137 = .ok (.ldc2_w 277, 3) := by decide +kernel
theorem dX11_next__140 : decode cX11_next_ 140 = .ok (.lreturn, 1) := by decide +kernel
theorem dX11_next__141 : decode cX11_next_ 141 = .ok (.iload_n 1, 1) := by decide +kernel
theorem dX11_next__142 : decode cX11_next_ 142 = .ok (.ifCond .ne 8, 3) := by decide +kernel
theorem dX11_next__145 : decode cX11_next_ 145 = .ok (.iload_n 2, 1) := by decide +kernel
theorem dX11_next__146 : decode cX11_next_ 146 = .ok (.i2l, 1) := by decide +kernel
theorem dX11_next__147 : decode cX11_next_ 147 = .ok (.goto 20, 3) := by decide +kernel
theorem dX11_next__150 : decode cX11_next_ 150 = .ok (.lload_n 3, 1) := by decide +kernel
theorem dX11_next__151 : decode cX11_next_ 151 = .ok (.ldc2_w 283, 3) := by decide +kernel
theorem dX11_next__154 : decode cX11_next_ 154 = .ok (.iload_n 1, 1) := by decide +kernel
theorem dX11_next__155 : decode cX11_next_ 155 = .ok (.iconst 1, 1) := by decide +kernel
theorem dX11_next__156 : decode cX11_next_ 156 = .ok (.if_icmp .ne 7, 3) := by decide +kernel
theorem dX11_next__159 : decode cX11_next_ 159 = .ok (.iconst 1, 1) := by decide +kernel
theorem dX11_next__160 : decode cX11_next_ 160 = .ok (.goto 4, 3) := by decide +kernel
theorem dX11_next__163 : decode cX11_next_ 163 = .ok (.iconst 0, 1) := by decide +kernel
theorem dX11_next__164 : decode cX11_next_ 164 = .ok (.invokestatic 279, 3) := by decide +kernel
theorem dX11_next__167 : decode cX11_next_ 167 = .ok (.lreturn, 1) := by decide +kernel
theorem dX11_isBefore_0 : decode cX11_isBefore 0 = .ok (.aload_n 0, 1) := by decide +kernel
theorem dX11_isBefore_1 : decode cX11_isBefore 1 = .ok (.iload_n 1, 1) := by decide +kernel
theorem dX11_isBefore_2 : decode cX11_isBefore 2 = .ok (.invokevirtual 205, 3) := by decide +kernel
theorem dX11_isBefore_5 : decode cX11_isBefore 5 = .ok (.ifCond .eq 7, 3) := by decide +kernel
theorem dX11_isBefore_8 : decode cX11_isBefore 8 = .ok (.iconst 2, 1) := by decide +kernel
theorem dX11_isBefore_9 : decode cX11_isBefore 9 = .ok (.goto 16, 3) := by decide +kernel
theorem dX11_isBefore_12 : decode cX11_isBefore 12 = .ok (.aload_n 0, 1) := by decide +kernel
theorem dX11_isBefore_13 : decode cX11_isBefore 13 = .ok (.iload_n 1, 1) := by decide +kernel
theorem dX11_isBefore_14 : decode cX11_isBefore 14 = .ok (.invokevirtual 202, 3) := by decide +kernel
theorem dX11_isBefore_17 : decode cX11_isBefore 17 = .ok (.ifCond .eq 7, 3) := by decide +kernel
theorem dX11_isBefore_20 : decode cX11_isBefore 20 = .ok (.iconst 0, 1) := by decide +kernel
theorem dX11_isBefore_21 : decode cX11_isBefore 21 = .ok (.goto 4, 3) := by decide +kernel
theorem dX11_isBefore_24 : decode cX11_isBefore 24 = .ok (.iconst 1, 1) := by decide +kernel
theorem dX11_isBefore_25 : decode cX11_isBefore 25 = .ok (.istore_n 3, 1) := by decide +kernel
theorem dX11_isBefore_26 : decode cX11_isBefore 26 = .ok (.aload_n 0, 1) := by decide +kernel
theorem dX11_isBefore_27 : decode cX11_isBefore 27 = .ok (.iload_n 2, 1) := by decide +kernel
theorem dX11_isBefore_28 : decode cX11_isBefore 28 = .ok (.invokevirtual 205, 3) := by decide +kernel
theorem dX11_isBefore_31 : decode cX11_isBefore 31 = .ok (.ifCond .eq 7, 3) := by decide +kernel
theorem dX11_isBefore_34 : decode cX11_isBefore 34 = .ok (.iconst 2, 1) := by decide +kernel
theorem dX11_isBefore_35 : decode cX11_isBefore 35 = .ok (.goto 16, 3) := by decide +kernel
theorem dX11_isBefore_38 : decode cX11_isBefore 38 = .ok (.aload_n 0, 1) := by decide +kernel
theorem dX11_isBefore_39 : decode cX11_isBefore 39 = .ok (.iload_n 2, 1) := by decide +kernel
theorem dX11_isBefore_40 : decode cX11_isBefore 40 = .ok (.invokevirtual 202, 3) := by decide +kernel
theorem dX11_isBefore_43 : decode cX11_isBefore 43 = .ok (.ifCond .eq 7, 3) := by decide +kernel
theorem dX11_isBefore_46 : decode cX11_isBefore 46 = .ok (.iconst 0, 1) := by decide +kernel
theorem dX11_isBefore_47 : decode cX11_isBefore 47 = .ok (.goto 4, 3) := by decide +kernel
theorem dX11_isBefore_50 : decode cX11_isBefore 50 = .ok (.iconst 1, 1) := by decide +kernel
theorem dX11_isBefore_51 : decode cX11_isBefore 51 = .ok (.istore 4, 2) := by decide +kernel
theorem dX11_isBefore_53 : decode cX11_isBefore 53 = .ok (.iload_n 3, 1) := by decide +kernel
theorem dX11_isBefore_54 : decode cX11_isBefore 54 = .ok (.iload 4, 2) := by decide +kernel
theorem dX11_isBefore_56 : decode cX11_isBefore 56 = .ok (.if_icmp .eq 15, 3) := by decide +kernel
theorem dX11_isBefore_59 : decode cX11_isBefore 59 = .ok (.iload_n 3, 1) := by decide +kernel
theorem dX11_isBefore_60 : decode cX11_isBefore 60 = .ok (.iload 4, 2) := by decide +kernel
theorem dX11_isBefore_62 : decode cX11_isBefore 62 = .ok (.if_icmp .le 7, 3) := by decide +kernel
theorem dX11_isBefore_65 : decode cX11_isBefore 65 = .ok (.iconst 1, 1) := by decide +kernel
theorem dX11_isBefore_66 : decode cX11_isBefore 66 = .ok (.goto 4, 3) := by decide +kernel
theorem dX11_isBefore_69 : decode cX11_isBefore 69 = .ok (.iconst 0, 1) := by decide +kernel
theorem dX11_isBefore_70 : decode cX11_isBefore 70 = .ok (.ireturn, 1) := by decide +kernel
theorem dX11_isBefore_71 : decode cX11_isBefore 71 = .ok (.iload_n 3, 1) := by decide +kernel
theorem dX11_isBefore_72 : decode cX11_isBefore 72 = .ok (.iconst 2, 1) := by decide +kernel
theorem dX11_isBefore_73 : decode cX11_isBefore 73 = .ok (.if_icmp .ne 26, 3) := by decide +kernel
theorem dX11_isBefore_76 : decode cX11_isBefore 76 = .ok (.aload_n 0, 1) := by decide +kernel
theorem dX11_isBefore_77 : decode cX11_isBefore 77 = .ok (.iload_n 1, 1) := by decide +kernel
theorem dX11_isBefore_78 : decode cX11_isBefore 78 = .ok (.iconst 0, 1) := by decide +kernel
theorem dX11_isBefore_79 : decode cX11_isBefore 79 = .ok (.invokevirtual 173, 3) := by decide +kernel
theorem dX11_isBefore_82 : decode cX11_isBefore 82 = .ok (.aload_n 0, 1) := by decide +kernel
theorem dX11_isBefore_83 : decode cX11_isBefore 83 = .ok (.iload_n 2, 1) := by decide +kernel
theorem dX11_isBefore_84 : decode cX11_isBefore 84 = .ok (.iconst 0, 1) := by decide +kernel
theorem dX11_isBefore_85 : decode cX11_isBefore 85 = .ok (.invokevirtual 173, 3) := by decide +kernel
theorem dX11_isBefore_88 : decode cX11_isBefore 88 = .ok (.if_icmp .le 7, 3) := by decide +kernel
theorem dX11_isBefore_91 : decode cX11_isBefore 91 = .ok (.iconst 1, 1) := by decide +kernel
theorem dX11_isBefore_92 : decode cX11_isBefore 92 = .ok (.goto 32, 3) := by decide +kernel
theorem dX11_isBefore_95 : decode cX11_isBefore 95 = .ok (.iconst 0, 1) := by decide +kernel
theorem dX11_isBefore_96 : decode cX11_isBefore 96 = .ok (.goto 28, 3) := by decide +kernel
theorem dX11_isBefore_99 : decode cX11_isBefore 99 = .ok (.iload_n 3, 1) := by decide +kernel
theorem dX11_isBefore_100 : decode cX11_isBefore 100 = .ok (.iconst 1, 1) := by decide +kernel
theorem dX11_isBefore_101 : decode cX11_isBefore 101 = .ok (.if_icmp .ne 22, 3) := by decide +kernel
theorem dX11_isBefore_104 : decode cX11_isBefore 104 = .ok (.aload_n 0, 1) := by decide +kernel
theorem dX11_isBefore_105 : decode cX11_isBefore 105 = .ok (.iload_n 1, 1) := by decide +kernel
theorem dX11_isBefore_106 : decode cX11_isBefore 106 = .ok (.iconst 3, 1) := by decide +kernel
theorem dX11_isBefore_107 : decode cX11_isBefore 107 = .ok (.invokevirtual 173, 3) := by decide +kernel
theorem dX11_isBefore_110 : decode cX11_isBefore 110 = .ok (.aload_n 0, 1) := by decide +kernel
theorem dX11_isBefore_111 : decode cX11_isBefore 111 = .ok (.iload_n 2, 1) := by decide +kernel
theorem dX11_isBefore_112 : decode cX11_isBefore 112 = .ok (.iconst 3, 1) := by decide +kernel
theorem dX11_isBefore_113 : decode cX11_isBefore 113 = .ok (.invokevirtual 173, 3) := by decide +kernel
theorem dX11_isBefore_116 : decode cX11_isBefore 116 = .ok (.if_icmp .le 7, 3) := by decide +kernel
theorem dX11_isBefore_119 : decode cX11_isBefore 119 = .ok (.iconst 1, 1) := by decide +kernel
theorem dX11_isBefore_120 : decode cX11_isBefore 120 = .ok (.goto 4, 3) := by decide +kernel
theorem dX11_isBefore_123 : decode cX11_isBefore 123 = .ok (.iconst 0, 1) := by decide +kernel
theorem dX11_isBefore_124 : decode cX11_isBefore 124 = .ok (.ireturn, 1) := by decide +kernel
theorem dX11_takes_0 : decode cX11_takes 0 = .ok (.iload_n 1, 1) := by decide +kernel
theorem dX11_takes_1 : decode cX11_takes 1 = .ok (.ifCond .ge 5, 3) := by decide +kernel
theorem dX11_takes_4 : decode cX11_takes 4 = .ok (.iconst (-1), 1) := by decide +kernel
theorem dX11_takes_5 : decode cX11_takes 5 = .ok (.ireturn, 1) := by decide +kernel
theorem dX11_takes_6 : decode cX11_takes 6 = .ok (.aload_n 0, 1) := by decide +kernel
theorem dX11_takes_7 : decode cX11_takes 7 = .ok (.invokevirtual 222, 3) := by decide +kernel
theorem dX11_takes_10 : decode cX11_takes 10 = .ok (.iconst 0, 1) := by decide +kernel
theorem dX11_takes_11 : decode cX11_takes 11 = .ok (.istore_n 2, 1) := by decide +kernel
theorem dX11_takes_12 : decode cX11_takes 12 = .ok (.bipush (-4), 2) := by decide +kernel
theorem dX11_takes_14 : decode cX11_takes 14 = .ok (.istore_n 3, 1) := by decide +kernel
theorem dX11_takes_15 : decode cX11_takes 15 = .ok (.iconst 0, 1) := by decide +kernel
theorem dX11_takes_16 : decode cX11_takes 16 = .ok (.istore 4, 2) := by decide +kernel
theorem dX11_takes_18 : decode cX11_takes 18 = .ok (.iload 4, 2) := by decide +kernel
theorem dX11_takes_20 : decode cX11_takes 20 = .ok (.iload_n 1, 1) := by decide +kernel
theorem dX11_takes_21 : decode cX11_takes 21 = .ok (.if_icmp .gt 100, 3) := by decide +kernel
theorem dX11_takes_24 : decode cX11_takes 24 = .ok (.iload 4, 2) := by decide +kernel
theorem dX11_takes_26 : decode cX11_takes 26 = .ok (.bipush 6, 2) := by decide +kernel
theorem dX11_takes_28 : decode cX11_takes 28 = .ok (.if_icmp .gt 93, 3) := by decide +kernel
theorem dX11_takes_31 : decode cX11_takes 31 = .ok (.bipush (-4), 2) := by decide +kernel
theorem dX11_takes_33 : decode cX11_takes 33 = .ok (.istore_n 3, 1) := by decide +kernel
theorem dX11_takes_34 : decode cX11_takes 34 = .ok (.iconst 0, 1) := by decide +kernel
theorem dX11_takes_35 : decode cX11_takes 35 = .ok (.istore 5, 2) := by decide +kernel
theorem dX11_takes_37 : decode cX11_takes 37 = .ok (.iload 5, 2) := by decide +kernel
theorem dX11_takes_39 : decode cX11_takes 39 = .ok (.aload_n 0, 1) := by decide +kernel
theorem dX11_takes_40 : decode cX11_takes 40 = .ok (.getfield 7, 3) := by decide +kernel
theorem dX11_takes_43 : decode cX11_takes 43 = .ok (.bipush 46, 2) := by decide +kernel
theorem dX11_takes_45 : decode cX11_takes 45 = .ok (.iaload, 1) := by decide +kernel
theorem dX11_takes_46 : decode cX11_takes 46 = .ok (.if_icmp .ge 53, 3) := by decide +kernel
theorem dX11_takes_49 : decode cX11_takes 49 = .ok (.iload_n 2, 1) := by decide +kernel
theorem dX11_takes_50 : decode cX11_takes 50 = .ok (.iload 5, 2) := by decide +kernel
theorem dX11_takes_52 : decode cX11_takes 52 = .ok (.ishr, 1) := by decide +kernel
theorem dX11_takes_53 : decode cX11_takes 53 = .ok (.iconst 1, 1) := by decide +kernel
theorem dX11_takes_54 : decode cX11_takes 54 = .ok (.iand, 1) := by decide +kernel
theorem dX11_takes_55 : decode cX11_takes 55 = .ok (.ifCond .ne 23, 3) := by decide +kernel
theorem dX11_takes_58 : decode cX11_takes 58 = .ok (.iload_n 3, 1) := by decide +kernel
theorem dX11_takes_59 : decode cX11_takes 59 = .ok (.bipush (-4), 2) := by decide +kernel
theorem dX11_takes_61 : decode cX11_takes 61 = .ok (.if_icmp .eq 13, 3) := by decide +kernel
theorem dX11_takes_64 : decode cX11_takes 64 = .ok (.aload_n 0, 1) := by decide +kernel
theorem dX11_takes_65 : decode cX11_takes 65 = .ok (.iload 5, 2) := by decide +kernel
theorem dX11_takes_67 : decode cX11_takes 67 = .ok (.iload_n 3, 1) := by decide +kernel
theorem dX11_takes_68 : decode cX11_takes 68 = .ok (.invokevirtual 285, 3) := by decide +kernel
theorem dX11_takes_71 : decode cX11_takes 71 = .ok (.ifCond .eq 7, 3) := by decide +kernel
theorem dX11_takes_74 : decode cX11_takes 74 = .ok (.iconst 1, 1) := by decide +kernel
theorem dX11_takes_75 : decode cX11_takes 75 = .ok (.goto 4, 3) := by decide +kernel
theorem dX11_takes_78 : decode cX11_takes 78 = .ok (.iconst 0, 1) := by decide +kernel
theorem dX11_takes_79 : decode cX11_takes 79 = .ok (.istore 6, 2) := by decide +kernel
theorem dX11_takes_81 : decode cX11_takes 81 = .ok (.iload 6, 2) := by decide +kernel
theorem dX11_takes_83 : decode cX11_takes 83 = .ok (.ifCond .eq 8, 3) := by decide +kernel
theorem dX11_takes_86 : decode cX11_takes 86 = .ok (.iload 5, 2) := by decide +kernel
theorem dX11_takes_88 : decode cX11_takes 88 = .ok (.goto 4, 3) := by decide +kernel
theorem dX11_takes_91 : decode cX11_takes 91 = .ok (.iload_n 3, 1) := by decide +kernel
theorem dX11_takes_92 : decode cX11_takes 92 = .ok (.istore_n 3, 1) := by decide +kernel
theorem dX11_takes_93 : decode cX11_takes 93 = .ok (.iinc 5 1, 3) := by decide +kernel
theorem dX11_takes_96 : decode cX11_takes 96 = .ok (.goto (-59), 3) := by decide +kernel
theorem dX11_takes_99 : decode cX11_takes 99 = .ok (.iload_n 2, 1) := by decide +kernel
theorem dX11_takes_100 : decode cX11_takes 100 = .ok (.iload_n 3, 1) := by decide +kernel
theorem dX11_takes_101 : decode cX11_takes 101 = .ok (.bipush (-4), 2) := by decide +kernel
theorem dX11_takes_103 : decode cX11_takes 103 = .ok (.if_icmp .ne 7, 3) := by decide +kernel
theorem dX11_takes_106 : decode cX11_takes 106 = .ok (.iconst 0, 1) := by decide +kernel
theorem dX11_takes_107 : decode cX11_takes 107 = .ok (.goto 6, 3) := by decide +kernel
theorem dX11_takes_110 : decode cX11_takes 110 = .ok (.iconst 1, 1) := by decide +kernel
theorem dX11_takes_111 : decode cX11_takes 111 = .ok (.iload_n 3, 1) := by decide +kernel
theorem dX11_takes_112 : decode cX11_takes 112 = .ok (.ishl, 1) := by decide +kernel
theorem dX11_takes_113 : decode cX11_takes 113 = .ok (.ior, 1) := by decide +kernel
theorem dX11_takes_114 : decode cX11_takes 114 = .ok (.istore_n 2, 1) := by decide +kernel
theorem dX11_takes_115 : decode cX11_takes 115 = .ok (.iinc 4 1, 3) := by decide +kernel
theorem dX11_takes_118 : decode cX11_takes 118 = .ok (.goto (-100), 3) := by decide +kernel
theorem dX11_takes_121 : decode cX11_takes 121 = .ok (.iload_n 3, 1) := by decide +kernel
theorem dX11_takes_122 : decode cX11_takes 122 = .ok (.ireturn, 1) := by decide +kernel
theorem dX11_morning_0 : decode cX11_morning 0 = .ok (.iload_n 1, 1) := by decide +kernel
theorem dX11_morning_1 : decode cX11_morning 1 = .ok (.i2l, 1) := by decide +kernel
theorem dX11_morning_2 : decode cX11_morning 2 = .ok (.lconst 0, 1) := by decide +kernel
theorem dX11_morning_3 : decode cX11_morning 3 = .ok (.ldc2_w 288, 3) := by decide +kernel
theorem dX11_morning_6 : decode cX11_morning 6 = .ok (.invokestatic 78, 3) := by decide +kernel
theorem dX11_morning_9 : decode cX11_morning 9 = .ok (.ifCond .ne 7, 3) := by decide +kernel
theorem dX11_morning_12 : decode cX11_morning 12 = .ok (.ldc2_w 270, 3) := by decide +kernel
theorem dX11_morning_15 : decode cX11_morning 15 = .ok (.lreturn, 1) := by decide +kernel
theorem dX11_morning_16 : decode cX11_morning 16 = .ok (.lconst 0, 1) := by decide +kernel
theorem dX11_morning_17 : decode cX11_morning 17 = .ok (.lstore_n 2, 1) := by decide +kernel
theorem dX11_morning_18 : decode cX11_morning 18 = .ok (.lconst 1, 1) := by decide +kernel
theorem dX11_morning_19 : decode cX11_morning 19 = .ok (.lstore 4, 2) := by decide +kernel
theorem dX11_morning_21 : decode cX11_morning 21 = .ok (.lconst 1, 1) := by decide +kernel
theorem dX11_morning_22 : decode cX11_morning 22 = .ok (.lstore 6, 2) := by decide +kernel
theorem dX11_morning_24 : decode cX11_morning 24 = .ok (.iconst 0, 1) := by decide +kernel
theorem dX11_morning_25 : decode cX11_morning 25 = .ok (.istore 8, 2) := by decide +kernel
theorem dX11_morning_27 : decode cX11_morning 27 = .ok (.iload 8, 2) := by decide +kernel
theorem dX11_morning_29 : decode cX11_morning 29 = .ok (.aload_n 0, 1) := by decide +kernel
theorem dX11_morning_30 : decode cX11_morning 30 = .ok (.getfield 7, 3) := by decide +kernel
theorem dX11_morning_33 : decode cX11_morning 33 = .ok (.bipush 46, 2) := by decide +kernel
theorem dX11_morning_35 : decode cX11_morning 35 = .ok (.iaload, 1) := by decide +kernel
theorem dX11_morning_36 : decode cX11_morning 36 = .ok (.if_icmp .ge 72, 3) := by decide +kernel
theorem dX11_morning_39 : decode cX11_morning 39 = .ok (.aload_n 0, 1) := by decide +kernel
theorem dX11_morning_40 : decode cX11_morning 40 = .ok (.getfield 7, 3) := by decide +kernel
theorem dX11_morning_43 : decode cX11_morning 43 = .ok (.bipush 47, 2) := by decide +kernel
theorem dX11_morning_45 : decode cX11_morning 45 = .ok (.bipush 8, 2) := by decide +kernel
theorem dX11_morning_47 : decode cX11_morning 47 = .ok (.iload 8, 2) := by decide +kernel
theorem dX11_morning_49 : decode cX11_morning 49 = .ok (.imul, 1) := by decide +kernel
theorem dX11_morning_50 : decode cX11_morning 50 = .ok (.iadd, 1) := by decide +kernel
theorem dX11_morning_51 : decode cX11_morning 51 = .ok (.iconst 2, 1) := by decide +kernel
theorem dX11_morning_52 : decode cX11_morning 52 = .ok (.iadd, 1) := by decide +kernel
theorem dX11_morning_53 : decode cX11_morning 53 = .ok (.iaload, 1) := by decide +kernel
theorem dX11_morning_54 : decode cX11_morning 54 = .ok (.istore 9, 2) := by decide +kernel
theorem dX11_morning_56 : decode cX11_morning 56 = .ok (.iload 9, 2) := by decide +kernel
theorem dX11_morning_58 : decode cX11_morning 58 = .ok (.bipush (-4), 2) := by decide +kernel
theorem dX11_morning_60 : decode cX11_morning 60 = .ok (.if_icmp .ne 7, 3) := by decide +kernel
theorem dX11_morning_63 : decode cX11_morning 63 = .ok (.iconst 0, 1) := by decide +kernel
theorem dX11_morning_64 : decode cX11_morning 64 = .ok (.goto 11, 3) := by decide +kernel
theorem dX11_morning_67 : decode cX11_morning 67 = .ok (.iconst 1, 1) := by decide +kernel
theorem dX11_morning_68 : decode cX11_morning 68 = .ok (.iconst 2, 1) := by decide +kernel
theorem dX11_morning_69 : decode cX11_morning 69 = .ok (.iload 9, 2) := by decide +kernel
theorem dX11_morning_71 : decode cX11_morning 71 = .ok (.iconst 3, 1) := by decide +kernel
theorem dX11_morning_72 : decode cX11_morning 72 = .ok (.irem, 1) := by decide +kernel
theorem dX11_morning_73 : decode cX11_morning 73 = .ok (.imul, 1) := by decide +kernel
theorem dX11_morning_74 : decode cX11_morning 74 = .ok (.iadd, 1) := by decide +kernel
theorem dX11_morning_75 : decode cX11_morning 75 = .ok (.istore 10, 2) := by decide +kernel
theorem dX11_morning_77 : decode cX11_morning 77 = .ok (.lload_n 2, 1) := by decide +kernel
theorem dX11_morning_78 : decode cX11_morning 78 = .ok (.iload 10, 2) := by decide +kernel
theorem dX11_morning_80 : decode cX11_morning 80 = .ok (.i2l, 1) := by decide +kernel
theorem dX11_morning_81 : decode cX11_morning 81 = .ok (.ladd, 1) := by decide +kernel
theorem dX11_morning_82 : decode cX11_morning 82 = .ok (.lstore_n 2, 1) := by decide +kernel
theorem dX11_morning_83 : decode cX11_morning 83 = .ok (.lload 4, 2) := by decide +kernel
theorem dX11_morning_85 : decode cX11_morning 85 = .ok (.bipush 10, 2) := by decide +kernel
theorem dX11_morning_87 : decode cX11_morning 87 = .ok (.iload 10, 2) := by decide +kernel
theorem dX11_morning_89 : decode cX11_morning 89 = .ok (.isub, 1) := by decide +kernel
theorem dX11_morning_90 : decode cX11_morning 90 = .ok (.i2l, 1) := by decide +kernel
theorem dX11_morning_91 : decode cX11_morning 91 = .ok (.lmul, 1) := by decide +kernel
theorem dX11_morning_92 : decode cX11_morning 92 = .ok (.lstore 4, 2) := by decide +kernel
theorem dX11_morning_94 : decode cX11_morning 94 = .ok (.lload 6, 2) := by decide +kernel
theorem dX11_morning_96 : decode cX11_morning 96 = .ok (.ldc2_w 290, 3) := by decide +kernel
theorem dX11_morning_99 : decode cX11_morning 99 = .ok (.lmul, 1) := by decide +kernel
theorem dX11_morning_100 : decode cX11_morning 100 = .ok (.lstore 6, 2) := by decide +kernel
theorem dX11_morning_102 : decode cX11_morning 102 = .ok (.iinc 8 1, 3) := by decide +kernel
theorem dX11_morning_105 : decode cX11_morning 105 = .ok (.goto (-78), 3) := by decide +kernel
theorem dX11_morning_108 : decode cX11_morning 108 = .ok (.iload_n 1, 1) := by decide +kernel
theorem dX11_morning_109 : decode cX11_morning 109 = .ok (.iconst 2, 1) := by decide +kernel
theorem dX11_morning_110 : decode cX11_morning 110 = .ok (.if_icmp .ge 22, 3) := by decide +kernel
theorem dX11_morning_113 : decode cX11_morning 113 = .ok (.lload_n 2, 1) := by decide +kernel
theorem dX11_morning_114 : decode cX11_morning 114 = .ok (.ldc2_w 290, 3) := by decide +kernel
theorem dX11_morning_117 : decode cX11_morning 117 = .ok (.iload_n 1, 1) := by decide +kernel
theorem dX11_morning_118 : decode cX11_morning 118 = .ok (.ifCond .ne 7, 3) := by decide +kernel
theorem dX11_morning_121 : decode cX11_morning 121 = .ok (.iconst 1, 1) := by decide +kernel
theorem dX11_morning_122 : decode cX11_morning 122 = .ok (.goto 4, 3) := by decide +kernel
theorem dX11_morning_125 : decode cX11_morning 125 = .ok (.iconst 0, 1) := by decide +kernel
theorem dX11_morning_126 : decode cX11_morning 126 = .ok (.invokestatic 279, 3) := by decide +kernel
theorem dX11_morning_129 : decode cX11_morning 129 = .ok (.goto 20, 3) := by decide +kernel
theorem dX11_morning_132 : decode cX11_morning 132 = .ok (.lload 4, 2) := by decide +kernel
theorem dX11_morning_134 : decode cX11_morning 134 = .ok (.lload 6, 2) := by decide +kernel
theorem dX11_morning_136 : decode cX11_morning 136 = .ok (.iload_n 1, 1) := by decide +kernel
theorem dX11_morning_137 : decode cX11_morning 137 = .ok (.iconst 2, 1) := by decide +kernel
theorem dX11_morning_138 : decode cX11_morning 138 = .ok (.if_icmp .ne 7, 3) := by decide +kernel
theorem dX11_morning_141 : decode cX11_morning 141 = .ok (.iconst 1, 1) := by decide +kernel
theorem dX11_morning_142 : decode cX11_morning 142 = .ok (.goto 4, 3) := by decide +kernel
theorem dX11_morning_145 : decode cX11_morning 145 = .ok (.iconst 0, 1) := by decide +kernel
theorem dX11_morning_146 : decode cX11_morning 146 = .ok (.invokestatic 279, 3) := by decide +kernel
theorem dX11_morning_149 : decode cX11_morning 149 = .ok (.lreturn, 1) := by decide +kernel
theorem dX11_drift_0 : decode cX11_drift 0 = .ok (.iload_n 2, 1) := by decide +kernel
theorem dX11_drift_1 : decode cX11_drift 1 = .ok (.i2l, 1) := by decide +kernel
theorem dX11_drift_2 : decode cX11_drift 2 = .ok (.lconst 1, 1) := by decide +kernel
theorem dX11_drift_3 : decode cX11_drift 3 = .ok (.ldc2_w 236, 3) := by decide +kernel
theorem dX11_drift_6 : decode cX11_drift 6 = .ok (.invokestatic 78, 3) := by decide +kernel
theorem dX11_drift_9 : decode cX11_drift 9 = .ok (.ifCond .eq 13, 3) := by decide +kernel
theorem dX11_drift_12 : decode cX11_drift 12 = .ok (.iload_n 3, 1) := by decide +kernel
theorem dX11_drift_13 : decode cX11_drift 13 = .ok (.i2l, 1) := by decide +kernel
theorem dX11_drift_14 : decode cX11_drift 14 = .ok (.lconst 0, 1) := by decide +kernel
theorem dX11_drift_15 : decode cX11_drift 15 = .ok (.lconst 1, 1) := by decide +kernel
theorem dX11_drift_16 : decode cX11_drift 16 = .ok (.invokestatic 78, 3) := by decide +kernel
theorem dX11_drift_19 : decode cX11_drift 19 = .ok (.ifCond .ne 5, 3) := by decide +kernel
theorem dX11_drift_22 : decode cX11_drift 22 = .ok (.iconst (-1), 1) := by decide +kernel
theorem dX11_drift_23 : decode cX11_drift 23 = .ok (.ireturn, 1) := by decide +kernel
theorem dX11_drift_24 : decode cX11_drift 24 = .ok (.aload_n 0, 1) := by decide +kernel
theorem dX11_drift_25 : decode cX11_drift 25 = .ok (.getfield 7, 3) := by decide +kernel
theorem dX11_drift_28 : decode cX11_drift 28 = .ok (.bipush 46, 2) := by decide +kernel
theorem dX11_drift_30 : decode cX11_drift 30 = .ok (.iaload, 1) := by decide +kernel
theorem dX11_drift_31 : decode cX11_drift 31 = .ok (.ifCond .ne 6, 3) := by decide +kernel
theorem dX11_drift_34 : decode cX11_drift 34 = .ok (.bipush (-2), 2) := by decide +kernel
theorem dX11_drift_36 : decode cX11_drift 36 = .ok (.ireturn, 1) := by decide +kernel
theorem dX11_drift_37 : decode cX11_drift 37 = .ok (.aload_n 0, 1) := by decide +kernel
theorem dX11_drift_38 : decode cX11_drift 38 = .ok (.invokevirtual 222, 3) := by decide +kernel
theorem dX11_drift_41 : decode cX11_drift 41 = .ok (.iload_n 1, 1) := by decide +kernel
theorem dX11_drift_42 : decode cX11_drift 42 = .ok (.istore 4, 2) := by decide +kernel
theorem dX11_drift_44 : decode cX11_drift 44 = .ok (.iconst 0, 1) := by decide +kernel
theorem dX11_drift_45 : decode cX11_drift 45 = .ok (.istore 5, 2) := by decide +kernel
theorem dX11_drift_47 : decode cX11_drift 47 = .ok (.iload 5, 2) := by decide +kernel
theorem dX11_drift_49 : decode cX11_drift 49 = .ok (.iload_n 2, 1) := by decide +kernel
theorem dX11_drift_50 : decode cX11_drift 50 = .ok (.if_icmp .ge 119, 3) := by decide +kernel
theorem dX11_drift_53 : decode cX11_drift 53 = .ok (.iload 4, 2) := by decide +kernel
theorem dX11_drift_55 : decode cX11_drift 55 = .ok (.ldc_w 292, 3) := by decide +kernel
theorem dX11_drift_58 : decode cX11_drift 58 = .ok (.imul, 1) := by decide +kernel
theorem dX11_drift_59 : decode cX11_drift 59 = .ok (.sipush 12345, 3) := by decide +kernel
theorem dX11_drift_62 : decode cX11_drift 62 = .ok (.iadd, 1) := by decide +kernel
theorem dX11_drift_63 : decode cX11_drift 63 = .ok (.istore 4, 2) := by decide +kernel
theorem dX11_drift_65 : decode cX11_drift 65 = .ok (.iload 4, 2) := by decide +kernel
theorem dX11_drift_67 : decode cX11_drift 67 = .ok (.bipush 16, 2) := by decide +kernel
theorem dX11_drift_69 : decode cX11_drift 69 = .ok (.ishr, 1) := by decide +kernel
theorem dX11_drift_70 : decode cX11_drift 70 = .ok (.sipush 32767, 3) := by decide +kernel
theorem dX11_drift_73 : decode cX11_drift 73 = .ok (.iand, 1) := by decide +kernel
theorem dX11_drift_74 : decode cX11_drift 74 = .ok (.aload_n 0, 1) := by decide +kernel
theorem dX11_drift_75 : decode cX11_drift 75 = .ok (.getfield 7, 3) := by decide +kernel
theorem dX11_drift_78 : decode cX11_drift 78 = .ok (.bipush 46, 2) := by decide +kernel
theorem dX11_drift_80 : decode cX11_drift 80 = .ok (.iaload, 1) := by decide +kernel
theorem dX11_drift_81 : decode cX11_drift 81 = .ok (.irem, 1) := by decide +kernel
theorem dX11_drift_82 : decode cX11_drift 82 = .ok (.istore 6, 2) := by decide +kernel
theorem dX11_drift_84 : decode cX11_drift 84 = .ok (.iload 4, 2) := by decide +kernel
theorem dX11_drift_86 : decode cX11_drift 86 = .ok (.ldc_w 292, 3) := by decide +kernel
theorem dX11_drift_89 : decode cX11_drift 89 = .ok (.imul, 1) := by decide +kernel
theorem dX11_drift_90 : decode cX11_drift 90 = .ok (.sipush 12345, 3) := by decide +kernel
theorem dX11_drift_93 : decode cX11_drift 93 = .ok (.iadd, 1) := by decide +kernel
theorem dX11_drift_94 : decode cX11_drift 94 = .ok (.istore 4, 2) := by decide +kernel
theorem dX11_drift_96 : decode cX11_drift 96 = .ok (.iload 4, 2) := by decide +kernel
theorem dX11_drift_98 : decode cX11_drift 98 = .ok (.bipush 16, 2) := by decide +kernel
theorem dX11_drift_100 : decode cX11_drift 100 = .ok (.ishr, 1) := by decide +kernel
theorem dX11_drift_101 : decode cX11_drift 101 = .ok (.sipush 32767, 3) := by decide +kernel
theorem dX11_drift_104 : decode cX11_drift 104 = .ok (.iand, 1) := by decide +kernel
theorem dX11_drift_105 : decode cX11_drift 105 = .ok (.iconst 3, 1) := by decide +kernel
theorem dX11_drift_106 : decode cX11_drift 106 = .ok (.irem, 1) := by decide +kernel
theorem dX11_drift_107 : decode cX11_drift 107 = .ok (.istore 7, 2) := by decide +kernel
theorem dX11_drift_109 : decode cX11_drift 109 = .ok (.iload 7, 2) := by decide +kernel
theorem dX11_drift_111 : decode cX11_drift 111 = .ok (.ifCond .ne 24, 3) := by decide +kernel
theorem dX11_drift_114 : decode cX11_drift 114 = .ok (.aload_n 0, 1) := by decide +kernel
theorem dX11_drift_115 : decode cX11_drift 115 = .ok (.iload 6, 2) := by decide +kernel
theorem dX11_drift_117 : decode cX11_drift 117 = .ok (.bipush 6, 2) := by decide +kernel
theorem dX11_drift_119 : decode cX11_drift 119 = .ok (.iconst 1, 1) := by decide +kernel
theorem dX11_drift_120 : decode cX11_drift 120 = .ok (.aload_n 0, 1) := by decide +kernel
theorem dX11_drift_121 : decode cX11_drift 121 = .ok (.iload 6, 2) := by decide +kernel
theorem dX11_drift_123 : decode cX11_drift 123 = .ok (.bipush 6, 2) := by decide +kernel
theorem dX11_drift_125 : decode cX11_drift 125 = .ok (.invokevirtual 173, 3) := by decide +kernel
theorem dX11_drift_128 : decode cX11_drift 128 = .ok (.isub, 1) := by decide +kernel
theorem dX11_drift_129 : decode cX11_drift 129 = .ok (.invokevirtual 179, 3) := by decide +kernel
theorem dX11_drift_132 : decode cX11_drift 132 = .ok (.goto 27, 3) := by decide +kernel
theorem dX11_drift_135 : decode cX11_drift 135 = .ok (.iload 7, 2) := by decide +kernel
theorem dX11_drift_137 : decode cX11_drift 137 = .ok (.iconst 1, 1) := by decide +kernel
theorem dX11_drift_138 : decode cX11_drift 138 = .ok (.if_icmp .ne 21, 3) := by decide +kernel
theorem dX11_drift_141 : decode cX11_drift 141 = .ok (.aload_n 0, 1) := by decide +kernel
theorem dX11_drift_142 : decode cX11_drift 142 = .ok (.iload 6, 2) := by decide +kernel
theorem dX11_drift_144 : decode cX11_drift 144 = .ok (.invokevirtual 199, 3) := by decide +kernel
theorem dX11_drift_147 : decode cX11_drift 147 = .ok (.ifCond .eq 12, 3) := by decide +kernel
theorem dX11_drift_150 : decode cX11_drift 150 = .ok (.aload_n 0, 1) := by decide +kernel
theorem dX11_drift_151 : decode cX11_drift 151 = .ok (.iload 6, 2) := by decide +kernel
theorem dX11_drift_153 : decode cX11_drift 153 = .ok (.iconst 2, 1) := by decide +kernel
theorem dX11_drift_154 : decode cX11_drift 154 = .ok (.bipush (-4), 2) := by decide +kernel
theorem dX11_drift_156 : decode cX11_drift 156 = .ok (.invokevirtual 179, 3) := by decide +kernel
theorem dX11_drift_159 : decode cX11_drift 159 = .ok (.aload_n 0, 1) := by decide +kernel
theorem dX11_drift_160 : decode cX11_drift 160 = .ok (.invokevirtual 196, 3) := by decide +kernel
theorem dX11_drift_163 : decode cX11_drift 163 = .ok (.iinc 5 1, 3) := by decide +kernel
theorem dX11_drift_166 : decode cX11_drift 166 = .ok (.goto (-119), 3) := by decide +kernel
theorem dX11_drift_169 : decode cX11_drift 169 = .ok (.iload_n 3, 1) := by decide +kernel
theorem dX11_drift_170 : decode cX11_drift 170 = .ok (.ifCond .ne 10, 3) := by decide +kernel
theorem dX11_drift_173 : decode cX11_drift 173 = .ok (.aload_n 0, 1) := by decide +kernel
theorem dX11_drift_174 : decode cX11_drift 174 = .ok (.invokevirtual 241, 3) := by decide +kernel
theorem dX11_drift_177 : decode cX11_drift 177 = .ok (.goto 7, 3) := by decide +kernel
theorem dX11_drift_180 : decode cX11_drift 180 = .ok (.aload_n 0, 1) := by decide +kernel
theorem dX11_drift_181 : decode cX11_drift 181 = .ok (.invokevirtual 293, 3) := by decide +kernel
theorem dX11_drift_184 : decode cX11_drift 184 = .ok (.ireturn, 1) := by decide +kernel
theorem dX11_copies_0 : decode cX11_copies 0 = .ok (.iconst 0, 1) := by decide +kernel
theorem dX11_copies_1 : decode cX11_copies 1 = .ok (.istore_n 3, 1) := by decide +kernel
theorem dX11_copies_2 : decode cX11_copies 2 = .ok (.iload_n 3, 1) := by decide +kernel
theorem dX11_copies_3 : decode cX11_copies 3 = .ok (.bipush 115, 2) := by decide +kernel
theorem dX11_copies_5 : decode cX11_copies 5 = .ok (.if_icmp .ge 25, 3) := by decide +kernel
theorem dX11_copies_8 : decode cX11_copies 8 = .ok (.aload_n 0, 1) := by decide +kernel
theorem dX11_copies_9 : decode cX11_copies 9 = .ok (.getfield 7, 3) := by decide +kernel
theorem dX11_copies_12 : decode cX11_copies 12 = .ok (.iload_n 1, 1) := by decide +kernel
theorem dX11_copies_13 : decode cX11_copies 13 = .ok (.iload_n 3, 1) := by decide +kernel
theorem dX11_copies_14 : decode cX11_copies 14 = .ok (.iadd, 1) := by decide +kernel
theorem dX11_copies_15 : decode cX11_copies 15 = .ok (.aload_n 0, 1) := by decide +kernel
theorem dX11_copies_16 : decode cX11_copies 16 = .ok (.getfield 7, 3) := by decide +kernel
theorem dX11_copies_19 : decode cX11_copies 19 = .ok (.iload_n 2, 1) := by decide +kernel
theorem dX11_copies_20 : decode cX11_copies 20 = .ok (.iload_n 3, 1) := by decide +kernel
theorem dX11_copies_21 : decode cX11_copies 21 = .ok (.iadd, 1) := by decide +kernel
theorem dX11_copies_22 : decode cX11_copies 22 = .ok (.iaload, 1) := by decide +kernel
theorem dX11_copies_23 : decode cX11_copies 23 = .ok (.iastore, 1) := by decide +kernel
theorem dX11_copies_24 : decode cX11_copies 24 = .ok (.iinc 3 1, 3) := by decide +kernel
theorem dX11_copies_27 : decode cX11_copies 27 = .ok (.goto (-25), 3) := by decide +kernel
theorem dX11_copies_30 : decode cX11_copies 30 = .ok (.return_, 1) := by decide +kernel
theorem dX11_keep_0 : decode cX11_keep 0 = .ok (.iload_n 1, 1) := by decide +kernel
theorem dX11_keep_1 : decode cX11_keep 1 = .ok (.i2l, 1) := by decide +kernel
theorem dX11_keep_2 : decode cX11_keep 2 = .ok (.lconst 0, 1) := by decide +kernel
theorem dX11_keep_3 : decode cX11_keep 3 = .ok (.lconst 1, 1) := by decide +kernel
theorem dX11_keep_4 : decode cX11_keep 4 = .ok (.invokestatic 78, 3) := by decide +kernel
theorem dX11_keep_7 : decode cX11_keep 7 = .ok (.ifCond .ne 5, 3) := by decide +kernel
theorem dX11_keep_10 : decode cX11_keep 10 = .ok (.iconst (-1), 1) := by decide +kernel
theorem dX11_keep_11 : decode cX11_keep 11 = .ok (.ireturn, 1) := by decide +kernel
theorem dX11_keep_12 : decode cX11_keep 12 = .ok (.aload_n 0, 1) := by decide +kernel
theorem dX11_keep_13 : decode cX11_keep 13 = .ok (.getfield 16, 3) := by decide +kernel
theorem dX11_keep_16 : decode cX11_keep 16 = .ok (.iload_n 1, 1) := by decide +kernel
theorem dX11_keep_17 : decode cX11_keep 17 = .ok (.baload, 1) := by decide +kernel
theorem dX11_keep_18 : decode cX11_keep 18 = .ok (.invokestatic 208, 3) := by decide +kernel
theorem dX11_keep_21 : decode cX11_keep 21 = .ok (.istore_n 2, 1) := by decide +kernel
theorem dX11_keep_22 : decode cX11_keep 22 = .ok (.aload_n 0, 1) := by decide +kernel
theorem dX11_keep_23 : decode cX11_keep 23 = .ok (.getfield 16, 3) := by decide +kernel
theorem dX11_keep_26 : decode cX11_keep 26 = .ok (.iload_n 1, 1) := by decide +kernel
theorem dX11_keep_27 : decode cX11_keep 27 = .ok (.iconst 1, 1) := by decide +kernel
theorem dX11_keep_28 : decode cX11_keep 28 = .ok (.bastore, 1) := by decide +kernel
theorem dX11_keep_29 : decode cX11_keep 29 = .ok (.aload_n 0, 1) := by decide +kernel
theorem dX11_keep_30 : decode cX11_keep 30 = .ok (.bipush 115, 2) := by decide +kernel
theorem dX11_keep_32 : decode cX11_keep 32 = .ok (.iload_n 1, 1) := by decide +kernel
theorem dX11_keep_33 : decode cX11_keep 33 = .ok (.iconst 1, 1) := by decide +kernel
theorem dX11_keep_34 : decode cX11_keep 34 = .ok (.iadd, 1) := by decide +kernel
theorem dX11_keep_35 : decode cX11_keep 35 = .ok (.imul, 1) := by decide +kernel
theorem dX11_keep_36 : decode cX11_keep 36 = .ok (.iconst 0, 1) := by decide +kernel
theorem dX11_keep_37 : decode cX11_keep 37 = .ok (.invokevirtual 296, 3) := by decide +kernel
theorem dX11_keep_40 : decode cX11_keep 40 = .ok (.iload_n 2, 1) := by decide +kernel
theorem dX11_keep_41 : decode cX11_keep 41 = .ok (.ireturn, 1) := by decide +kernel
theorem dX11_back_0 : decode cX11_back 0 = .ok (.iload_n 1, 1) := by decide +kernel
theorem dX11_back_1 : decode cX11_back 1 = .ok (.i2l, 1) := by decide +kernel
theorem dX11_back_2 : decode cX11_back 2 = .ok (.lconst 0, 1) := by decide +kernel
theorem dX11_back_3 : decode cX11_back 3 = .ok (.lconst 1, 1) := by decide +kernel
theorem dX11_back_4 : decode cX11_back 4 = .ok (.invokestatic 78, 3) := by decide +kernel
theorem dX11_back_7 : decode cX11_back 7 = .ok (.ifCond .ne 5, 3) := by decide +kernel
theorem dX11_back_10 : decode cX11_back 10 = .ok (.iconst (-1), 1) := by decide +kernel
theorem dX11_back_11 : decode cX11_back 11 = .ok (.ireturn, 1) := by decide +kernel
theorem dX11_back_12 : decode cX11_back 12 = .ok (.aload_n 0, 1) := by decide +kernel
theorem dX11_back_13 : decode cX11_back 13 = .ok (.getfield 16, 3) := by decide +kernel
theorem dX11_back_16 : decode cX11_back 16 = .ok (.iload_n 1, 1) := by decide +kernel
theorem dX11_back_17 : decode cX11_back 17 = .ok (.baload, 1) := by decide +kernel
theorem dX11_back_18 : decode cX11_back 18 = .ok (.ifCond .ne 6, 3) := by decide +kernel
theorem dX11_back_21 : decode cX11_back 21 = .ok (.bipush (-2), 2) := by decide +kernel
theorem dX11_back_23 : decode cX11_back 23 = .ok (.ireturn, 1) := by decide +kernel
theorem dX11_back_24 : decode cX11_back 24 = .ok (.aload_n 0, 1) := by decide +kernel
theorem dX11_back_25 : decode cX11_back 25 = .ok (.iconst 0, 1) := by decide +kernel
theorem dX11_back_26 : decode cX11_back 26 = .ok (.bipush 115, 2) := by decide +kernel
theorem dX11_back_28 : decode cX11_back 28 = .ok (.iload_n 1, 1) := by decide +kernel
theorem dX11_back_29 : decode cX11_back 29 = .ok (.iconst 1, 1) := by decide +kernel
theorem dX11_back_30 : decode cX11_back 30 = .ok (.iadd, 1) := by decide +kernel
theorem dX11_back_31 : decode cX11_back 31 = .ok (.imul, 1) := by decide +kernel
theorem dX11_back_32 : decode cX11_back 32 = .ok (.invokevirtual 296, 3) := by decide +kernel
theorem dX11_back_35 : decode cX11_back 35 = .ok (.aload_n 0, 1) := by decide +kernel
theorem dX11_back_36 : decode cX11_back 36 = .ok (.getfield 7, 3) := by decide +kernel
theorem dX11_back_39 : decode cX11_back 39 = .ok (.bipush 45, 2) := by decide +kernel
theorem dX11_back_41 : decode cX11_back 41 = .ok (.iaload, 1) := by decide +kernel
theorem dX11_back_42 : decode cX11_back 42 = .ok (.ireturn, 1) := by decide +kernel
theorem dX11_isSheet_0 : decode cX11_isSheet 0 = .ok (.iload_n 0, 1) := by decide +kernel
theorem dX11_isSheet_1 : decode cX11_isSheet 1 = .ok (.i2l, 1) := by decide +kernel
theorem dX11_isSheet_2 : decode cX11_isSheet 2 = .ok (.lconst 0, 1) := by decide +kernel
theorem dX11_isSheet_3 : decode cX11_isSheet 3 = .ok (.ldc2_w 288, 3) := by decide +kernel
theorem dX11_isSheet_6 : decode cX11_isSheet 6 = .ok (.invokestatic 78, 3) := by decide +kernel
theorem dX11_isSheet_9 : decode cX11_isSheet 9 = .ok (.ifCond .eq 19, 3) := by decide +kernel
theorem dX11_isSheet_12 : decode cX11_isSheet 12 = .ok (.iload_n 1, 1) := by decide +kernel
theorem dX11_isSheet_13 : decode cX11_isSheet 13 = .ok (.i2l, 1) := by decide +kernel
theorem dX11_isSheet_14 : decode cX11_isSheet 14 = .ok (.lconst 0, 1) := by decide +kernel
theorem dX11_isSheet_15 : decode cX11_isSheet 15 = .ok (.ldc2_w 215, 3) := by decide +kernel
theorem dX11_isSheet_18 : decode cX11_isSheet 18 = .ok (.invokestatic 78, 3) := by decide +kernel
theorem dX11_isSheet_21 : decode cX11_isSheet 21 = .ok (.ifCond .eq 7, 3) := by decide +kernel
theorem dX11_isSheet_24 : decode cX11_isSheet 24 = .ok (.iconst 1, 1) := by decide +kernel
theorem dX11_isSheet_25 : decode cX11_isSheet 25 = .ok (.goto 4, 3) := by decide +kernel
theorem dX11_isSheet_28 : decode cX11_isSheet 28 = .ok (.iconst 0, 1) := by decide +kernel
theorem dX11_isSheet_29 : decode cX11_isSheet 29 = .ok (.ireturn, 1) := by decide +kernel
theorem dX11_sheet_0 : decode cX11_sheet 0 = .ok (.iload_n 1, 1) := by decide +kernel
theorem dX11_sheet_1 : decode cX11_sheet 1 = .ok (.iload_n 2, 1) := by decide +kernel
theorem dX11_sheet_2 : decode cX11_sheet 2 = .ok (.invokestatic 299, 3) := by decide +kernel
theorem dX11_sheet_5 : decode cX11_sheet 5 = .ok (.ifCond .eq 9, 3) := by decide +kernel
theorem dX11_sheet_8 : decode cX11_sheet 8 = .ok (.iload_n 3, 1) := by decide +kernel
theorem dX11_sheet_9 : decode cX11_sheet 9 = .ok (.bipush 40, 2) := by decide +kernel
theorem dX11_sheet_11 : decode cX11_sheet 11 = .ok (.if_icmp .le 5, 3) := by decide +kernel
theorem dX11_sheet_14 : decode cX11_sheet 14 = .ok (.iconst (-1), 1) := by decide +kernel
theorem dX11_sheet_15 : decode cX11_sheet 15 = .ok (.ireturn, 1) := by decide +kernel
theorem dX11_sheet_16 : decode cX11_sheet 16 = .ok (.iload_n 3, 1) := by decide +kernel
theorem dX11_sheet_17 : decode cX11_sheet 17 = .ok (.ifCond .ge 6, 3) := by decide +kernel
theorem dX11_sheet_20 : decode cX11_sheet 20 = .ok (.bipush (-14), 2) := by decide +kernel
theorem dX11_sheet_22 : decode cX11_sheet 22 = .ok (.ireturn, 1) := by decide +kernel
theorem dX11_sheet_23 : decode cX11_sheet 23 = .ok (.aload_n 0, 1) := by decide +kernel
theorem dX11_sheet_24 : decode cX11_sheet 24 = .ok (.getfield 35, 3) := by decide +kernel
theorem dX11_sheet_27 : decode cX11_sheet 27 = .ok (.iload_n 1, 1) := by decide +kernel
theorem dX11_sheet_28 : decode cX11_sheet 28 = .ok (.iload_n 2, 1) := by decide +kernel
theorem dX11_sheet_29 : decode cX11_sheet 29 = .ok (.iastore, 1) := by decide +kernel
theorem dX11_sheet_30 : decode cX11_sheet 30 = .ok (.aload_n 0, 1) := by decide +kernel
theorem dX11_sheet_31 : decode cX11_sheet 31 = .ok (.getfield 38, 3) := by decide +kernel
theorem dX11_sheet_34 : decode cX11_sheet 34 = .ok (.iload_n 1, 1) := by decide +kernel
theorem dX11_sheet_35 : decode cX11_sheet 35 = .ok (.iload_n 3, 1) := by decide +kernel
theorem dX11_sheet_36 : decode cX11_sheet 36 = .ok (.iastore, 1) := by decide +kernel
theorem dX11_sheet_37 : decode cX11_sheet 37 = .ok (.iconst 0, 1) := by decide +kernel
theorem dX11_sheet_38 : decode cX11_sheet 38 = .ok (.istore 4, 2) := by decide +kernel
theorem dX11_sheet_40 : decode cX11_sheet 40 = .ok (.iload 4, 2) := by decide +kernel
theorem dX11_sheet_42 : decode cX11_sheet 42 = .ok (.bipush 40, 2) := by decide +kernel
theorem dX11_sheet_44 : decode cX11_sheet 44 = .ok (.if_icmp .ge 22, 3) := by decide +kernel
theorem dX11_sheet_47 : decode cX11_sheet 47 = .ok (.aload_n 0, 1) := by decide +kernel
theorem dX11_sheet_48 : decode cX11_sheet 48 = .ok (.getfield 41, 3) := by decide +kernel
theorem dX11_sheet_51 : decode cX11_sheet 51 = .ok (.bipush 40, 2) := by decide +kernel
theorem dX11_sheet_53 : decode cX11_sheet 53 = .ok (.iload_n 1, 1) := by decide +kernel
theorem dX11_sheet_54 : decode cX11_sheet 54 = .ok (.imul, 1) := by decide +kernel
theorem dX11_sheet_55 : decode cX11_sheet 55 = .ok (.iload 4, 2) := by decide +kernel
theorem dX11_sheet_57 : decode cX11_sheet 57 = .ok (.iadd, 1) := by decide +kernel
theorem dX11_sheet_58 : decode cX11_sheet 58 = .ok (.iconst 0, 1) := by decide +kernel
theorem dX11_sheet_59 : decode cX11_sheet 59 = .ok (.iastore, 1) := by decide +kernel
theorem dX11_sheet_60 : decode cX11_sheet 60 = .ok (.iinc 4 1, 3) := by decide +kernel
theorem dX11_sheet_63 : decode cX11_sheet 63 = .ok (.goto (-23), 3) := by decide +kernel
theorem dX11_sheet_66 : decode cX11_sheet 66 = .ok (.iconst 1, 1) := by decide +kernel
theorem dX11_sheet_67 : decode cX11_sheet 67 = .ok (.ireturn, 1) := by decide +kernel
theorem dX11_lay_0 : decode cX11_lay 0 = .ok (.iload_n 1, 1) := by decide +kernel
theorem dX11_lay_1 : decode cX11_lay 1 = .ok (.iconst 0, 1) := by decide +kernel
theorem dX11_lay_2 : decode cX11_lay 2 = .ok (.invokestatic 299, 3) := by decide +kernel
theorem dX11_lay_5 : decode cX11_lay 5 = .ok (.ifCond .ne 5, 3) := by decide +kernel
theorem dX11_lay_8 : decode cX11_lay 8 = .ok (.iconst (-1), 1) := by decide +kernel
theorem dX11_lay_9 : decode cX11_lay 9 = .ok (.ireturn, 1) := by decide +kernel
theorem dX11_lay_10 : decode cX11_lay 10 = .ok (.aload_n 0, 1) := by decide +kernel
theorem dX11_lay_11 : decode cX11_lay 11 = .ok (.getfield 35, 3) := by decide +kernel
theorem dX11_lay_14 : decode cX11_lay 14 = .ok (.iload_n 1, 1) := by decide +kernel
theorem dX11_lay_15 : decode cX11_lay 15 = .ok (.iaload, 1) := by decide +kernel
theorem dX11_lay_16 : decode cX11_lay 16 = .ok (.bipush (-4), 2) := by decide +kernel
theorem dX11_lay_18 : decode cX11_lay 18 = .ok (.if_icmp .ne 6, 3) := by decide +kernel
theorem dX11_lay_21 : decode cX11_lay 21 = .ok (.bipush (-11), 2) := by decide +kernel
theorem dX11_lay_23 : decode cX11_lay 23 = .ok (.ireturn, 1) := by decide +kernel
theorem dX11_lay_24 : decode cX11_lay 24 = .ok (.iload_n 2, 1) := by decide +kernel
theorem dX11_lay_25 : decode cX11_lay 25 = .ok (.i2l, 1) := by decide +kernel
theorem dX11_lay_26 : decode cX11_lay 26 = .ok (.lconst 0, 1) := by decide +kernel
theorem dX11_lay_27 : decode cX11_lay 27 = .ok (.aload_n 0, 1) := by decide +kernel
theorem dX11_lay_28 : decode cX11_lay 28 = .ok (.getfield 38, 3) := by decide +kernel
theorem dX11_lay_31 : decode cX11_lay 31 = .ok (.iload_n 1, 1) := by decide +kernel
theorem dX11_lay_32 : decode cX11_lay 32 = .ok (.iaload, 1) := by decide +kernel
theorem dX11_lay_33 : decode cX11_lay 33 = .ok (.iconst 1, 1) := by decide +kernel
theorem dX11_lay_34 : decode cX11_lay 34 = .ok (.isub, 1) := by decide +kernel
theorem dX11_lay_35 : decode cX11_lay 35 = .ok (.i2l, 1) := by decide +kernel
theorem dX11_lay_36 : decode cX11_lay 36 = .ok (.invokestatic 78, 3) := by decide +kernel
theorem dX11_lay_39 : decode cX11_lay 39 = .ok (.ifCond .ne 6, 3) := by decide +kernel
theorem dX11_lay_42 : decode cX11_lay 42 = .ok (.bipush (-12), 2) := by decide +kernel
theorem dX11_lay_44 : decode cX11_lay 44 = .ok (.ireturn, 1) := by decide +kernel
theorem dX11_lay_45 : decode cX11_lay 45 = .ok (.aload_n 0, 1) := by decide +kernel
theorem dX11_lay_46 : decode cX11_lay 46 = .ok (.getfield 41, 3) := by decide +kernel
theorem dX11_lay_49 : decode cX11_lay 49 = .ok (.bipush 40, 2) := by decide +kernel
theorem dX11_lay_51 : decode cX11_lay 51 = .ok (.iload_n 1, 1) := by decide +kernel
theorem dX11_lay_52 : decode cX11_lay 52 = .ok (.imul, 1) := by decide +kernel
theorem dX11_lay_53 : decode cX11_lay 53 = .ok (.iload_n 2, 1) := by decide +kernel
theorem dX11_lay_54 : decode cX11_lay 54 = .ok (.iadd, 1) := by decide +kernel
theorem dX11_lay_55 : decode cX11_lay 55 = .ok (.aload_n 0, 1) := by decide +kernel
theorem dX11_lay_56 : decode cX11_lay 56 = .ok (.getfield 35, 3) := by decide +kernel
theorem dX11_lay_59 : decode cX11_lay 59 = .ok (.iload_n 1, 1) := by decide +kernel
theorem dX11_lay_60 : decode cX11_lay 60 = .ok (.iaload, 1) := by decide +kernel
theorem dX11_lay_61 : decode cX11_lay 61 = .ok (.ifCond .ne 8, 3) := by decide +kernel
theorem dX11_lay_64 : decode cX11_lay 64 = .ok (.iload_n 3, 1) := by decide +kernel
theorem dX11_lay_65 : decode cX11_lay 65 = .ok (.i2b, 1) := by decide +kernel
theorem dX11_lay_66 : decode cX11_lay 66 = .ok (.goto 19, 3) := by decide +kernel
theorem dX11_lay_69 : decode cX11_lay 69 = .ok (.aload_n 0, 1) := by decide +kernel
theorem dX11_lay_70 : decode cX11_lay 70 = .ok (.getfield 35, 3) := by decide +kernel
theorem dX11_lay_73 : decode cX11_lay 73 = .ok (.iload_n 1, 1) := by decide +kernel
theorem dX11_lay_74 : decode cX11_lay 74 = .ok (.iaload, 1) := by decide +kernel
theorem dX11_lay_75 : decode cX11_lay 75 = .ok (.iconst 1, 1) := by decide +kernel
theorem dX11_lay_76 : decode cX11_lay 76 = .ok (.if_icmp .ne 8, 3) := by decide +kernel
theorem dX11_lay_79 : decode cX11_lay 79 = .ok (.iload_n 3, 1) := by decide +kernel
theorem dX11_lay_80 : decode cX11_lay 80 = .ok (.i2s, 1) := by decide +kernel
theorem dX11_lay_81 : decode cX11_lay 81 = .ok (.goto 4, 3) := by decide +kernel
theorem dX11_lay_84 : decode cX11_lay 84 = .ok (.iload_n 3, 1) := by decide +kernel
theorem dX11_lay_85 : decode cX11_lay 85 = .ok (.iastore, 1) := by decide +kernel
theorem dX11_lay_86 : decode cX11_lay 86 = .ok (.iconst 1, 1) := by decide +kernel
theorem dX11_lay_87 : decode cX11_lay 87 = .ok (.ireturn, 1) := by decide +kernel
theorem dX11_read_0 : decode cX11_read 0 = .ok (.iload_n 1, 1) := by decide +kernel
theorem dX11_read_1 : decode cX11_read 1 = .ok (.iload_n 2, 1) := by decide +kernel
theorem dX11_read_2 : decode cX11_read 2 = .ok (.invokestatic 299, 3) := by decide +kernel
theorem dX11_read_5 : decode cX11_read 5 = .ok (.ifCond .eq 16, 3) := by decide +kernel
theorem dX11_read_8 : decode cX11_read 8 = .ok (.iload 4, 2) := by decide +kernel
theorem dX11_read_10 : decode cX11_read 10 = .ok (.i2l, 1) := by decide +kernel
theorem dX11_read_11 : decode cX11_read 11 = .ok (.lconst 0, 1) := by decide +kernel
theorem dX11_read_12 : decode cX11_read 12 = .ok (.ldc2_w 302, 3) := by decide +kernel
theorem dX11_read_15 : decode cX11_read 15 = .ok (.invokestatic 78, 3) := by decide +kernel
theorem dX11_read_18 : decode cX11_read 18 = .ok (.ifCond .ne 5, 3) := by decide +kernel
theorem dX11_read_21 : decode cX11_read 21 = .ok (.iconst (-1), 1) := by decide +kernel
theorem dX11_read_22 : decode cX11_read 22 = .ok (.ireturn, 1) := by decide +kernel
theorem dX11_read_23 : decode cX11_read 23 = .ok (.aload_n 0, 1) := by decide +kernel
theorem dX11_read_24 : decode cX11_read 24 = .ok (.getfield 7, 3) := by decide +kernel
theorem dX11_read_27 : decode cX11_read 27 = .ok (.bipush 46, 2) := by decide +kernel
theorem dX11_read_29 : decode cX11_read 29 = .ok (.iaload, 1) := by decide +kernel
theorem dX11_read_30 : decode cX11_read 30 = .ok (.istore 5, 2) := by decide +kernel
theorem dX11_read_32 : decode cX11_read 32 = .ok (.iconst 0, 1) := by decide +kernel
theorem dX11_read_33 : decode cX11_read 33 = .ok (.istore 6, 2) := by decide +kernel
theorem dX11_read_35 : decode cX11_read 35 = .ok (.iconst 0, 1) := by decide +kernel
theorem dX11_read_36 : decode cX11_read 36 = .ok (.istore 7, 2) := by decide +kernel
theorem dX11_read_38 : decode cX11_read 38 = .ok (.iconst 0, 1) := by decide +kernel
theorem dX11_read_39 : decode cX11_read 39 = .ok (.istore 8, 2) := by decide +kernel
theorem dX11_read_41 : decode cX11_read 41 = .ok (.iload 8, 2) := by decide +kernel
theorem dX11_read_43 : decode cX11_read 43 = .ok (.iload 4, 2) := by decide +kernel
theorem dX11_read_45 : decode cX11_read 45 = .ok (.if_icmp .ge 163, 3) := by decide +kernel
theorem dX11_read_48 : decode cX11_read 48 = .ok (.iload 6, 2) := by decide +kernel
theorem dX11_read_50 : decode cX11_read 50 = .ok (.ifCond .ne 158, 3) := by decide +kernel
theorem dX11_read_53 : decode cX11_read 53 = .ok (.iconst 0, 1) := by decide +kernel
theorem dX11_read_54 : decode cX11_read 54 = .ok (.istore 9, 2) := by decide +kernel
theorem dX11_read_56 : decode cX11_read 56 = .ok (.iload 9, 2) := by decide +kernel
theorem dX11_read_58 : decode cX11_read 58 = .ok (.iconst 2, 1) := by decide +kernel
theorem dX11_read_59 : decode cX11_read 59 = .ok (.if_icmp .ge 84, 3) := by decide +kernel
theorem dX11_read_62 : decode cX11_read 62 = .ok (.iload 6, 2) := by decide +kernel
theorem dX11_read_64 : decode cX11_read 64 = .ok (.ifCond .ne 79, 3) := by decide +kernel
theorem dX11_read_67 : decode cX11_read 67 = .ok (.iload_n 3, 1) := by decide +kernel
theorem dX11_read_68 : decode cX11_read 68 = .ok (.i2l, 1) := by decide +kernel
theorem dX11_read_69 : decode cX11_read 69 = .ok (.iconst 2, 1) := by decide +kernel
theorem dX11_read_70 : decode cX11_read 70 = .ok (.iload 8, 2) := by decide +kernel
theorem dX11_read_72 : decode cX11_read 72 = .ok (.imul, 1) := by decide +kernel
theorem dX11_read_73 : decode cX11_read 73 = .ok (.i2l, 1) := by decide +kernel
theorem dX11_read_74 : decode cX11_read 74 = .ok (.ladd, 1) := by decide +kernel
theorem dX11_read_75 : decode cX11_read 75 = .ok (.iload 9, 2) := by decide +kernel
theorem dX11_read_77 : decode cX11_read 77 = .ok (.i2l, 1) := by decide +kernel
theorem dX11_read_78 : decode cX11_read 78 = .ok (.ladd, 1) := by decide +kernel
theorem dX11_read_79 : decode cX11_read 79 = .ok (.lstore 10, 2) := by decide +kernel
theorem dX11_read_81 : decode cX11_read 81 = .ok (.aload_n 0, 1) := by decide +kernel
theorem dX11_read_82 : decode cX11_read 82 = .ok (.getfield 35, 3) := by decide +kernel
theorem dX11_read_85 : decode cX11_read 85 = .ok (.iload_n 1, 1) := by decide +kernel
theorem dX11_read_86 : decode cX11_read 86 = .ok (.iaload, 1) := by decide +kernel
theorem dX11_read_87 : decode cX11_read 87 = .ok (.bipush (-4), 2) := by decide +kernel
theorem dX11_read_89 : decode cX11_read 89 = .ok (.if_icmp .ne 7, 3) := by decide +kernel
theorem dX11_read_92 : decode cX11_read 92 = .ok (.iconst 1, 1) := by decide +kernel
theorem dX11_read_93 : decode cX11_read 93 = .ok (.goto 42, 3) := by decide +kernel
theorem dX11_read_96 : decode cX11_read 96 = .ok (.aload_n 0, 1) := by decide +kernel
theorem dX11_read_97 : decode cX11_read 97 = .ok (.getfield 35, 3) := by decide +kernel
theorem dX11_read_100 : decode cX11_read 100 = .ok (.iload_n 1, 1) := by decide +kernel
theorem dX11_read_101 : decode cX11_read 101 = .ok (.iaload, 1) := by decide +kernel
theorem dX11_read_102 : decode cX11_read 102 = .ok (.iload_n 2, 1) := by decide +kernel
theorem dX11_read_103 : decode cX11_read 103 = .ok (.if_icmp .eq 7, 3) := by decide +kernel
theorem dX11_read_106 : decode cX11_read 106 = .ok (.iconst 3, 1) := by decide +kernel
theorem dX11_read_107 : decode cX11_read 107 = .ok (.goto 28, 3) := by decide +kernel
theorem dX11_read_110 : decode cX11_read 110 = .ok (.lload 10, 2) := by decide +kernel
theorem dX11_read_112 : decode cX11_read 112 = .ok (.lconst 0, 1) := by decide +kernel
theorem dX11_read_113 : decode cX11_read 113 = .ok (.lcmp, 1) := by decide +kernel
theorem dX11_read_114 : decode cX11_read 114 = .ok (.ifCond .lt 16, 3) := by decide +kernel
theorem dX11_read_117 : decode cX11_read 117 = .ok (.lload 10, 2) := by decide +kernel
theorem dX11_read_119 : decode cX11_read 119 = .ok (.aload_n 0, 1) := by decide +kernel
theorem dX11_read_120 : decode cX11_read 120 = .ok (.getfield 38, 3) := by decide +kernel
theorem dX11_read_123 : decode cX11_read 123 = .ok (.iload_n 1, 1) := by decide +kernel
theorem dX11_read_124 : decode cX11_read 124 = .ok (.iaload, 1) := by decide +kernel
theorem dX11_read_125 : decode cX11_read 125 = .ok (.i2l, 1) := by decide +kernel
theorem dX11_read_126 : decode cX11_read 126 = .ok (.lcmp, 1) := by decide +kernel
theorem dX11_read_127 : decode cX11_read 127 = .ok (.ifCond .lt 7, 3) := by decide +kernel
theorem dX11_read_130 : decode cX11_read 130 = .ok (.iconst 2, 1) := by decide +kernel
theorem dX11_read_131 : decode cX11_read 131 = .ok (.goto 4, 3) := by decide +kernel
theorem dX11_read_134 : decode cX11_read 134 = .ok (.iconst 0, 1) := by decide +kernel
theorem dX11_read_135 : decode cX11_read 135 = .ok (.istore 6, 2) := by decide +kernel
theorem dX11_read_137 : decode cX11_read 137 = .ok (.iinc 9 1, 3) := by decide +kernel
theorem dX11_read_140 : decode cX11_read 140 = .ok (.goto (-84), 3) := by decide +kernel
theorem dX11_read_143 : decode cX11_read 143 = .ok (.iload 6, 2) := by decide +kernel
theorem dX11_read_145 : decode cX11_read 145 = .ok (.ifCond .ne 57, 3) := by decide +kernel
theorem dX11_read_148 : decode cX11_read 148 = .ok (.bipush 40, 2) := by decide +kernel
theorem dX11_read_150 : decode cX11_read 150 = .ok (.iload_n 1, 1) := by decide +kernel
theorem dX11_read_151 : decode cX11_read 151 = .ok (.imul, 1) := by decide +kernel
theorem dX11_read_152 : decode cX11_read 152 = .ok (.iload_n 3, 1) := by decide +kernel
theorem dX11_read_153 : decode cX11_read 153 = .ok (.iadd, 1) := by decide +kernel
theorem dX11_read_154 : decode cX11_read 154 = .ok (.iconst 2, 1) := by decide +kernel
theorem dX11_read_155 : decode cX11_read 155 = .ok (.iload 8, 2) := by decide +kernel
theorem dX11_read_157 : decode cX11_read 157 = .ok (.imul, 1) := by decide +kernel
theorem dX11_read_158 : decode cX11_read 158 = .ok (.iadd, 1) := by decide +kernel
theorem dX11_read_159 : decode cX11_read 159 = .ok (.istore 9, 2) := by decide +kernel
theorem dX11_read_161 : decode cX11_read 161 = .ok (.aload_n 0, 1) := by decide +kernel
theorem dX11_read_162 : decode cX11_read 162 = .ok (.aload_n 0, 1) := by decide +kernel
theorem dX11_read_163 : decode cX11_read 163 = .ok (.getfield 41, 3) := by decide +kernel
theorem dX11_read_166 : decode cX11_read 166 = .ok (.iload 9, 2) := by decide +kernel
theorem dX11_read_168 : decode cX11_read 168 = .ok (.iaload, 1) := by decide +kernel
theorem dX11_read_169 : decode cX11_read 169 = .ok (.aload_n 0, 1) := by decide +kernel
theorem dX11_read_170 : decode cX11_read 170 = .ok (.getfield 41, 3) := by decide +kernel
theorem dX11_read_173 : decode cX11_read 173 = .ok (.iload 9, 2) := by decide +kernel
theorem dX11_read_175 : decode cX11_read 175 = .ok (.iconst 1, 1) := by decide +kernel
theorem dX11_read_176 : decode cX11_read 176 = .ok (.iadd, 1) := by decide +kernel
theorem dX11_read_177 : decode cX11_read 177 = .ok (.iaload, 1) := by decide +kernel
theorem dX11_read_178 : decode cX11_read 178 = .ok (.invokevirtual 304, 3) := by decide +kernel
theorem dX11_read_181 : decode cX11_read 181 = .ok (.ifCond .ge 18, 3) := by decide +kernel
theorem dX11_read_184 : decode cX11_read 184 = .ok (.aload_n 0, 1) := by decide +kernel
theorem dX11_read_185 : decode cX11_read 185 = .ok (.getfield 7, 3) := by decide +kernel
theorem dX11_read_188 : decode cX11_read 188 = .ok (.bipush 46, 2) := by decide +kernel
theorem dX11_read_190 : decode cX11_read 190 = .ok (.iload 5, 2) := by decide +kernel
theorem dX11_read_192 : decode cX11_read 192 = .ok (.iastore, 1) := by decide +kernel
theorem dX11_read_193 : decode cX11_read 193 = .ok (.bipush (-20), 2) := by decide +kernel
theorem dX11_read_195 : decode cX11_read 195 = .ok (.iload 8, 2) := by decide +kernel
theorem dX11_read_197 : decode cX11_read 197 = .ok (.isub, 1) := by decide +kernel
theorem dX11_read_198 : decode cX11_read 198 = .ok (.ireturn, 1) := by decide +kernel
theorem dX11_read_199 : decode cX11_read 199 = .ok (.iinc 7 1, 3) := by decide +kernel
theorem dX11_read_202 : decode cX11_read 202 = .ok (.iinc 8 1, 3) := by decide +kernel
theorem dX11_read_205 : decode cX11_read 205 = .ok (.goto (-164), 3) := by decide +kernel
theorem dX11_read_208 : decode cX11_read 208 = .ok (.aload_n 0, 1) := by decide +kernel
theorem dX11_read_209 : decode cX11_read 209 = .ok (.iload 6, 2) := by decide +kernel
theorem dX11_read_211 : decode cX11_read 211 = .ok (.putfield 307, 3) := by decide +kernel
theorem dX11_read_214 : decode cX11_read 214 = .ok (.iload 7, 2) := by decide +kernel
theorem dX11_read_216 : decode cX11_read 216 = .ok (.ireturn, 1) := by decide +kernel
theorem dX11_torn_0 : decode cX11_torn 0 = .ok (.aload_n 0, 1) := by decide +kernel
theorem dX11_torn_1 : decode cX11_torn 1 = .ok (.getfield 307, 3) := by decide +kernel
theorem dX11_torn_4 : decode cX11_torn 4 = .ok (.ireturn, 1) := by decide +kernel
theorem dX11_count_0 : decode cX11_count 0 = .ok (.iconst 0, 1) := by decide +kernel
theorem dX11_count_1 : decode cX11_count 1 = .ok (.istore_n 2, 1) := by decide +kernel
theorem dX11_count_2 : decode cX11_count 2 = .ok (.iconst 0, 1) := by decide +kernel
theorem dX11_count_3 : decode cX11_count 3 = .ok (.istore_n 3, 1) := by decide +kernel
theorem dX11_count_4 : decode cX11_count 4 = .ok (.iconst 0, 1) := by decide +kernel
theorem dX11_count_5 : decode cX11_count 5 = .ok (.istore 4, 2) := by decide +kernel
theorem dX11_count_7 : decode cX11_count 7 = .ok (.aload_n 0, 1) := by decide +kernel
theorem dX11_count_8 : decode cX11_count 8 = .ok (.invokevirtual 222, 3) := by decide +kernel
theorem dX11_count_11 : decode cX11_count 11 = .ok (.iconst 0, 1) := by decide +kernel
theorem dX11_count_12 : decode cX11_count 12 = .ok (.istore 5, 2) := by decide +kernel
theorem dX11_count_14 : decode cX11_count 14 = .ok (.iload 5, 2) := by decide +kernel
theorem dX11_count_16 : decode cX11_count 16 = .ok (.aload_n 0, 1) := by decide +kernel
theorem dX11_count_17 : decode cX11_count 17 = .ok (.getfield 7, 3) := by decide +kernel
theorem dX11_count_20 : decode cX11_count 20 = .ok (.bipush 46, 2) := by decide +kernel
theorem dX11_count_22 : decode cX11_count 22 = .ok (.iaload, 1) := by decide +kernel
theorem dX11_count_23 : decode cX11_count 23 = .ok (.if_icmp .ge 44, 3) := by decide +kernel
theorem dX11_count_26 : decode cX11_count 26 = .ok (.iload_n 2, 1) := by decide +kernel
theorem dX11_count_27 : decode cX11_count 27 = .ok (.aload_n 0, 1) := by decide +kernel
theorem dX11_count_28 : decode cX11_count 28 = .ok (.iload 5, 2) := by decide +kernel
theorem dX11_count_30 : decode cX11_count 30 = .ok (.invokevirtual 199, 3) := by decide +kernel
theorem dX11_count_33 : decode cX11_count 33 = .ok (.invokestatic 208, 3) := by decide +kernel
theorem dX11_count_36 : decode cX11_count 36 = .ok (.iadd, 1) := by decide +kernel
theorem dX11_count_37 : decode cX11_count 37 = .ok (.istore_n 2, 1) := by decide +kernel
theorem dX11_count_38 : decode cX11_count 38 = .ok (.iload_n 3, 1) := by decide +kernel
theorem dX11_count_39 : decode cX11_count 39 = .ok (.aload_n 0, 1) := by decide +kernel
theorem dX11_count_40 : decode cX11_count 40 = .ok (.iload 5, 2) := by decide +kernel
theorem dX11_count_42 : decode cX11_count 42 = .ok (.iconst 2, 1) := by decide +kernel
theorem dX11_count_43 : decode cX11_count 43 = .ok (.invokevirtual 173, 3) := by decide +kernel
theorem dX11_count_46 : decode cX11_count 46 = .ok (.bipush (-4), 2) := by decide +kernel
theorem dX11_count_48 : decode cX11_count 48 = .ok (.if_icmp .ne 7, 3) := by decide +kernel
theorem dX11_count_51 : decode cX11_count 51 = .ok (.iconst 1, 1) := by decide +kernel
theorem dX11_count_52 : decode cX11_count 52 = .ok (.goto 4, 3) := by decide +kernel
theorem dX11_count_55 : decode cX11_count 55 = .ok (.iconst 0, 1) := by decide +kernel
theorem dX11_count_56 : decode cX11_count 56 = .ok (.invokestatic 208, 3) := by decide +kernel
theorem dX11_count_59 : decode cX11_count 59 = .ok (.iadd, 1) := by decide +kernel
theorem dX11_count_60 : decode cX11_count 60 = .ok (.istore_n 3, 1) := by decide +kernel
theorem dX11_count_61 : decode cX11_count 61 = .ok (.iinc 5 1, 3) := by decide +kernel
theorem dX11_count_64 : decode cX11_count 64 = .ok (.goto (-50), 3) := by decide +kernel
theorem dX11_count_67 : decode cX11_count 67 = .ok (.iconst 0, 1) := by decide +kernel
theorem dX11_count_68 : decode cX11_count 68 = .ok (.istore 5, 2) := by decide +kernel
theorem dX11_count_70 : decode cX11_count 70 = .ok (.iload 5, 2) := by decide +kernel
theorem dX11_count_72 : decode cX11_count 72 = .ok (.iconst 3, 1) := by decide +kernel
theorem dX11_count_73 : decode cX11_count 73 = .ok (.aload_n 0, 1) := by decide +kernel
theorem dX11_count_74 : decode cX11_count 74 = .ok (.getfield 73, 3) := by decide +kernel
theorem dX11_count_77 : decode cX11_count 77 = .ok (.imul, 1) := by decide +kernel
theorem dX11_count_78 : decode cX11_count 78 = .ok (.if_icmp .ge 23, 3) := by decide +kernel
theorem dX11_count_81 : decode cX11_count 81 = .ok (.iload 4, 2) := by decide +kernel
theorem dX11_count_83 : decode cX11_count 83 = .ok (.aload_n 0, 1) := by decide +kernel
theorem dX11_count_84 : decode cX11_count 84 = .ok (.getfield 7, 3) := by decide +kernel
theorem dX11_count_87 : decode cX11_count 87 = .ok (.iconst 0, 1) := by decide +kernel
theorem dX11_count_88 : decode cX11_count 88 = .ok (.iload 5, 2) := by decide +kernel
theorem dX11_count_90 : decode cX11_count 90 = .ok (.iadd, 1) := by decide +kernel
theorem dX11_count_91 : decode cX11_count 91 = .ok (.iaload, 1) := by decide +kernel
theorem dX11_count_92 : decode cX11_count 92 = .ok (.iadd, 1) := by decide +kernel
theorem dX11_count_93 : decode cX11_count 93 = .ok (.istore 4, 2) := by decide +kernel
theorem dX11_count_95 : decode cX11_count 95 = .ok (.iinc 5 1, 3) := by decide +kernel
theorem dX11_count_98 : decode cX11_count 98 = .ok (.goto (-28), 3) := by decide +kernel
theorem dX11_count_101 : decode cX11_count 101 = .ok (.iload_n 1, 1) := by decide +kernel
theorem dX11_count_102 : decode cX11_count 102 = .ok (.tableswitch 123 0 8 #[50, 52, 57, 62, 64, 72, 92, 97, 120], 50) := by decide +kernel
theorem dX11_count_152 : decode cX11_count 152 = .ok (.iload_n 2, 1) := by decide +kernel
theorem dX11_count_153 : decode cX11_count 153 = .ok (.ireturn, 1) := by decide +kernel
theorem dX11_count_154 : decode cX11_count 154 = .ok (.aload_n 0, 1) := by decide +kernel
theorem dX11_count_155 : decode cX11_count 155 = .ok (.invokevirtual 293, 3) := by decide +kernel
theorem dX11_count_158 : decode cX11_count 158 = .ok (.ireturn, 1) := by decide +kernel
theorem dX11_count_159 : decode cX11_count 159 = .ok (.aload_n 0, 1) := by decide +kernel
theorem dX11_count_160 : decode cX11_count 160 = .ok (.invokevirtual 241, 3) := by decide +kernel
theorem dX11_count_163 : decode cX11_count 163 = .ok (.ireturn, 1) := by decide +kernel
theorem dX11_count_164 : decode cX11_count 164 = .ok (.iload_n 3, 1) := by decide +kernel
theorem dX11_count_165 : decode cX11_count 165 = .ok (.ireturn, 1) := by decide +kernel
theorem dX11_count_166 : decode cX11_count 166 = .ok (.aload_n 0, 1) := by decide +kernel
theorem dX11_count_167 : decode cX11_count 167 = .ok (.getfield 7, 3) := by decide +kernel
theorem dX11_count_170 : decode cX11_count 170 = .ok (.bipush 96, 2) := by decide +kernel
theorem dX11_count_172 : decode cX11_count 172 = .ok (.iaload, 1) := by decide +kernel
theorem dX11_count_173 : decode cX11_count 173 = .ok (.ireturn, 1) := by decide +kernel
theorem dX11_count_174 : decode cX11_count 174 = .ok (.aload_n 0, 1) := by decide +kernel
theorem dX11_count_175 : decode cX11_count 175 = .ok (.getfield 16, 3) := by decide +kernel
theorem dX11_count_178 : decode cX11_count 178 = .ok (.iconst 0, 1) := by decide +kernel
theorem dX11_count_179 : decode cX11_count 179 = .ok (.baload, 1) := by decide +kernel
theorem dX11_count_180 : decode cX11_count 180 = .ok (.invokestatic 208, 3) := by decide +kernel
theorem dX11_count_183 : decode cX11_count 183 = .ok (.aload_n 0, 1) := by decide +kernel
theorem dX11_count_184 : decode cX11_count 184 = .ok (.getfield 16, 3) := by decide +kernel
theorem dX11_count_187 : decode cX11_count 187 = .ok (.iconst 1, 1) := by decide +kernel
theorem dX11_count_188 : decode cX11_count 188 = .ok (.baload, 1) := by decide +kernel
theorem dX11_count_189 : decode cX11_count 189 = .ok (.invokestatic 208, 3) := by decide +kernel
theorem dX11_count_192 : decode cX11_count 192 = .ok (.iadd, 1) := by decide +kernel
theorem dX11_count_193 : decode cX11_count 193 = .ok (.ireturn, 1) := by decide +kernel
theorem dX11_count_194 : decode cX11_count 194 = .ok (.aload_n 0, 1) := by decide +kernel
theorem dX11_count_195 : decode cX11_count 195 = .ok (.getfield 82, 3) := by decide +kernel
theorem dX11_count_198 : decode cX11_count 198 = .ok (.ireturn, 1) := by decide +kernel
theorem dX11_count_199 : decode cX11_count 199 = .ok (.aload_n 0, 1) := by decide +kernel
theorem dX11_count_200 : decode cX11_count 200 = .ok (.getfield 35, 3) := by decide +kernel
theorem dX11_count_203 : decode cX11_count 203 = .ok (.iconst 0, 1) := by decide +kernel
theorem dX11_count_204 : decode cX11_count 204 = .ok (.iaload, 1) := by decide +kernel
theorem dX11_count_205 : decode cX11_count 205 = .ok (.bipush (-4), 2) := by decide +kernel
theorem dX11_count_207 : decode cX11_count 207 = .ok (.if_icmp .ne 8, 3) := by decide +kernel
theorem dX11_count_210 : decode cX11_count 210 = .ok (.bipush (-4), 2) := by decide +kernel
theorem dX11_count_212 : decode cX11_count 212 = .ok (.goto 9, 3) := by decide +kernel
theorem dX11_count_215 : decode cX11_count 215 = .ok (.aload_n 0, 1) := by decide +kernel
theorem dX11_count_216 : decode cX11_count 216 = .ok (.getfield 38, 3) := by decide +kernel
theorem dX11_count_219 : decode cX11_count 219 = .ok (.iconst 0, 1) := by decide +kernel
theorem dX11_count_220 : decode cX11_count 220 = .ok (.iaload, 1) := by decide +kernel
theorem dX11_count_221 : decode cX11_count 221 = .ok (.ireturn, 1) := by decide +kernel
theorem dX11_count_222 : decode cX11_count 222 = .ok (.iload 4, 2) := by decide +kernel
theorem dX11_count_224 : decode cX11_count 224 = .ok (.ireturn, 1) := by decide +kernel
theorem dX11_count_225 : decode cX11_count 225 = .ok (.iconst (-1), 1) := by decide +kernel
theorem dX11_count_226 : decode cX11_count 226 = .ok (.ireturn, 1) := by decide +kernel
end
section
theorem dL_law_0 : decode cL_law 0 = .ok (.new 7, 3) := by decide +kernel
theorem dL_law_3 : decode cL_law 3 = .ok (.dup, 1) := by decide +kernel
theorem dL_law_4 : decode cL_law 4 = .ok (.invokespecial 9, 3) := by decide +kernel
theorem dL_law_7 : decode cL_law 7 = .ok (.astore_n 1, 1) := by decide +kernel
theorem dL_law_8 : decode cL_law 8 = .ok (.new 10, 3) := by decide +kernel
theorem dL_law_11 : decode cL_law 11 = .ok (.dup, 1) := by decide +kernel
theorem dL_law_12 : decode cL_law 12 = .ok (.invokespecial 12, 3) := by decide +kernel
theorem dL_law_15 : decode cL_law 15 = .ok (.astore_n 2, 1) := by decide +kernel
theorem dL_law_16 : decode cL_law 16 = .ok (.iconst 0, 1) := by decide +kernel
theorem dL_law_17 : decode cL_law 17 = .ok (.istore_n 3, 1) := by decide +kernel
theorem dL_law_18 : decode cL_law 18 = .ok (.iload_n 3, 1) := by decide +kernel
theorem dL_law_19 : decode cL_law 19 = .ok (.aload_n 0, 1) := by decide +kernel
theorem dL_law_20 : decode cL_law 20 = .ok (.arraylength, 1) := by decide +kernel
theorem dL_law_21 : decode cL_law 21 = .ok (.iconst 5, 1) := by decide +kernel
theorem dL_law_22 : decode cL_law 22 = .ok (.isub, 1) := by decide +kernel
theorem dL_law_23 : decode cL_law 23 = .ok (.if_icmp .gt 1410, 3) := by decide +kernel
theorem dL_law_26 : decode cL_law 26 = .ok (.aload_n 0, 1) := by decide +kernel
theorem dL_law_27 : decode cL_law 27 = .ok (.iload_n 3, 1) := by decide +kernel
theorem dL_law_28 : decode cL_law 28 = .ok (.iaload, 1) := by decide +kernel
theorem dL_law_29 : decode cL_law 29 = .ok (.bipush 63, 2) := by decide +kernel
theorem dL_law_31 : decode cL_law 31 = .ok (.iand, 1) := by decide +kernel
theorem dL_law_32 : decode cL_law 32 = .ok (.tableswitch 1395 0 39 #[176, 199, 222, 235, 248, 271, 294, 327, 360, 393, 426, 469, 502, 535, 558, 591, 624, 673, 696, 739, 772, 805, 838, 871, 904, 927, 970, 993, 1016, 1060, 1084, 1107, 1131, 1174, 1197, 1220, 1263, 1306, 1359, 1372], 176) := by decide +kernel
theorem dL_law_208 : decode cL_law 208 = .ok (.aload_n 1, 1) := by decide +kernel
theorem dL_law_209 : decode cL_law 209 = .ok (.aload_n 0, 1) := by decide +kernel
theorem dL_law_210 : decode cL_law 210 = .ok (.iload_n 3, 1) := by decide +kernel
theorem dL_law_211 : decode cL_law 211 = .ok (.iconst 1, 1) := by decide +kernel
theorem dL_law_212 : decode cL_law 212 = .ok (.iadd, 1) := by decide +kernel
theorem dL_law_213 : decode cL_law 213 = .ok (.iaload, 1) := by decide +kernel
theorem dL_law_214 : decode cL_law 214 = .ok (.invokevirtual 13, 3) := by decide +kernel
theorem dL_law_217 : decode cL_law 217 = .ok (.aload_n 2, 1) := by decide +kernel
theorem dL_law_218 : decode cL_law 218 = .ok (.aload_n 0, 1) := by decide +kernel
theorem dL_law_219 : decode cL_law 219 = .ok (.iload_n 3, 1) := by decide +kernel
theorem dL_law_220 : decode cL_law 220 = .ok (.iconst 1, 1) := by decide +kernel
theorem dL_law_221 : decode cL_law 221 = .ok (.iadd, 1) := by decide +kernel
theorem dL_law_222 : decode cL_law 222 = .ok (.iaload, 1) := by decide +kernel
theorem dL_law_223 : decode cL_law 223 = .ok (.invokevirtual 17, 3) := by decide +kernel
theorem dL_law_226 : decode cL_law 226 = .ok (.if_icmp .eq 1201, 3) := by decide +kernel
theorem dL_law_229 : decode cL_law 229 = .ok (.iconst 0, 1) := by decide +kernel
theorem dL_law_230 : decode cL_law 230 = .ok (.ireturn, 1) := by decide +kernel
theorem dL_law_231 : decode cL_law 231 = .ok (.aload_n 1, 1) := by decide +kernel
theorem dL_law_232 : decode cL_law 232 = .ok (.aload_n 0, 1) := by decide +kernel
theorem dL_law_233 : decode cL_law 233 = .ok (.iload_n 3, 1) := by decide +kernel
theorem dL_law_234 : decode cL_law 234 = .ok (.iconst 1, 1) := by decide +kernel
theorem dL_law_235 : decode cL_law 235 = .ok (.iadd, 1) := by decide +kernel
theorem dL_law_236 : decode cL_law 236 = .ok (.iaload, 1) := by decide +kernel
theorem dL_law_237 : decode cL_law 237 = .ok (.invokevirtual 18, 3) := by decide +kernel
theorem dL_law_240 : decode cL_law 240 = .ok (.aload_n 2, 1) := by decide +kernel
theorem dL_law_241 : decode cL_law 241 = .ok (.aload_n 0, 1) := by decide +kernel
theorem dL_law_242 : decode cL_law 242 = .ok (.iload_n 3, 1) := by decide +kernel
theorem dL_law_243 : decode cL_law 243 = .ok (.iconst 1, 1) := by decide +kernel
theorem dL_law_244 : decode cL_law 244 = .ok (.iadd, 1) := by decide +kernel
theorem dL_law_245 : decode cL_law 245 = .ok (.iaload, 1) := by decide +kernel
theorem dL_law_246 : decode cL_law 246 = .ok (.invokevirtual 21, 3) := by decide +kernel
theorem dL_law_249 : decode cL_law 249 = .ok (.if_icmp .eq 1178, 3) := by decide +kernel
theorem dL_law_252 : decode cL_law 252 = .ok (.iconst 0, 1) := by decide +kernel
theorem dL_law_253 : decode cL_law 253 = .ok (.ireturn, 1) := by decide +kernel
theorem dL_law_254 : decode cL_law 254 = .ok (.aload_n 1, 1) := by decide +kernel
theorem dL_law_255 : decode cL_law 255 = .ok (.invokevirtual 22, 3) := by decide +kernel
theorem dL_law_258 : decode cL_law 258 = .ok (.aload_n 2, 1) := by decide +kernel
theorem dL_law_259 : decode cL_law 259 = .ok (.invokevirtual 26, 3) := by decide +kernel
theorem dL_law_262 : decode cL_law 262 = .ok (.if_icmp .eq 1165, 3) := by decide +kernel
theorem dL_law_265 : decode cL_law 265 = .ok (.iconst 0, 1) := by decide +kernel
theorem dL_law_266 : decode cL_law 266 = .ok (.ireturn, 1) := by decide +kernel
theorem dL_law_267 : decode cL_law 267 = .ok (.aload_n 1, 1) := by decide +kernel
theorem dL_law_268 : decode cL_law 268 = .ok (.invokevirtual 27, 3) := by decide +kernel
theorem dL_law_271 : decode cL_law 271 = .ok (.aload_n 2, 1) := by decide +kernel
theorem dL_law_272 : decode cL_law 272 = .ok (.invokevirtual 30, 3) := by decide +kernel
theorem dL_law_275 : decode cL_law 275 = .ok (.if_icmp .eq 1152, 3) := by decide +kernel
theorem dL_law_278 : decode cL_law 278 = .ok (.iconst 0, 1) := by decide +kernel
theorem dL_law_279 : decode cL_law 279 = .ok (.ireturn, 1) := by decide +kernel
theorem dL_law_280 : decode cL_law 280 = .ok (.aload_n 1, 1) := by decide +kernel
theorem dL_law_281 : decode cL_law 281 = .ok (.aload_n 0, 1) := by decide +kernel
theorem dL_law_282 : decode cL_law 282 = .ok (.iload_n 3, 1) := by decide +kernel
theorem dL_law_283 : decode cL_law 283 = .ok (.iconst 1, 1) := by decide +kernel
theorem dL_law_284 : decode cL_law 284 = .ok (.iadd, 1) := by decide +kernel
theorem dL_law_285 : decode cL_law 285 = .ok (.iaload, 1) := by decide +kernel
theorem dL_law_286 : decode cL_law 286 = .ok (.invokevirtual 31, 3) := by decide +kernel
theorem dL_law_289 : decode cL_law 289 = .ok (.aload_n 2, 1) := by decide +kernel
theorem dL_law_290 : decode cL_law 290 = .ok (.aload_n 0, 1) := by decide +kernel
theorem dL_law_291 : decode cL_law 291 = .ok (.iload_n 3, 1) := by decide +kernel
theorem dL_law_292 : decode cL_law 292 = .ok (.iconst 1, 1) := by decide +kernel
theorem dL_law_293 : decode cL_law 293 = .ok (.iadd, 1) := by decide +kernel
theorem dL_law_294 : decode cL_law 294 = .ok (.iaload, 1) := by decide +kernel
theorem dL_law_295 : decode cL_law 295 = .ok (.invokevirtual 34, 3) := by decide +kernel
theorem dL_law_298 : decode cL_law 298 = .ok (.if_icmp .eq 1129, 3) := by decide +kernel
theorem dL_law_301 : decode cL_law 301 = .ok (.iconst 0, 1) := by decide +kernel
theorem dL_law_302 : decode cL_law 302 = .ok (.ireturn, 1) := by decide +kernel
theorem dL_law_303 : decode cL_law 303 = .ok (.aload_n 1, 1) := by decide +kernel
theorem dL_law_304 : decode cL_law 304 = .ok (.aload_n 0, 1) := by decide +kernel
theorem dL_law_305 : decode cL_law 305 = .ok (.iload_n 3, 1) := by decide +kernel
theorem dL_law_306 : decode cL_law 306 = .ok (.iconst 1, 1) := by decide +kernel
theorem dL_law_307 : decode cL_law 307 = .ok (.iadd, 1) := by decide +kernel
theorem dL_law_308 : decode cL_law 308 = .ok (.iaload, 1) := by decide +kernel
theorem dL_law_309 : decode cL_law 309 = .ok (.invokevirtual 35, 3) := by decide +kernel
theorem dL_law_312 : decode cL_law 312 = .ok (.aload_n 2, 1) := by decide +kernel
theorem dL_law_313 : decode cL_law 313 = .ok (.aload_n 0, 1) := by decide +kernel
theorem dL_law_314 : decode cL_law 314 = .ok (.iload_n 3, 1) := by decide +kernel
theorem dL_law_315 : decode cL_law 315 = .ok (.iconst 1, 1) := by decide +kernel
theorem dL_law_316 : decode cL_law 316 = .ok (.iadd, 1) := by decide +kernel
theorem dL_law_317 : decode cL_law 317 = .ok (.iaload, 1) := by decide +kernel
theorem dL_law_318 : decode cL_law 318 = .ok (.invokevirtual 38, 3) := by decide +kernel
theorem dL_law_321 : decode cL_law 321 = .ok (.if_icmp .eq 1106, 3) := by decide +kernel
theorem dL_law_324 : decode cL_law 324 = .ok (.iconst 0, 1) := by decide +kernel
theorem dL_law_325 : decode cL_law 325 = .ok (.ireturn, 1) := by decide +kernel
theorem dL_law_326 : decode cL_law 326 = .ok (.aload_n 1, 1) := by decide +kernel
theorem dL_law_327 : decode cL_law 327 = .ok (.aload_n 0, 1) := by decide +kernel
theorem dL_law_328 : decode cL_law 328 = .ok (.iload_n 3, 1) := by decide +kernel
theorem dL_law_329 : decode cL_law 329 = .ok (.iconst 1, 1) := by decide +kernel
theorem dL_law_330 : decode cL_law 330 = .ok (.iadd, 1) := by decide +kernel
theorem dL_law_331 : decode cL_law 331 = .ok (.iaload, 1) := by decide +kernel
theorem dL_law_332 : decode cL_law 332 = .ok (.aload_n 0, 1) := by decide +kernel
theorem dL_law_333 : decode cL_law 333 = .ok (.iload_n 3, 1) := by decide +kernel
theorem dL_law_334 : decode cL_law 334 = .ok (.iconst 2, 1) := by decide +kernel
theorem dL_law_335 : decode cL_law 335 = .ok (.iadd, 1) := by decide +kernel
theorem dL_law_336 : decode cL_law 336 = .ok (.iaload, 1) := by decide +kernel
theorem dL_law_337 : decode cL_law 337 = .ok (.invokevirtual 39, 3) := by decide +kernel
theorem dL_law_340 : decode cL_law 340 = .ok (.aload_n 2, 1) := by decide +kernel
theorem dL_law_341 : decode cL_law 341 = .ok (.aload_n 0, 1) := by decide +kernel
theorem dL_law_342 : decode cL_law 342 = .ok (.iload_n 3, 1) := by decide +kernel
theorem dL_law_343 : decode cL_law 343 = .ok (.iconst 1, 1) := by decide +kernel
theorem dL_law_344 : decode cL_law 344 = .ok (.iadd, 1) := by decide +kernel
theorem dL_law_345 : decode cL_law 345 = .ok (.iaload, 1) := by decide +kernel
theorem dL_law_346 : decode cL_law 346 = .ok (.aload_n 0, 1) := by decide +kernel
theorem dL_law_347 : decode cL_law 347 = .ok (.iload_n 3, 1) := by decide +kernel
theorem dL_law_348 : decode cL_law 348 = .ok (.iconst 2, 1) := by decide +kernel
theorem dL_law_349 : decode cL_law 349 = .ok (.iadd, 1) := by decide +kernel
theorem dL_law_350 : decode cL_law 350 = .ok (.iaload, 1) := by decide +kernel
theorem dL_law_351 : decode cL_law 351 = .ok (.invokevirtual 43, 3) := by decide +kernel
theorem dL_law_354 : decode cL_law 354 = .ok (.if_icmp .eq 1073, 3) := by decide +kernel
theorem dL_law_357 : decode cL_law 357 = .ok (.iconst 0, 1) := by decide +kernel
theorem dL_law_358 : decode cL_law 358 = .ok (.ireturn, 1) := by decide +kernel
theorem dL_law_359 : decode cL_law 359 = .ok (.aload_n 1, 1) := by decide +kernel
theorem dL_law_360 : decode cL_law 360 = .ok (.aload_n 0, 1) := by decide +kernel
theorem dL_law_361 : decode cL_law 361 = .ok (.iload_n 3, 1) := by decide +kernel
theorem dL_law_362 : decode cL_law 362 = .ok (.iconst 1, 1) := by decide +kernel
theorem dL_law_363 : decode cL_law 363 = .ok (.iadd, 1) := by decide +kernel
theorem dL_law_364 : decode cL_law 364 = .ok (.iaload, 1) := by decide +kernel
theorem dL_law_365 : decode cL_law 365 = .ok (.aload_n 0, 1) := by decide +kernel
theorem dL_law_366 : decode cL_law 366 = .ok (.iload_n 3, 1) := by decide +kernel
theorem dL_law_367 : decode cL_law 367 = .ok (.iconst 2, 1) := by decide +kernel
theorem dL_law_368 : decode cL_law 368 = .ok (.iadd, 1) := by decide +kernel
theorem dL_law_369 : decode cL_law 369 = .ok (.iaload, 1) := by decide +kernel
theorem dL_law_370 : decode cL_law 370 = .ok (.invokevirtual 44, 3) := by decide +kernel
theorem dL_law_373 : decode cL_law 373 = .ok (.aload_n 2, 1) := by decide +kernel
theorem dL_law_374 : decode cL_law 374 = .ok (.aload_n 0, 1) := by decide +kernel
theorem dL_law_375 : decode cL_law 375 = .ok (.iload_n 3, 1) := by decide +kernel
theorem dL_law_376 : decode cL_law 376 = .ok (.iconst 1, 1) := by decide +kernel
theorem dL_law_377 : decode cL_law 377 = .ok (.iadd, 1) := by decide +kernel
theorem dL_law_378 : decode cL_law 378 = .ok (.iaload, 1) := by decide +kernel
theorem dL_law_379 : decode cL_law 379 = .ok (.aload_n 0, 1) := by decide +kernel
theorem dL_law_380 : decode cL_law 380 = .ok (.iload_n 3, 1) := by decide +kernel
theorem dL_law_381 : decode cL_law 381 = .ok (.iconst 2, 1) := by decide +kernel
theorem dL_law_382 : decode cL_law 382 = .ok (.iadd, 1) := by decide +kernel
theorem dL_law_383 : decode cL_law 383 = .ok (.iaload, 1) := by decide +kernel
theorem dL_law_384 : decode cL_law 384 = .ok (.invokevirtual 47, 3) := by decide +kernel
theorem dL_law_387 : decode cL_law 387 = .ok (.if_icmp .eq 1040, 3) := by decide +kernel
theorem dL_law_390 : decode cL_law 390 = .ok (.iconst 0, 1) := by decide +kernel
theorem dL_law_391 : decode cL_law 391 = .ok (.ireturn, 1) := by decide +kernel
theorem dL_law_392 : decode cL_law 392 = .ok (.aload_n 1, 1) := by decide +kernel
theorem dL_law_393 : decode cL_law 393 = .ok (.aload_n 0, 1) := by decide +kernel
theorem dL_law_394 : decode cL_law 394 = .ok (.iload_n 3, 1) := by decide +kernel
theorem dL_law_395 : decode cL_law 395 = .ok (.iconst 1, 1) := by decide +kernel
theorem dL_law_396 : decode cL_law 396 = .ok (.iadd, 1) := by decide +kernel
theorem dL_law_397 : decode cL_law 397 = .ok (.iaload, 1) := by decide +kernel
theorem dL_law_398 : decode cL_law 398 = .ok (.aload_n 0, 1) := by decide +kernel
theorem dL_law_399 : decode cL_law 399 = .ok (.iload_n 3, 1) := by decide +kernel
theorem dL_law_400 : decode cL_law 400 = .ok (.iconst 2, 1) := by decide +kernel
theorem dL_law_401 : decode cL_law 401 = .ok (.iadd, 1) := by decide +kernel
theorem dL_law_402 : decode cL_law 402 = .ok (.iaload, 1) := by decide +kernel
theorem dL_law_403 : decode cL_law 403 = .ok (.invokevirtual 48, 3) := by decide +kernel
theorem dL_law_406 : decode cL_law 406 = .ok (.aload_n 2, 1) := by decide +kernel
theorem dL_law_407 : decode cL_law 407 = .ok (.aload_n 0, 1) := by decide +kernel
theorem dL_law_408 : decode cL_law 408 = .ok (.iload_n 3, 1) := by decide +kernel
theorem dL_law_409 : decode cL_law 409 = .ok (.iconst 1, 1) := by decide +kernel
theorem dL_law_410 : decode cL_law 410 = .ok (.iadd, 1) := by decide +kernel
theorem dL_law_411 : decode cL_law 411 = .ok (.iaload, 1) := by decide +kernel
theorem dL_law_412 : decode cL_law 412 = .ok (.aload_n 0, 1) := by decide +kernel
theorem dL_law_413 : decode cL_law 413 = .ok (.iload_n 3, 1) := by decide +kernel
theorem dL_law_414 : decode cL_law 414 = .ok (.iconst 2, 1) := by decide +kernel
theorem dL_law_415 : decode cL_law 415 = .ok (.iadd, 1) := by decide +kernel
theorem dL_law_416 : decode cL_law 416 = .ok (.iaload, 1) := by decide +kernel
theorem dL_law_417 : decode cL_law 417 = .ok (.invokevirtual 51, 3) := by decide +kernel
theorem dL_law_420 : decode cL_law 420 = .ok (.if_icmp .eq 1007, 3) := by decide +kernel
theorem dL_law_423 : decode cL_law 423 = .ok (.iconst 0, 1) := by decide +kernel
theorem dL_law_424 : decode cL_law 424 = .ok (.ireturn, 1) := by decide +kernel
theorem dL_law_425 : decode cL_law 425 = .ok (.aload_n 1, 1) := by decide +kernel
theorem dL_law_426 : decode cL_law 426 = .ok (.aload_n 0, 1) := by decide +kernel
theorem dL_law_427 : decode cL_law 427 = .ok (.iload_n 3, 1) := by decide +kernel
theorem dL_law_428 : decode cL_law 428 = .ok (.iconst 1, 1) := by decide +kernel
theorem dL_law_429 : decode cL_law 429 = .ok (.iadd, 1) := by decide +kernel
theorem dL_law_430 : decode cL_law 430 = .ok (.iaload, 1) := by decide +kernel
theorem dL_law_431 : decode cL_law 431 = .ok (.aload_n 0, 1) := by decide +kernel
theorem dL_law_432 : decode cL_law 432 = .ok (.iload_n 3, 1) := by decide +kernel
theorem dL_law_433 : decode cL_law 433 = .ok (.iconst 2, 1) := by decide +kernel
theorem dL_law_434 : decode cL_law 434 = .ok (.iadd, 1) := by decide +kernel
theorem dL_law_435 : decode cL_law 435 = .ok (.iaload, 1) := by decide +kernel
theorem dL_law_436 : decode cL_law 436 = .ok (.invokevirtual 52, 3) := by decide +kernel
theorem dL_law_439 : decode cL_law 439 = .ok (.aload_n 2, 1) := by decide +kernel
theorem dL_law_440 : decode cL_law 440 = .ok (.aload_n 0, 1) := by decide +kernel
theorem dL_law_441 : decode cL_law 441 = .ok (.iload_n 3, 1) := by decide +kernel
theorem dL_law_442 : decode cL_law 442 = .ok (.iconst 1, 1) := by decide +kernel
theorem dL_law_443 : decode cL_law 443 = .ok (.iadd, 1) := by decide +kernel
theorem dL_law_444 : decode cL_law 444 = .ok (.iaload, 1) := by decide +kernel
theorem dL_law_445 : decode cL_law 445 = .ok (.aload_n 0, 1) := by decide +kernel
theorem dL_law_446 : decode cL_law 446 = .ok (.iload_n 3, 1) := by decide +kernel
theorem dL_law_447 : decode cL_law 447 = .ok (.iconst 2, 1) := by decide +kernel
theorem dL_law_448 : decode cL_law 448 = .ok (.iadd, 1) := by decide +kernel
theorem dL_law_449 : decode cL_law 449 = .ok (.iaload, 1) := by decide +kernel
theorem dL_law_450 : decode cL_law 450 = .ok (.invokevirtual 55, 3) := by decide +kernel
theorem dL_law_453 : decode cL_law 453 = .ok (.if_icmp .eq 974, 3) := by decide +kernel
theorem dL_law_456 : decode cL_law 456 = .ok (.iconst 0, 1) := by decide +kernel
theorem dL_law_457 : decode cL_law 457 = .ok (.ireturn, 1) := by decide +kernel
theorem dL_law_458 : decode cL_law 458 = .ok (.aload_n 1, 1) := by decide +kernel
theorem dL_law_459 : decode cL_law 459 = .ok (.aload_n 0, 1) := by decide +kernel
theorem dL_law_460 : decode cL_law 460 = .ok (.iload_n 3, 1) := by decide +kernel
theorem dL_law_461 : decode cL_law 461 = .ok (.iconst 1, 1) := by decide +kernel
theorem dL_law_462 : decode cL_law 462 = .ok (.iadd, 1) := by decide +kernel
theorem dL_law_463 : decode cL_law 463 = .ok (.iaload, 1) := by decide +kernel
theorem dL_law_464 : decode cL_law 464 = .ok (.aload_n 0, 1) := by decide +kernel
theorem dL_law_465 : decode cL_law 465 = .ok (.iload_n 3, 1) := by decide +kernel
theorem dL_law_466 : decode cL_law 466 = .ok (.iconst 2, 1) := by decide +kernel
theorem dL_law_467 : decode cL_law 467 = .ok (.iadd, 1) := by decide +kernel
theorem dL_law_468 : decode cL_law 468 = .ok (.iaload, 1) := by decide +kernel
theorem dL_law_469 : decode cL_law 469 = .ok (.aload_n 0, 1) := by decide +kernel
theorem dL_law_470 : decode cL_law 470 = .ok (.iload_n 3, 1) := by decide +kernel
theorem dL_law_471 : decode cL_law 471 = .ok (.iconst 3, 1) := by decide +kernel
theorem dL_law_472 : decode cL_law 472 = .ok (.iadd, 1) := by decide +kernel
theorem dL_law_473 : decode cL_law 473 = .ok (.iaload, 1) := by decide +kernel
theorem dL_law_474 : decode cL_law 474 = .ok (.invokevirtual 56, 3) := by decide +kernel
theorem dL_law_477 : decode cL_law 477 = .ok (.aload_n 2, 1) := by decide +kernel
theorem dL_law_478 : decode cL_law 478 = .ok (.aload_n 0, 1) := by decide +kernel
theorem dL_law_479 : decode cL_law 479 = .ok (.iload_n 3, 1) := by decide +kernel
theorem dL_law_480 : decode cL_law 480 = .ok (.iconst 1, 1) := by decide +kernel
theorem dL_law_481 : decode cL_law 481 = .ok (.iadd, 1) := by decide +kernel
theorem dL_law_482 : decode cL_law 482 = .ok (.iaload, 1) := by decide +kernel
theorem dL_law_483 : decode cL_law 483 = .ok (.aload_n 0, 1) := by decide +kernel
theorem dL_law_484 : decode cL_law 484 = .ok (.iload_n 3, 1) := by decide +kernel
theorem dL_law_485 : decode cL_law 485 = .ok (.iconst 2, 1) := by decide +kernel
theorem dL_law_486 : decode cL_law 486 = .ok (.iadd, 1) := by decide +kernel
theorem dL_law_487 : decode cL_law 487 = .ok (.iaload, 1) := by decide +kernel
theorem dL_law_488 : decode cL_law 488 = .ok (.aload_n 0, 1) := by decide +kernel
theorem dL_law_489 : decode cL_law 489 = .ok (.iload_n 3, 1) := by decide +kernel
theorem dL_law_490 : decode cL_law 490 = .ok (.iconst 3, 1) := by decide +kernel
theorem dL_law_491 : decode cL_law 491 = .ok (.iadd, 1) := by decide +kernel
theorem dL_law_492 : decode cL_law 492 = .ok (.iaload, 1) := by decide +kernel
theorem dL_law_493 : decode cL_law 493 = .ok (.invokevirtual 60, 3) := by decide +kernel
theorem dL_law_496 : decode cL_law 496 = .ok (.if_icmp .eq 931, 3) := by decide +kernel
theorem dL_law_499 : decode cL_law 499 = .ok (.iconst 0, 1) := by decide +kernel
theorem dL_law_500 : decode cL_law 500 = .ok (.ireturn, 1) := by decide +kernel
theorem dL_law_501 : decode cL_law 501 = .ok (.aload_n 1, 1) := by decide +kernel
end
section
theorem dL_law_502 : decode cL_law 502 = .ok (.aload_n 0, 1) := by decide +kernel
theorem dL_law_503 : decode cL_law 503 = .ok (.iload_n 3, 1) := by decide +kernel
theorem dL_law_504 : decode cL_law 504 = .ok (.iconst 1, 1) := by decide +kernel
theorem dL_law_505 : decode cL_law 505 = .ok (.iadd, 1) := by decide +kernel
theorem dL_law_506 : decode cL_law 506 = .ok (.iaload, 1) := by decide +kernel
theorem dL_law_507 : decode cL_law 507 = .ok (.aload_n 0, 1) := by decide +kernel
theorem dL_law_508 : decode cL_law 508 = .ok (.iload_n 3, 1) := by decide +kernel
theorem dL_law_509 : decode cL_law 509 = .ok (.iconst 2, 1) := by decide +kernel
theorem dL_law_510 : decode cL_law 510 = .ok (.iadd, 1) := by decide +kernel
theorem dL_law_511 : decode cL_law 511 = .ok (.iaload, 1) := by decide +kernel
theorem dL_law_512 : decode cL_law 512 = .ok (.invokevirtual 61, 3) := by decide +kernel
theorem dL_law_515 : decode cL_law 515 = .ok (.aload_n 2, 1) := by decide +kernel
theorem dL_law_516 : decode cL_law 516 = .ok (.aload_n 0, 1) := by decide +kernel
theorem dL_law_517 : decode cL_law 517 = .ok (.iload_n 3, 1) := by decide +kernel
theorem dL_law_518 : decode cL_law 518 = .ok (.iconst 1, 1) := by decide +kernel
theorem dL_law_519 : decode cL_law 519 = .ok (.iadd, 1) := by decide +kernel
theorem dL_law_520 : decode cL_law 520 = .ok (.iaload, 1) := by decide +kernel
theorem dL_law_521 : decode cL_law 521 = .ok (.aload_n 0, 1) := by decide +kernel
theorem dL_law_522 : decode cL_law 522 = .ok (.iload_n 3, 1) := by decide +kernel
theorem dL_law_523 : decode cL_law 523 = .ok (.iconst 2, 1) := by decide +kernel
theorem dL_law_524 : decode cL_law 524 = .ok (.iadd, 1) := by decide +kernel
theorem dL_law_525 : decode cL_law 525 = .ok (.iaload, 1) := by decide +kernel
theorem dL_law_526 : decode cL_law 526 = .ok (.invokevirtual 64, 3) := by decide +kernel
theorem dL_law_529 : decode cL_law 529 = .ok (.if_icmp .eq 898, 3) := by decide +kernel
theorem dL_law_532 : decode cL_law 532 = .ok (.iconst 0, 1) := by decide +kernel
theorem dL_law_533 : decode cL_law 533 = .ok (.ireturn, 1) := by decide +kernel
theorem dL_law_534 : decode cL_law 534 = .ok (.aload_n 1, 1) := by decide +kernel
theorem dL_law_535 : decode cL_law 535 = .ok (.aload_n 0, 1) := by decide +kernel
theorem dL_law_536 : decode cL_law 536 = .ok (.iload_n 3, 1) := by decide +kernel
theorem dL_law_537 : decode cL_law 537 = .ok (.iconst 1, 1) := by decide +kernel
theorem dL_law_538 : decode cL_law 538 = .ok (.iadd, 1) := by decide +kernel
theorem dL_law_539 : decode cL_law 539 = .ok (.iaload, 1) := by decide +kernel
theorem dL_law_540 : decode cL_law 540 = .ok (.aload_n 0, 1) := by decide +kernel
theorem dL_law_541 : decode cL_law 541 = .ok (.iload_n 3, 1) := by decide +kernel
theorem dL_law_542 : decode cL_law 542 = .ok (.iconst 2, 1) := by decide +kernel
theorem dL_law_543 : decode cL_law 543 = .ok (.iadd, 1) := by decide +kernel
theorem dL_law_544 : decode cL_law 544 = .ok (.iaload, 1) := by decide +kernel
theorem dL_law_545 : decode cL_law 545 = .ok (.invokevirtual 65, 3) := by decide +kernel
theorem dL_law_548 : decode cL_law 548 = .ok (.aload_n 2, 1) := by decide +kernel
theorem dL_law_549 : decode cL_law 549 = .ok (.aload_n 0, 1) := by decide +kernel
theorem dL_law_550 : decode cL_law 550 = .ok (.iload_n 3, 1) := by decide +kernel
theorem dL_law_551 : decode cL_law 551 = .ok (.iconst 1, 1) := by decide +kernel
theorem dL_law_552 : decode cL_law 552 = .ok (.iadd, 1) := by decide +kernel
theorem dL_law_553 : decode cL_law 553 = .ok (.iaload, 1) := by decide +kernel
theorem dL_law_554 : decode cL_law 554 = .ok (.aload_n 0, 1) := by decide +kernel
theorem dL_law_555 : decode cL_law 555 = .ok (.iload_n 3, 1) := by decide +kernel
theorem dL_law_556 : decode cL_law 556 = .ok (.iconst 2, 1) := by decide +kernel
theorem dL_law_557 : decode cL_law 557 = .ok (.iadd, 1) := by decide +kernel
theorem dL_law_558 : decode cL_law 558 = .ok (.iaload, 1) := by decide +kernel
theorem dL_law_559 : decode cL_law 559 = .ok (.invokevirtual 68, 3) := by decide +kernel
theorem dL_law_562 : decode cL_law 562 = .ok (.if_icmp .eq 865, 3) := by decide +kernel
theorem dL_law_565 : decode cL_law 565 = .ok (.iconst 0, 1) := by decide +kernel
theorem dL_law_566 : decode cL_law 566 = .ok (.ireturn, 1) := by decide +kernel
theorem dL_law_567 : decode cL_law 567 = .ok (.aload_n 1, 1) := by decide +kernel
theorem dL_law_568 : decode cL_law 568 = .ok (.aload_n 0, 1) := by decide +kernel
theorem dL_law_569 : decode cL_law 569 = .ok (.iload_n 3, 1) := by decide +kernel
theorem dL_law_570 : decode cL_law 570 = .ok (.iconst 1, 1) := by decide +kernel
theorem dL_law_571 : decode cL_law 571 = .ok (.iadd, 1) := by decide +kernel
theorem dL_law_572 : decode cL_law 572 = .ok (.iaload, 1) := by decide +kernel
theorem dL_law_573 : decode cL_law 573 = .ok (.invokevirtual 69, 3) := by decide +kernel
theorem dL_law_576 : decode cL_law 576 = .ok (.aload_n 2, 1) := by decide +kernel
theorem dL_law_577 : decode cL_law 577 = .ok (.aload_n 0, 1) := by decide +kernel
theorem dL_law_578 : decode cL_law 578 = .ok (.iload_n 3, 1) := by decide +kernel
theorem dL_law_579 : decode cL_law 579 = .ok (.iconst 1, 1) := by decide +kernel
theorem dL_law_580 : decode cL_law 580 = .ok (.iadd, 1) := by decide +kernel
theorem dL_law_581 : decode cL_law 581 = .ok (.iaload, 1) := by decide +kernel
theorem dL_law_582 : decode cL_law 582 = .ok (.invokevirtual 72, 3) := by decide +kernel
theorem dL_law_585 : decode cL_law 585 = .ok (.if_icmp .eq 842, 3) := by decide +kernel
theorem dL_law_588 : decode cL_law 588 = .ok (.iconst 0, 1) := by decide +kernel
theorem dL_law_589 : decode cL_law 589 = .ok (.ireturn, 1) := by decide +kernel
theorem dL_law_590 : decode cL_law 590 = .ok (.aload_n 1, 1) := by decide +kernel
theorem dL_law_591 : decode cL_law 591 = .ok (.aload_n 0, 1) := by decide +kernel
theorem dL_law_592 : decode cL_law 592 = .ok (.iload_n 3, 1) := by decide +kernel
theorem dL_law_593 : decode cL_law 593 = .ok (.iconst 1, 1) := by decide +kernel
theorem dL_law_594 : decode cL_law 594 = .ok (.iadd, 1) := by decide +kernel
theorem dL_law_595 : decode cL_law 595 = .ok (.iaload, 1) := by decide +kernel
theorem dL_law_596 : decode cL_law 596 = .ok (.aload_n 0, 1) := by decide +kernel
theorem dL_law_597 : decode cL_law 597 = .ok (.iload_n 3, 1) := by decide +kernel
theorem dL_law_598 : decode cL_law 598 = .ok (.iconst 2, 1) := by decide +kernel
theorem dL_law_599 : decode cL_law 599 = .ok (.iadd, 1) := by decide +kernel
theorem dL_law_600 : decode cL_law 600 = .ok (.iaload, 1) := by decide +kernel
theorem dL_law_601 : decode cL_law 601 = .ok (.invokevirtual 73, 3) := by decide +kernel
theorem dL_law_604 : decode cL_law 604 = .ok (.aload_n 2, 1) := by decide +kernel
theorem dL_law_605 : decode cL_law 605 = .ok (.aload_n 0, 1) := by decide +kernel
theorem dL_law_606 : decode cL_law 606 = .ok (.iload_n 3, 1) := by decide +kernel
theorem dL_law_607 : decode cL_law 607 = .ok (.iconst 1, 1) := by decide +kernel
theorem dL_law_608 : decode cL_law 608 = .ok (.iadd, 1) := by decide +kernel
theorem dL_law_609 : decode cL_law 609 = .ok (.iaload, 1) := by decide +kernel
theorem dL_law_610 : decode cL_law 610 = .ok (.aload_n 0, 1) := by decide +kernel
theorem dL_law_611 : decode cL_law 611 = .ok (.iload_n 3, 1) := by decide +kernel
theorem dL_law_612 : decode cL_law 612 = .ok (.iconst 2, 1) := by decide +kernel
theorem dL_law_613 : decode cL_law 613 = .ok (.iadd, 1) := by decide +kernel
theorem dL_law_614 : decode cL_law 614 = .ok (.iaload, 1) := by decide +kernel
theorem dL_law_615 : decode cL_law 615 = .ok (.invokevirtual 76, 3) := by decide +kernel
theorem dL_law_618 : decode cL_law 618 = .ok (.if_icmp .eq 809, 3) := by decide +kernel
theorem dL_law_621 : decode cL_law 621 = .ok (.iconst 0, 1) := by decide +kernel
theorem dL_law_622 : decode cL_law 622 = .ok (.ireturn, 1) := by decide +kernel
theorem dL_law_623 : decode cL_law 623 = .ok (.aload_n 1, 1) := by decide +kernel
theorem dL_law_624 : decode cL_law 624 = .ok (.aload_n 0, 1) := by decide +kernel
theorem dL_law_625 : decode cL_law 625 = .ok (.iload_n 3, 1) := by decide +kernel
theorem dL_law_626 : decode cL_law 626 = .ok (.iconst 1, 1) := by decide +kernel
theorem dL_law_627 : decode cL_law 627 = .ok (.iadd, 1) := by decide +kernel
theorem dL_law_628 : decode cL_law 628 = .ok (.iaload, 1) := by decide +kernel
theorem dL_law_629 : decode cL_law 629 = .ok (.aload_n 0, 1) := by decide +kernel
theorem dL_law_630 : decode cL_law 630 = .ok (.iload_n 3, 1) := by decide +kernel
theorem dL_law_631 : decode cL_law 631 = .ok (.iconst 2, 1) := by decide +kernel
theorem dL_law_632 : decode cL_law 632 = .ok (.iadd, 1) := by decide +kernel
theorem dL_law_633 : decode cL_law 633 = .ok (.iaload, 1) := by decide +kernel
theorem dL_law_634 : decode cL_law 634 = .ok (.invokevirtual 77, 3) := by decide +kernel
theorem dL_law_637 : decode cL_law 637 = .ok (.aload_n 2, 1) := by decide +kernel
theorem dL_law_638 : decode cL_law 638 = .ok (.aload_n 0, 1) := by decide +kernel
theorem dL_law_639 : decode cL_law 639 = .ok (.iload_n 3, 1) := by decide +kernel
theorem dL_law_640 : decode cL_law 640 = .ok (.iconst 1, 1) := by decide +kernel
theorem dL_law_641 : decode cL_law 641 = .ok (.iadd, 1) := by decide +kernel
theorem dL_law_642 : decode cL_law 642 = .ok (.iaload, 1) := by decide +kernel
theorem dL_law_643 : decode cL_law 643 = .ok (.aload_n 0, 1) := by decide +kernel
theorem dL_law_644 : decode cL_law 644 = .ok (.iload_n 3, 1) := by decide +kernel
theorem dL_law_645 : decode cL_law 645 = .ok (.iconst 2, 1) := by decide +kernel
theorem dL_law_646 : decode cL_law 646 = .ok (.iadd, 1) := by decide +kernel
theorem dL_law_647 : decode cL_law 647 = .ok (.iaload, 1) := by decide +kernel
theorem dL_law_648 : decode cL_law 648 = .ok (.invokevirtual 80, 3) := by decide +kernel
theorem dL_law_651 : decode cL_law 651 = .ok (.if_icmp .eq 776, 3) := by decide +kernel
theorem dL_law_654 : decode cL_law 654 = .ok (.iconst 0, 1) := by decide +kernel
theorem dL_law_655 : decode cL_law 655 = .ok (.ireturn, 1) := by decide +kernel
theorem dL_law_656 : decode cL_law 656 = .ok (.aload_n 1, 1) := by decide +kernel
theorem dL_law_657 : decode cL_law 657 = .ok (.aload_n 0, 1) := by decide +kernel
theorem dL_law_658 : decode cL_law 658 = .ok (.iload_n 3, 1) := by decide +kernel
theorem dL_law_659 : decode cL_law 659 = .ok (.iconst 1, 1) := by decide +kernel
theorem dL_law_660 : decode cL_law 660 = .ok (.iadd, 1) := by decide +kernel
theorem dL_law_661 : decode cL_law 661 = .ok (.iaload, 1) := by decide +kernel
theorem dL_law_662 : decode cL_law 662 = .ok (.aload_n 0, 1) := by decide +kernel
theorem dL_law_663 : decode cL_law 663 = .ok (.iload_n 3, 1) := by decide +kernel
theorem dL_law_664 : decode cL_law 664 = .ok (.iconst 2, 1) := by decide +kernel
theorem dL_law_665 : decode cL_law 665 = .ok (.iadd, 1) := by decide +kernel
theorem dL_law_666 : decode cL_law 666 = .ok (.iaload, 1) := by decide +kernel
theorem dL_law_667 : decode cL_law 667 = .ok (.ifCond .eq 7, 3) := by decide +kernel
theorem dL_law_670 : decode cL_law 670 = .ok (.iconst 1, 1) := by decide +kernel
theorem dL_law_671 : decode cL_law 671 = .ok (.goto 4, 3) := by decide +kernel
theorem dL_law_674 : decode cL_law 674 = .ok (.iconst 0, 1) := by decide +kernel
theorem dL_law_675 : decode cL_law 675 = .ok (.invokevirtual 81, 3) := by decide +kernel
theorem dL_law_678 : decode cL_law 678 = .ok (.aload_n 2, 1) := by decide +kernel
theorem dL_law_679 : decode cL_law 679 = .ok (.aload_n 0, 1) := by decide +kernel
theorem dL_law_680 : decode cL_law 680 = .ok (.iload_n 3, 1) := by decide +kernel
theorem dL_law_681 : decode cL_law 681 = .ok (.iconst 1, 1) := by decide +kernel
theorem dL_law_682 : decode cL_law 682 = .ok (.iadd, 1) := by decide +kernel
theorem dL_law_683 : decode cL_law 683 = .ok (.iaload, 1) := by decide +kernel
theorem dL_law_684 : decode cL_law 684 = .ok (.aload_n 0, 1) := by decide +kernel
theorem dL_law_685 : decode cL_law 685 = .ok (.iload_n 3, 1) := by decide +kernel
theorem dL_law_686 : decode cL_law 686 = .ok (.iconst 2, 1) := by decide +kernel
theorem dL_law_687 : decode cL_law 687 = .ok (.iadd, 1) := by decide +kernel
theorem dL_law_688 : decode cL_law 688 = .ok (.iaload, 1) := by decide +kernel
theorem dL_law_689 : decode cL_law 689 = .ok (.ifCond .eq 7, 3) := by decide +kernel
theorem dL_law_692 : decode cL_law 692 = .ok (.iconst 1, 1) := by decide +kernel
theorem dL_law_693 : decode cL_law 693 = .ok (.goto 4, 3) := by decide +kernel
theorem dL_law_696 : decode cL_law 696 = .ok (.iconst 0, 1) := by decide +kernel
theorem dL_law_697 : decode cL_law 697 = .ok (.invokevirtual 85, 3) := by decide +kernel
theorem dL_law_700 : decode cL_law 700 = .ok (.if_icmp .eq 727, 3) := by decide +kernel
theorem dL_law_703 : decode cL_law 703 = .ok (.iconst 0, 1) := by decide +kernel
theorem dL_law_704 : decode cL_law 704 = .ok (.ireturn, 1) := by decide +kernel
theorem dL_law_705 : decode cL_law 705 = .ok (.aload_n 1, 1) := by decide +kernel
theorem dL_law_706 : decode cL_law 706 = .ok (.aload_n 0, 1) := by decide +kernel
theorem dL_law_707 : decode cL_law 707 = .ok (.iload_n 3, 1) := by decide +kernel
theorem dL_law_708 : decode cL_law 708 = .ok (.iconst 1, 1) := by decide +kernel
theorem dL_law_709 : decode cL_law 709 = .ok (.iadd, 1) := by decide +kernel
theorem dL_law_710 : decode cL_law 710 = .ok (.iaload, 1) := by decide +kernel
theorem dL_law_711 : decode cL_law 711 = .ok (.invokevirtual 86, 3) := by decide +kernel
theorem dL_law_714 : decode cL_law 714 = .ok (.aload_n 2, 1) := by decide +kernel
theorem dL_law_715 : decode cL_law 715 = .ok (.aload_n 0, 1) := by decide +kernel
theorem dL_law_716 : decode cL_law 716 = .ok (.iload_n 3, 1) := by decide +kernel
theorem dL_law_717 : decode cL_law 717 = .ok (.iconst 1, 1) := by decide +kernel
theorem dL_law_718 : decode cL_law 718 = .ok (.iadd, 1) := by decide +kernel
theorem dL_law_719 : decode cL_law 719 = .ok (.iaload, 1) := by decide +kernel
theorem dL_law_720 : decode cL_law 720 = .ok (.invokevirtual 89, 3) := by decide +kernel
theorem dL_law_723 : decode cL_law 723 = .ok (.if_icmp .eq 704, 3) := by decide +kernel
theorem dL_law_726 : decode cL_law 726 = .ok (.iconst 0, 1) := by decide +kernel
theorem dL_law_727 : decode cL_law 727 = .ok (.ireturn, 1) := by decide +kernel
theorem dL_law_728 : decode cL_law 728 = .ok (.aload_n 1, 1) := by decide +kernel
theorem dL_law_729 : decode cL_law 729 = .ok (.aload_n 0, 1) := by decide +kernel
theorem dL_law_730 : decode cL_law 730 = .ok (.iload_n 3, 1) := by decide +kernel
theorem dL_law_731 : decode cL_law 731 = .ok (.iconst 1, 1) := by decide +kernel
theorem dL_law_732 : decode cL_law 732 = .ok (.iadd, 1) := by decide +kernel
theorem dL_law_733 : decode cL_law 733 = .ok (.iaload, 1) := by decide +kernel
theorem dL_law_734 : decode cL_law 734 = .ok (.aload_n 0, 1) := by decide +kernel
theorem dL_law_735 : decode cL_law 735 = .ok (.iload_n 3, 1) := by decide +kernel
theorem dL_law_736 : decode cL_law 736 = .ok (.iconst 2, 1) := by decide +kernel
theorem dL_law_737 : decode cL_law 737 = .ok (.iadd, 1) := by decide +kernel
theorem dL_law_738 : decode cL_law 738 = .ok (.iaload, 1) := by decide +kernel
theorem dL_law_739 : decode cL_law 739 = .ok (.aload_n 0, 1) := by decide +kernel
theorem dL_law_740 : decode cL_law 740 = .ok (.iload_n 3, 1) := by decide +kernel
theorem dL_law_741 : decode cL_law 741 = .ok (.iconst 3, 1) := by decide +kernel
theorem dL_law_742 : decode cL_law 742 = .ok (.iadd, 1) := by decide +kernel
theorem dL_law_743 : decode cL_law 743 = .ok (.iaload, 1) := by decide +kernel
theorem dL_law_744 : decode cL_law 744 = .ok (.invokevirtual 90, 3) := by decide +kernel
theorem dL_law_747 : decode cL_law 747 = .ok (.aload_n 2, 1) := by decide +kernel
theorem dL_law_748 : decode cL_law 748 = .ok (.aload_n 0, 1) := by decide +kernel
theorem dL_law_749 : decode cL_law 749 = .ok (.iload_n 3, 1) := by decide +kernel
theorem dL_law_750 : decode cL_law 750 = .ok (.iconst 1, 1) := by decide +kernel
theorem dL_law_751 : decode cL_law 751 = .ok (.iadd, 1) := by decide +kernel
theorem dL_law_752 : decode cL_law 752 = .ok (.iaload, 1) := by decide +kernel
theorem dL_law_753 : decode cL_law 753 = .ok (.aload_n 0, 1) := by decide +kernel
theorem dL_law_754 : decode cL_law 754 = .ok (.iload_n 3, 1) := by decide +kernel
theorem dL_law_755 : decode cL_law 755 = .ok (.iconst 2, 1) := by decide +kernel
theorem dL_law_756 : decode cL_law 756 = .ok (.iadd, 1) := by decide +kernel
theorem dL_law_757 : decode cL_law 757 = .ok (.iaload, 1) := by decide +kernel
theorem dL_law_758 : decode cL_law 758 = .ok (.aload_n 0, 1) := by decide +kernel
theorem dL_law_759 : decode cL_law 759 = .ok (.iload_n 3, 1) := by decide +kernel
theorem dL_law_760 : decode cL_law 760 = .ok (.iconst 3, 1) := by decide +kernel
theorem dL_law_761 : decode cL_law 761 = .ok (.iadd, 1) := by decide +kernel
theorem dL_law_762 : decode cL_law 762 = .ok (.iaload, 1) := by decide +kernel
theorem dL_law_763 : decode cL_law 763 = .ok (.invokevirtual 93, 3) := by decide +kernel
theorem dL_law_766 : decode cL_law 766 = .ok (.if_icmp .eq 661, 3) := by decide +kernel
theorem dL_law_769 : decode cL_law 769 = .ok (.iconst 0, 1) := by decide +kernel
theorem dL_law_770 : decode cL_law 770 = .ok (.ireturn, 1) := by decide +kernel
theorem dL_law_771 : decode cL_law 771 = .ok (.aload_n 1, 1) := by decide +kernel
theorem dL_law_772 : decode cL_law 772 = .ok (.aload_n 0, 1) := by decide +kernel
theorem dL_law_773 : decode cL_law 773 = .ok (.iload_n 3, 1) := by decide +kernel
theorem dL_law_774 : decode cL_law 774 = .ok (.iconst 1, 1) := by decide +kernel
theorem dL_law_775 : decode cL_law 775 = .ok (.iadd, 1) := by decide +kernel
theorem dL_law_776 : decode cL_law 776 = .ok (.iaload, 1) := by decide +kernel
theorem dL_law_777 : decode cL_law 777 = .ok (.aload_n 0, 1) := by decide +kernel
theorem dL_law_778 : decode cL_law 778 = .ok (.iload_n 3, 1) := by decide +kernel
theorem dL_law_779 : decode cL_law 779 = .ok (.iconst 2, 1) := by decide +kernel
theorem dL_law_780 : decode cL_law 780 = .ok (.iadd, 1) := by decide +kernel
theorem dL_law_781 : decode cL_law 781 = .ok (.iaload, 1) := by decide +kernel
theorem dL_law_782 : decode cL_law 782 = .ok (.invokevirtual 94, 3) := by decide +kernel
theorem dL_law_785 : decode cL_law 785 = .ok (.aload_n 2, 1) := by decide +kernel
theorem dL_law_786 : decode cL_law 786 = .ok (.aload_n 0, 1) := by decide +kernel
theorem dL_law_787 : decode cL_law 787 = .ok (.iload_n 3, 1) := by decide +kernel
theorem dL_law_788 : decode cL_law 788 = .ok (.iconst 1, 1) := by decide +kernel
theorem dL_law_789 : decode cL_law 789 = .ok (.iadd, 1) := by decide +kernel
theorem dL_law_790 : decode cL_law 790 = .ok (.iaload, 1) := by decide +kernel
theorem dL_law_791 : decode cL_law 791 = .ok (.aload_n 0, 1) := by decide +kernel
theorem dL_law_792 : decode cL_law 792 = .ok (.iload_n 3, 1) := by decide +kernel
theorem dL_law_793 : decode cL_law 793 = .ok (.iconst 2, 1) := by decide +kernel
theorem dL_law_794 : decode cL_law 794 = .ok (.iadd, 1) := by decide +kernel
theorem dL_law_795 : decode cL_law 795 = .ok (.iaload, 1) := by decide +kernel
theorem dL_law_796 : decode cL_law 796 = .ok (.invokevirtual 97, 3) := by decide +kernel
theorem dL_law_799 : decode cL_law 799 = .ok (.if_icmp .eq 628, 3) := by decide +kernel
theorem dL_law_802 : decode cL_law 802 = .ok (.iconst 0, 1) := by decide +kernel
theorem dL_law_803 : decode cL_law 803 = .ok (.ireturn, 1) := by decide +kernel
theorem dL_law_804 : decode cL_law 804 = .ok (.aload_n 1, 1) := by decide +kernel
theorem dL_law_805 : decode cL_law 805 = .ok (.aload_n 0, 1) := by decide +kernel
theorem dL_law_806 : decode cL_law 806 = .ok (.iload_n 3, 1) := by decide +kernel
theorem dL_law_807 : decode cL_law 807 = .ok (.iconst 1, 1) := by decide +kernel
theorem dL_law_808 : decode cL_law 808 = .ok (.iadd, 1) := by decide +kernel
theorem dL_law_809 : decode cL_law 809 = .ok (.iaload, 1) := by decide +kernel
theorem dL_law_810 : decode cL_law 810 = .ok (.aload_n 0, 1) := by decide +kernel
theorem dL_law_811 : decode cL_law 811 = .ok (.iload_n 3, 1) := by decide +kernel
theorem dL_law_812 : decode cL_law 812 = .ok (.iconst 2, 1) := by decide +kernel
theorem dL_law_813 : decode cL_law 813 = .ok (.iadd, 1) := by decide +kernel
end
section
theorem dL_law_814 : decode cL_law 814 = .ok (.iaload, 1) := by decide +kernel
theorem dL_law_815 : decode cL_law 815 = .ok (.invokevirtual 98, 3) := by decide +kernel
theorem dL_law_818 : decode cL_law 818 = .ok (.aload_n 2, 1) := by decide +kernel
theorem dL_law_819 : decode cL_law 819 = .ok (.aload_n 0, 1) := by decide +kernel
theorem dL_law_820 : decode cL_law 820 = .ok (.iload_n 3, 1) := by decide +kernel
theorem dL_law_821 : decode cL_law 821 = .ok (.iconst 1, 1) := by decide +kernel
theorem dL_law_822 : decode cL_law 822 = .ok (.iadd, 1) := by decide +kernel
theorem dL_law_823 : decode cL_law 823 = .ok (.iaload, 1) := by decide +kernel
theorem dL_law_824 : decode cL_law 824 = .ok (.aload_n 0, 1) := by decide +kernel
theorem dL_law_825 : decode cL_law 825 = .ok (.iload_n 3, 1) := by decide +kernel
theorem dL_law_826 : decode cL_law 826 = .ok (.iconst 2, 1) := by decide +kernel
theorem dL_law_827 : decode cL_law 827 = .ok (.iadd, 1) := by decide +kernel
theorem dL_law_828 : decode cL_law 828 = .ok (.iaload, 1) := by decide +kernel
theorem dL_law_829 : decode cL_law 829 = .ok (.invokevirtual 101, 3) := by decide +kernel
theorem dL_law_832 : decode cL_law 832 = .ok (.if_icmp .eq 595, 3) := by decide +kernel
theorem dL_law_835 : decode cL_law 835 = .ok (.iconst 0, 1) := by decide +kernel
theorem dL_law_836 : decode cL_law 836 = .ok (.ireturn, 1) := by decide +kernel
theorem dL_law_837 : decode cL_law 837 = .ok (.aload_n 1, 1) := by decide +kernel
theorem dL_law_838 : decode cL_law 838 = .ok (.aload_n 0, 1) := by decide +kernel
theorem dL_law_839 : decode cL_law 839 = .ok (.iload_n 3, 1) := by decide +kernel
theorem dL_law_840 : decode cL_law 840 = .ok (.iconst 1, 1) := by decide +kernel
theorem dL_law_841 : decode cL_law 841 = .ok (.iadd, 1) := by decide +kernel
theorem dL_law_842 : decode cL_law 842 = .ok (.iaload, 1) := by decide +kernel
theorem dL_law_843 : decode cL_law 843 = .ok (.aload_n 0, 1) := by decide +kernel
theorem dL_law_844 : decode cL_law 844 = .ok (.iload_n 3, 1) := by decide +kernel
theorem dL_law_845 : decode cL_law 845 = .ok (.iconst 2, 1) := by decide +kernel
theorem dL_law_846 : decode cL_law 846 = .ok (.iadd, 1) := by decide +kernel
theorem dL_law_847 : decode cL_law 847 = .ok (.iaload, 1) := by decide +kernel
theorem dL_law_848 : decode cL_law 848 = .ok (.invokevirtual 102, 3) := by decide +kernel
theorem dL_law_851 : decode cL_law 851 = .ok (.aload_n 2, 1) := by decide +kernel
theorem dL_law_852 : decode cL_law 852 = .ok (.aload_n 0, 1) := by decide +kernel
theorem dL_law_853 : decode cL_law 853 = .ok (.iload_n 3, 1) := by decide +kernel
theorem dL_law_854 : decode cL_law 854 = .ok (.iconst 1, 1) := by decide +kernel
theorem dL_law_855 : decode cL_law 855 = .ok (.iadd, 1) := by decide +kernel
theorem dL_law_856 : decode cL_law 856 = .ok (.iaload, 1) := by decide +kernel
theorem dL_law_857 : decode cL_law 857 = .ok (.aload_n 0, 1) := by decide +kernel
theorem dL_law_858 : decode cL_law 858 = .ok (.iload_n 3, 1) := by decide +kernel
theorem dL_law_859 : decode cL_law 859 = .ok (.iconst 2, 1) := by decide +kernel
theorem dL_law_860 : decode cL_law 860 = .ok (.iadd, 1) := by decide +kernel
theorem dL_law_861 : decode cL_law 861 = .ok (.iaload, 1) := by decide +kernel
theorem dL_law_862 : decode cL_law 862 = .ok (.invokevirtual 105, 3) := by decide +kernel
theorem dL_law_865 : decode cL_law 865 = .ok (.if_icmp .eq 562, 3) := by decide +kernel
theorem dL_law_868 : decode cL_law 868 = .ok (.iconst 0, 1) := by decide +kernel
theorem dL_law_869 : decode cL_law 869 = .ok (.ireturn, 1) := by decide +kernel
theorem dL_law_870 : decode cL_law 870 = .ok (.aload_n 1, 1) := by decide +kernel
theorem dL_law_871 : decode cL_law 871 = .ok (.aload_n 0, 1) := by decide +kernel
theorem dL_law_872 : decode cL_law 872 = .ok (.iload_n 3, 1) := by decide +kernel
theorem dL_law_873 : decode cL_law 873 = .ok (.iconst 1, 1) := by decide +kernel
theorem dL_law_874 : decode cL_law 874 = .ok (.iadd, 1) := by decide +kernel
theorem dL_law_875 : decode cL_law 875 = .ok (.iaload, 1) := by decide +kernel
theorem dL_law_876 : decode cL_law 876 = .ok (.aload_n 0, 1) := by decide +kernel
theorem dL_law_877 : decode cL_law 877 = .ok (.iload_n 3, 1) := by decide +kernel
theorem dL_law_878 : decode cL_law 878 = .ok (.iconst 2, 1) := by decide +kernel
theorem dL_law_879 : decode cL_law 879 = .ok (.iadd, 1) := by decide +kernel
theorem dL_law_880 : decode cL_law 880 = .ok (.iaload, 1) := by decide +kernel
theorem dL_law_881 : decode cL_law 881 = .ok (.invokevirtual 106, 3) := by decide +kernel
theorem dL_law_884 : decode cL_law 884 = .ok (.aload_n 2, 1) := by decide +kernel
theorem dL_law_885 : decode cL_law 885 = .ok (.aload_n 0, 1) := by decide +kernel
theorem dL_law_886 : decode cL_law 886 = .ok (.iload_n 3, 1) := by decide +kernel
theorem dL_law_887 : decode cL_law 887 = .ok (.iconst 1, 1) := by decide +kernel
theorem dL_law_888 : decode cL_law 888 = .ok (.iadd, 1) := by decide +kernel
theorem dL_law_889 : decode cL_law 889 = .ok (.iaload, 1) := by decide +kernel
theorem dL_law_890 : decode cL_law 890 = .ok (.aload_n 0, 1) := by decide +kernel
theorem dL_law_891 : decode cL_law 891 = .ok (.iload_n 3, 1) := by decide +kernel
theorem dL_law_892 : decode cL_law 892 = .ok (.iconst 2, 1) := by decide +kernel
theorem dL_law_893 : decode cL_law 893 = .ok (.iadd, 1) := by decide +kernel
theorem dL_law_894 : decode cL_law 894 = .ok (.iaload, 1) := by decide +kernel
theorem dL_law_895 : decode cL_law 895 = .ok (.invokevirtual 109, 3) := by decide +kernel
theorem dL_law_898 : decode cL_law 898 = .ok (.if_icmp .eq 529, 3) := by decide +kernel
theorem dL_law_901 : decode cL_law 901 = .ok (.iconst 0, 1) := by decide +kernel
theorem dL_law_902 : decode cL_law 902 = .ok (.ireturn, 1) := by decide +kernel
theorem dL_law_903 : decode cL_law 903 = .ok (.aload_n 1, 1) := by decide +kernel
theorem dL_law_904 : decode cL_law 904 = .ok (.aload_n 0, 1) := by decide +kernel
theorem dL_law_905 : decode cL_law 905 = .ok (.iload_n 3, 1) := by decide +kernel
theorem dL_law_906 : decode cL_law 906 = .ok (.iconst 1, 1) := by decide +kernel
theorem dL_law_907 : decode cL_law 907 = .ok (.iadd, 1) := by decide +kernel
theorem dL_law_908 : decode cL_law 908 = .ok (.iaload, 1) := by decide +kernel
theorem dL_law_909 : decode cL_law 909 = .ok (.aload_n 0, 1) := by decide +kernel
theorem dL_law_910 : decode cL_law 910 = .ok (.iload_n 3, 1) := by decide +kernel
theorem dL_law_911 : decode cL_law 911 = .ok (.iconst 2, 1) := by decide +kernel
theorem dL_law_912 : decode cL_law 912 = .ok (.iadd, 1) := by decide +kernel
theorem dL_law_913 : decode cL_law 913 = .ok (.iaload, 1) := by decide +kernel
theorem dL_law_914 : decode cL_law 914 = .ok (.invokevirtual 110, 3) := by decide +kernel
theorem dL_law_917 : decode cL_law 917 = .ok (.aload_n 2, 1) := by decide +kernel
theorem dL_law_918 : decode cL_law 918 = .ok (.aload_n 0, 1) := by decide +kernel
theorem dL_law_919 : decode cL_law 919 = .ok (.iload_n 3, 1) := by decide +kernel
theorem dL_law_920 : decode cL_law 920 = .ok (.iconst 1, 1) := by decide +kernel
theorem dL_law_921 : decode cL_law 921 = .ok (.iadd, 1) := by decide +kernel
theorem dL_law_922 : decode cL_law 922 = .ok (.iaload, 1) := by decide +kernel
theorem dL_law_923 : decode cL_law 923 = .ok (.aload_n 0, 1) := by decide +kernel
theorem dL_law_924 : decode cL_law 924 = .ok (.iload_n 3, 1) := by decide +kernel
theorem dL_law_925 : decode cL_law 925 = .ok (.iconst 2, 1) := by decide +kernel
theorem dL_law_926 : decode cL_law 926 = .ok (.iadd, 1) := by decide +kernel
theorem dL_law_927 : decode cL_law 927 = .ok (.iaload, 1) := by decide +kernel
theorem dL_law_928 : decode cL_law 928 = .ok (.invokevirtual 113, 3) := by decide +kernel
theorem dL_law_931 : decode cL_law 931 = .ok (.if_icmp .eq 496, 3) := by decide +kernel
theorem dL_law_934 : decode cL_law 934 = .ok (.iconst 0, 1) := by decide +kernel
theorem dL_law_935 : decode cL_law 935 = .ok (.ireturn, 1) := by decide +kernel
theorem dL_law_936 : decode cL_law 936 = .ok (.aload_n 1, 1) := by decide +kernel
theorem dL_law_937 : decode cL_law 937 = .ok (.aload_n 0, 1) := by decide +kernel
theorem dL_law_938 : decode cL_law 938 = .ok (.iload_n 3, 1) := by decide +kernel
theorem dL_law_939 : decode cL_law 939 = .ok (.iconst 1, 1) := by decide +kernel
theorem dL_law_940 : decode cL_law 940 = .ok (.iadd, 1) := by decide +kernel
theorem dL_law_941 : decode cL_law 941 = .ok (.iaload, 1) := by decide +kernel
theorem dL_law_942 : decode cL_law 942 = .ok (.invokevirtual 114, 3) := by decide +kernel
theorem dL_law_945 : decode cL_law 945 = .ok (.aload_n 2, 1) := by decide +kernel
theorem dL_law_946 : decode cL_law 946 = .ok (.aload_n 0, 1) := by decide +kernel
theorem dL_law_947 : decode cL_law 947 = .ok (.iload_n 3, 1) := by decide +kernel
theorem dL_law_948 : decode cL_law 948 = .ok (.iconst 1, 1) := by decide +kernel
theorem dL_law_949 : decode cL_law 949 = .ok (.iadd, 1) := by decide +kernel
theorem dL_law_950 : decode cL_law 950 = .ok (.iaload, 1) := by decide +kernel
theorem dL_law_951 : decode cL_law 951 = .ok (.invokevirtual 117, 3) := by decide +kernel
theorem dL_law_954 : decode cL_law 954 = .ok (.if_icmp .eq 473, 3) := by decide +kernel
theorem dL_law_957 : decode cL_law 957 = .ok (.iconst 0, 1) := by decide +kernel
theorem dL_law_958 : decode cL_law 958 = .ok (.ireturn, 1) := by decide +kernel
theorem dL_law_959 : decode cL_law 959 = .ok (.aload_n 1, 1) := by decide +kernel
theorem dL_law_960 : decode cL_law 960 = .ok (.aload_n 0, 1) := by decide +kernel
theorem dL_law_961 : decode cL_law 961 = .ok (.iload_n 3, 1) := by decide +kernel
theorem dL_law_962 : decode cL_law 962 = .ok (.iconst 1, 1) := by decide +kernel
theorem dL_law_963 : decode cL_law 963 = .ok (.iadd, 1) := by decide +kernel
theorem dL_law_964 : decode cL_law 964 = .ok (.iaload, 1) := by decide +kernel
theorem dL_law_965 : decode cL_law 965 = .ok (.aload_n 0, 1) := by decide +kernel
theorem dL_law_966 : decode cL_law 966 = .ok (.iload_n 3, 1) := by decide +kernel
theorem dL_law_967 : decode cL_law 967 = .ok (.iconst 2, 1) := by decide +kernel
theorem dL_law_968 : decode cL_law 968 = .ok (.iadd, 1) := by decide +kernel
theorem dL_law_969 : decode cL_law 969 = .ok (.iaload, 1) := by decide +kernel
theorem dL_law_970 : decode cL_law 970 = .ok (.aload_n 0, 1) := by decide +kernel
theorem dL_law_971 : decode cL_law 971 = .ok (.iload_n 3, 1) := by decide +kernel
theorem dL_law_972 : decode cL_law 972 = .ok (.iconst 3, 1) := by decide +kernel
theorem dL_law_973 : decode cL_law 973 = .ok (.iadd, 1) := by decide +kernel
theorem dL_law_974 : decode cL_law 974 = .ok (.iaload, 1) := by decide +kernel
theorem dL_law_975 : decode cL_law 975 = .ok (.invokevirtual 118, 3) := by decide +kernel
theorem dL_law_978 : decode cL_law 978 = .ok (.aload_n 2, 1) := by decide +kernel
theorem dL_law_979 : decode cL_law 979 = .ok (.aload_n 0, 1) := by decide +kernel
theorem dL_law_980 : decode cL_law 980 = .ok (.iload_n 3, 1) := by decide +kernel
theorem dL_law_981 : decode cL_law 981 = .ok (.iconst 1, 1) := by decide +kernel
theorem dL_law_982 : decode cL_law 982 = .ok (.iadd, 1) := by decide +kernel
theorem dL_law_983 : decode cL_law 983 = .ok (.iaload, 1) := by decide +kernel
theorem dL_law_984 : decode cL_law 984 = .ok (.aload_n 0, 1) := by decide +kernel
theorem dL_law_985 : decode cL_law 985 = .ok (.iload_n 3, 1) := by decide +kernel
theorem dL_law_986 : decode cL_law 986 = .ok (.iconst 2, 1) := by decide +kernel
theorem dL_law_987 : decode cL_law 987 = .ok (.iadd, 1) := by decide +kernel
theorem dL_law_988 : decode cL_law 988 = .ok (.iaload, 1) := by decide +kernel
theorem dL_law_989 : decode cL_law 989 = .ok (.aload_n 0, 1) := by decide +kernel
theorem dL_law_990 : decode cL_law 990 = .ok (.iload_n 3, 1) := by decide +kernel
theorem dL_law_991 : decode cL_law 991 = .ok (.iconst 3, 1) := by decide +kernel
theorem dL_law_992 : decode cL_law 992 = .ok (.iadd, 1) := by decide +kernel
theorem dL_law_993 : decode cL_law 993 = .ok (.iaload, 1) := by decide +kernel
theorem dL_law_994 : decode cL_law 994 = .ok (.invokevirtual 121, 3) := by decide +kernel
theorem dL_law_997 : decode cL_law 997 = .ok (.if_icmp .eq 430, 3) := by decide +kernel
theorem dL_law_1000 : decode cL_law 1000 = .ok (.iconst 0, 1) := by decide +kernel
theorem dL_law_1001 : decode cL_law 1001 = .ok (.ireturn, 1) := by decide +kernel
theorem dL_law_1002 : decode cL_law 1002 = .ok (.aload_n 1, 1) := by decide +kernel
theorem dL_law_1003 : decode cL_law 1003 = .ok (.aload_n 0, 1) := by decide +kernel
theorem dL_law_1004 : decode cL_law 1004 = .ok (.iload_n 3, 1) := by decide +kernel
theorem dL_law_1005 : decode cL_law 1005 = .ok (.iconst 1, 1) := by decide +kernel
theorem dL_law_1006 : decode cL_law 1006 = .ok (.iadd, 1) := by decide +kernel
theorem dL_law_1007 : decode cL_law 1007 = .ok (.iaload, 1) := by decide +kernel
theorem dL_law_1008 : decode cL_law 1008 = .ok (.invokevirtual 122, 3) := by decide +kernel
theorem dL_law_1011 : decode cL_law 1011 = .ok (.aload_n 2, 1) := by decide +kernel
theorem dL_law_1012 : decode cL_law 1012 = .ok (.aload_n 0, 1) := by decide +kernel
theorem dL_law_1013 : decode cL_law 1013 = .ok (.iload_n 3, 1) := by decide +kernel
theorem dL_law_1014 : decode cL_law 1014 = .ok (.iconst 1, 1) := by decide +kernel
theorem dL_law_1015 : decode cL_law 1015 = .ok (.iadd, 1) := by decide +kernel
theorem dL_law_1016 : decode cL_law 1016 = .ok (.iaload, 1) := by decide +kernel
theorem dL_law_1017 : decode cL_law 1017 = .ok (.invokevirtual 125, 3) := by decide +kernel
theorem dL_law_1020 : decode cL_law 1020 = .ok (.if_icmp .eq 407, 3) := by decide +kernel
theorem dL_law_1023 : decode cL_law 1023 = .ok (.iconst 0, 1) := by decide +kernel
theorem dL_law_1024 : decode cL_law 1024 = .ok (.ireturn, 1) := by decide +kernel
theorem dL_law_1025 : decode cL_law 1025 = .ok (.aload_n 1, 1) := by decide +kernel
theorem dL_law_1026 : decode cL_law 1026 = .ok (.aload_n 0, 1) := by decide +kernel
theorem dL_law_1027 : decode cL_law 1027 = .ok (.iload_n 3, 1) := by decide +kernel
theorem dL_law_1028 : decode cL_law 1028 = .ok (.iconst 1, 1) := by decide +kernel
theorem dL_law_1029 : decode cL_law 1029 = .ok (.iadd, 1) := by decide +kernel
theorem dL_law_1030 : decode cL_law 1030 = .ok (.iaload, 1) := by decide +kernel
theorem dL_law_1031 : decode cL_law 1031 = .ok (.invokevirtual 126, 3) := by decide +kernel
theorem dL_law_1034 : decode cL_law 1034 = .ok (.aload_n 2, 1) := by decide +kernel
theorem dL_law_1035 : decode cL_law 1035 = .ok (.aload_n 0, 1) := by decide +kernel
theorem dL_law_1036 : decode cL_law 1036 = .ok (.iload_n 3, 1) := by decide +kernel
theorem dL_law_1037 : decode cL_law 1037 = .ok (.iconst 1, 1) := by decide +kernel
theorem dL_law_1038 : decode cL_law 1038 = .ok (.iadd, 1) := by decide +kernel
theorem dL_law_1039 : decode cL_law 1039 = .ok (.iaload, 1) := by decide +kernel
theorem dL_law_1040 : decode cL_law 1040 = .ok (.invokevirtual 129, 3) := by decide +kernel
theorem dL_law_1043 : decode cL_law 1043 = .ok (.if_icmp .eq 384, 3) := by decide +kernel
theorem dL_law_1046 : decode cL_law 1046 = .ok (.iconst 0, 1) := by decide +kernel
theorem dL_law_1047 : decode cL_law 1047 = .ok (.ireturn, 1) := by decide +kernel
theorem dL_law_1048 : decode cL_law 1048 = .ok (.aload_n 1, 1) := by decide +kernel
theorem dL_law_1049 : decode cL_law 1049 = .ok (.aload_n 0, 1) := by decide +kernel
theorem dL_law_1050 : decode cL_law 1050 = .ok (.iload_n 3, 1) := by decide +kernel
theorem dL_law_1051 : decode cL_law 1051 = .ok (.iconst 1, 1) := by decide +kernel
theorem dL_law_1052 : decode cL_law 1052 = .ok (.iadd, 1) := by decide +kernel
theorem dL_law_1053 : decode cL_law 1053 = .ok (.iaload, 1) := by decide +kernel
theorem dL_law_1054 : decode cL_law 1054 = .ok (.aload_n 0, 1) := by decide +kernel
theorem dL_law_1055 : decode cL_law 1055 = .ok (.iload_n 3, 1) := by decide +kernel
theorem dL_law_1056 : decode cL_law 1056 = .ok (.iconst 2, 1) := by decide +kernel
theorem dL_law_1057 : decode cL_law 1057 = .ok (.iadd, 1) := by decide +kernel
theorem dL_law_1058 : decode cL_law 1058 = .ok (.iaload, 1) := by decide +kernel
theorem dL_law_1059 : decode cL_law 1059 = .ok (.aload_n 0, 1) := by decide +kernel
theorem dL_law_1060 : decode cL_law 1060 = .ok (.iload_n 3, 1) := by decide +kernel
theorem dL_law_1061 : decode cL_law 1061 = .ok (.iconst 3, 1) := by decide +kernel
theorem dL_law_1062 : decode cL_law 1062 = .ok (.iadd, 1) := by decide +kernel
theorem dL_law_1063 : decode cL_law 1063 = .ok (.iaload, 1) := by decide +kernel
theorem dL_law_1064 : decode cL_law 1064 = .ok (.invokevirtual 130, 3) := by decide +kernel
theorem dL_law_1067 : decode cL_law 1067 = .ok (.aload_n 2, 1) := by decide +kernel
theorem dL_law_1068 : decode cL_law 1068 = .ok (.aload_n 0, 1) := by decide +kernel
theorem dL_law_1069 : decode cL_law 1069 = .ok (.iload_n 3, 1) := by decide +kernel
theorem dL_law_1070 : decode cL_law 1070 = .ok (.iconst 1, 1) := by decide +kernel
theorem dL_law_1071 : decode cL_law 1071 = .ok (.iadd, 1) := by decide +kernel
theorem dL_law_1072 : decode cL_law 1072 = .ok (.iaload, 1) := by decide +kernel
theorem dL_law_1073 : decode cL_law 1073 = .ok (.aload_n 0, 1) := by decide +kernel
theorem dL_law_1074 : decode cL_law 1074 = .ok (.iload_n 3, 1) := by decide +kernel
theorem dL_law_1075 : decode cL_law 1075 = .ok (.iconst 2, 1) := by decide +kernel
theorem dL_law_1076 : decode cL_law 1076 = .ok (.iadd, 1) := by decide +kernel
theorem dL_law_1077 : decode cL_law 1077 = .ok (.iaload, 1) := by decide +kernel
theorem dL_law_1078 : decode cL_law 1078 = .ok (.aload_n 0, 1) := by decide +kernel
theorem dL_law_1079 : decode cL_law 1079 = .ok (.iload_n 3, 1) := by decide +kernel
theorem dL_law_1080 : decode cL_law 1080 = .ok (.iconst 3, 1) := by decide +kernel
theorem dL_law_1081 : decode cL_law 1081 = .ok (.iadd, 1) := by decide +kernel
theorem dL_law_1082 : decode cL_law 1082 = .ok (.iaload, 1) := by decide +kernel
theorem dL_law_1083 : decode cL_law 1083 = .ok (.invokevirtual 134, 3) := by decide +kernel
theorem dL_law_1086 : decode cL_law 1086 = .ok (.lcmp, 1) := by decide +kernel
theorem dL_law_1087 : decode cL_law 1087 = .ok (.ifCond .eq 340, 3) := by decide +kernel
theorem dL_law_1090 : decode cL_law 1090 = .ok (.iconst 0, 1) := by decide +kernel
theorem dL_law_1091 : decode cL_law 1091 = .ok (.ireturn, 1) := by decide +kernel
theorem dL_law_1092 : decode cL_law 1092 = .ok (.aload_n 1, 1) := by decide +kernel
theorem dL_law_1093 : decode cL_law 1093 = .ok (.aload_n 0, 1) := by decide +kernel
theorem dL_law_1094 : decode cL_law 1094 = .ok (.iload_n 3, 1) := by decide +kernel
theorem dL_law_1095 : decode cL_law 1095 = .ok (.iconst 1, 1) := by decide +kernel
theorem dL_law_1096 : decode cL_law 1096 = .ok (.iadd, 1) := by decide +kernel
theorem dL_law_1097 : decode cL_law 1097 = .ok (.iaload, 1) := by decide +kernel
theorem dL_law_1098 : decode cL_law 1098 = .ok (.invokevirtual 135, 3) := by decide +kernel
theorem dL_law_1101 : decode cL_law 1101 = .ok (.aload_n 2, 1) := by decide +kernel
theorem dL_law_1102 : decode cL_law 1102 = .ok (.aload_n 0, 1) := by decide +kernel
theorem dL_law_1103 : decode cL_law 1103 = .ok (.iload_n 3, 1) := by decide +kernel
theorem dL_law_1104 : decode cL_law 1104 = .ok (.iconst 1, 1) := by decide +kernel
theorem dL_law_1105 : decode cL_law 1105 = .ok (.iadd, 1) := by decide +kernel
theorem dL_law_1106 : decode cL_law 1106 = .ok (.iaload, 1) := by decide +kernel
theorem dL_law_1107 : decode cL_law 1107 = .ok (.invokevirtual 139, 3) := by decide +kernel
theorem dL_law_1110 : decode cL_law 1110 = .ok (.lcmp, 1) := by decide +kernel
theorem dL_law_1111 : decode cL_law 1111 = .ok (.ifCond .eq 316, 3) := by decide +kernel
theorem dL_law_1114 : decode cL_law 1114 = .ok (.iconst 0, 1) := by decide +kernel
theorem dL_law_1115 : decode cL_law 1115 = .ok (.ireturn, 1) := by decide +kernel
theorem dL_law_1116 : decode cL_law 1116 = .ok (.aload_n 1, 1) := by decide +kernel
theorem dL_law_1117 : decode cL_law 1117 = .ok (.aload_n 0, 1) := by decide +kernel
theorem dL_law_1118 : decode cL_law 1118 = .ok (.iload_n 3, 1) := by decide +kernel
theorem dL_law_1119 : decode cL_law 1119 = .ok (.iconst 1, 1) := by decide +kernel
theorem dL_law_1120 : decode cL_law 1120 = .ok (.iadd, 1) := by decide +kernel
theorem dL_law_1121 : decode cL_law 1121 = .ok (.iaload, 1) := by decide +kernel
theorem dL_law_1122 : decode cL_law 1122 = .ok (.invokevirtual 140, 3) := by decide +kernel
theorem dL_law_1125 : decode cL_law 1125 = .ok (.aload_n 2, 1) := by decide +kernel
end
section
theorem dL_law_1126 : decode cL_law 1126 = .ok (.aload_n 0, 1) := by decide +kernel
theorem dL_law_1127 : decode cL_law 1127 = .ok (.iload_n 3, 1) := by decide +kernel
theorem dL_law_1128 : decode cL_law 1128 = .ok (.iconst 1, 1) := by decide +kernel
theorem dL_law_1129 : decode cL_law 1129 = .ok (.iadd, 1) := by decide +kernel
theorem dL_law_1130 : decode cL_law 1130 = .ok (.iaload, 1) := by decide +kernel
theorem dL_law_1131 : decode cL_law 1131 = .ok (.invokevirtual 143, 3) := by decide +kernel
theorem dL_law_1134 : decode cL_law 1134 = .ok (.if_icmp .eq 293, 3) := by decide +kernel
theorem dL_law_1137 : decode cL_law 1137 = .ok (.iconst 0, 1) := by decide +kernel
theorem dL_law_1138 : decode cL_law 1138 = .ok (.ireturn, 1) := by decide +kernel
theorem dL_law_1139 : decode cL_law 1139 = .ok (.aload_n 1, 1) := by decide +kernel
theorem dL_law_1140 : decode cL_law 1140 = .ok (.aload_n 0, 1) := by decide +kernel
theorem dL_law_1141 : decode cL_law 1141 = .ok (.iload_n 3, 1) := by decide +kernel
theorem dL_law_1142 : decode cL_law 1142 = .ok (.iconst 1, 1) := by decide +kernel
theorem dL_law_1143 : decode cL_law 1143 = .ok (.iadd, 1) := by decide +kernel
theorem dL_law_1144 : decode cL_law 1144 = .ok (.iaload, 1) := by decide +kernel
theorem dL_law_1145 : decode cL_law 1145 = .ok (.invokevirtual 144, 3) := by decide +kernel
theorem dL_law_1148 : decode cL_law 1148 = .ok (.aload_n 2, 1) := by decide +kernel
theorem dL_law_1149 : decode cL_law 1149 = .ok (.aload_n 0, 1) := by decide +kernel
theorem dL_law_1150 : decode cL_law 1150 = .ok (.iload_n 3, 1) := by decide +kernel
theorem dL_law_1151 : decode cL_law 1151 = .ok (.iconst 1, 1) := by decide +kernel
theorem dL_law_1152 : decode cL_law 1152 = .ok (.iadd, 1) := by decide +kernel
theorem dL_law_1153 : decode cL_law 1153 = .ok (.iaload, 1) := by decide +kernel
theorem dL_law_1154 : decode cL_law 1154 = .ok (.invokevirtual 147, 3) := by decide +kernel
theorem dL_law_1157 : decode cL_law 1157 = .ok (.lcmp, 1) := by decide +kernel
theorem dL_law_1158 : decode cL_law 1158 = .ok (.ifCond .eq 269, 3) := by decide +kernel
theorem dL_law_1161 : decode cL_law 1161 = .ok (.iconst 0, 1) := by decide +kernel
theorem dL_law_1162 : decode cL_law 1162 = .ok (.ireturn, 1) := by decide +kernel
theorem dL_law_1163 : decode cL_law 1163 = .ok (.aload_n 1, 1) := by decide +kernel
theorem dL_law_1164 : decode cL_law 1164 = .ok (.aload_n 0, 1) := by decide +kernel
theorem dL_law_1165 : decode cL_law 1165 = .ok (.iload_n 3, 1) := by decide +kernel
theorem dL_law_1166 : decode cL_law 1166 = .ok (.iconst 1, 1) := by decide +kernel
theorem dL_law_1167 : decode cL_law 1167 = .ok (.iadd, 1) := by decide +kernel
theorem dL_law_1168 : decode cL_law 1168 = .ok (.iaload, 1) := by decide +kernel
theorem dL_law_1169 : decode cL_law 1169 = .ok (.aload_n 0, 1) := by decide +kernel
theorem dL_law_1170 : decode cL_law 1170 = .ok (.iload_n 3, 1) := by decide +kernel
theorem dL_law_1171 : decode cL_law 1171 = .ok (.iconst 2, 1) := by decide +kernel
theorem dL_law_1172 : decode cL_law 1172 = .ok (.iadd, 1) := by decide +kernel
theorem dL_law_1173 : decode cL_law 1173 = .ok (.iaload, 1) := by decide +kernel
theorem dL_law_1174 : decode cL_law 1174 = .ok (.aload_n 0, 1) := by decide +kernel
theorem dL_law_1175 : decode cL_law 1175 = .ok (.iload_n 3, 1) := by decide +kernel
theorem dL_law_1176 : decode cL_law 1176 = .ok (.iconst 3, 1) := by decide +kernel
theorem dL_law_1177 : decode cL_law 1177 = .ok (.iadd, 1) := by decide +kernel
theorem dL_law_1178 : decode cL_law 1178 = .ok (.iaload, 1) := by decide +kernel
theorem dL_law_1179 : decode cL_law 1179 = .ok (.invokevirtual 148, 3) := by decide +kernel
theorem dL_law_1182 : decode cL_law 1182 = .ok (.aload_n 2, 1) := by decide +kernel
theorem dL_law_1183 : decode cL_law 1183 = .ok (.aload_n 0, 1) := by decide +kernel
theorem dL_law_1184 : decode cL_law 1184 = .ok (.iload_n 3, 1) := by decide +kernel
theorem dL_law_1185 : decode cL_law 1185 = .ok (.iconst 1, 1) := by decide +kernel
theorem dL_law_1186 : decode cL_law 1186 = .ok (.iadd, 1) := by decide +kernel
theorem dL_law_1187 : decode cL_law 1187 = .ok (.iaload, 1) := by decide +kernel
theorem dL_law_1188 : decode cL_law 1188 = .ok (.aload_n 0, 1) := by decide +kernel
theorem dL_law_1189 : decode cL_law 1189 = .ok (.iload_n 3, 1) := by decide +kernel
theorem dL_law_1190 : decode cL_law 1190 = .ok (.iconst 2, 1) := by decide +kernel
theorem dL_law_1191 : decode cL_law 1191 = .ok (.iadd, 1) := by decide +kernel
theorem dL_law_1192 : decode cL_law 1192 = .ok (.iaload, 1) := by decide +kernel
theorem dL_law_1193 : decode cL_law 1193 = .ok (.aload_n 0, 1) := by decide +kernel
theorem dL_law_1194 : decode cL_law 1194 = .ok (.iload_n 3, 1) := by decide +kernel
theorem dL_law_1195 : decode cL_law 1195 = .ok (.iconst 3, 1) := by decide +kernel
theorem dL_law_1196 : decode cL_law 1196 = .ok (.iadd, 1) := by decide +kernel
theorem dL_law_1197 : decode cL_law 1197 = .ok (.iaload, 1) := by decide +kernel
theorem dL_law_1198 : decode cL_law 1198 = .ok (.invokevirtual 151, 3) := by decide +kernel
theorem dL_law_1201 : decode cL_law 1201 = .ok (.if_icmp .eq 226, 3) := by decide +kernel
theorem dL_law_1204 : decode cL_law 1204 = .ok (.iconst 0, 1) := by decide +kernel
theorem dL_law_1205 : decode cL_law 1205 = .ok (.ireturn, 1) := by decide +kernel
theorem dL_law_1206 : decode cL_law 1206 = .ok (.aload_n 1, 1) := by decide +kernel
theorem dL_law_1207 : decode cL_law 1207 = .ok (.aload_n 0, 1) := by decide +kernel
theorem dL_law_1208 : decode cL_law 1208 = .ok (.iload_n 3, 1) := by decide +kernel
theorem dL_law_1209 : decode cL_law 1209 = .ok (.iconst 1, 1) := by decide +kernel
theorem dL_law_1210 : decode cL_law 1210 = .ok (.iadd, 1) := by decide +kernel
theorem dL_law_1211 : decode cL_law 1211 = .ok (.iaload, 1) := by decide +kernel
theorem dL_law_1212 : decode cL_law 1212 = .ok (.invokevirtual 152, 3) := by decide +kernel
theorem dL_law_1215 : decode cL_law 1215 = .ok (.aload_n 2, 1) := by decide +kernel
theorem dL_law_1216 : decode cL_law 1216 = .ok (.aload_n 0, 1) := by decide +kernel
theorem dL_law_1217 : decode cL_law 1217 = .ok (.iload_n 3, 1) := by decide +kernel
theorem dL_law_1218 : decode cL_law 1218 = .ok (.iconst 1, 1) := by decide +kernel
theorem dL_law_1219 : decode cL_law 1219 = .ok (.iadd, 1) := by decide +kernel
theorem dL_law_1220 : decode cL_law 1220 = .ok (.iaload, 1) := by decide +kernel
theorem dL_law_1221 : decode cL_law 1221 = .ok (.invokevirtual 155, 3) := by decide +kernel
theorem dL_law_1224 : decode cL_law 1224 = .ok (.if_icmp .eq 203, 3) := by decide +kernel
theorem dL_law_1227 : decode cL_law 1227 = .ok (.iconst 0, 1) := by decide +kernel
theorem dL_law_1228 : decode cL_law 1228 = .ok (.ireturn, 1) := by decide +kernel
theorem dL_law_1229 : decode cL_law 1229 = .ok (.aload_n 1, 1) := by decide +kernel
theorem dL_law_1230 : decode cL_law 1230 = .ok (.aload_n 0, 1) := by decide +kernel
theorem dL_law_1231 : decode cL_law 1231 = .ok (.iload_n 3, 1) := by decide +kernel
theorem dL_law_1232 : decode cL_law 1232 = .ok (.iconst 1, 1) := by decide +kernel
theorem dL_law_1233 : decode cL_law 1233 = .ok (.iadd, 1) := by decide +kernel
theorem dL_law_1234 : decode cL_law 1234 = .ok (.iaload, 1) := by decide +kernel
theorem dL_law_1235 : decode cL_law 1235 = .ok (.invokevirtual 156, 3) := by decide +kernel
theorem dL_law_1238 : decode cL_law 1238 = .ok (.aload_n 2, 1) := by decide +kernel
theorem dL_law_1239 : decode cL_law 1239 = .ok (.aload_n 0, 1) := by decide +kernel
theorem dL_law_1240 : decode cL_law 1240 = .ok (.iload_n 3, 1) := by decide +kernel
theorem dL_law_1241 : decode cL_law 1241 = .ok (.iconst 1, 1) := by decide +kernel
theorem dL_law_1242 : decode cL_law 1242 = .ok (.iadd, 1) := by decide +kernel
theorem dL_law_1243 : decode cL_law 1243 = .ok (.iaload, 1) := by decide +kernel
theorem dL_law_1244 : decode cL_law 1244 = .ok (.invokevirtual 159, 3) := by decide +kernel
theorem dL_law_1247 : decode cL_law 1247 = .ok (.if_icmp .eq 180, 3) := by decide +kernel
theorem dL_law_1250 : decode cL_law 1250 = .ok (.iconst 0, 1) := by decide +kernel
theorem dL_law_1251 : decode cL_law 1251 = .ok (.ireturn, 1) := by decide +kernel
theorem dL_law_1252 : decode cL_law 1252 = .ok (.aload_n 1, 1) := by decide +kernel
theorem dL_law_1253 : decode cL_law 1253 = .ok (.aload_n 0, 1) := by decide +kernel
theorem dL_law_1254 : decode cL_law 1254 = .ok (.iload_n 3, 1) := by decide +kernel
theorem dL_law_1255 : decode cL_law 1255 = .ok (.iconst 1, 1) := by decide +kernel
theorem dL_law_1256 : decode cL_law 1256 = .ok (.iadd, 1) := by decide +kernel
theorem dL_law_1257 : decode cL_law 1257 = .ok (.iaload, 1) := by decide +kernel
theorem dL_law_1258 : decode cL_law 1258 = .ok (.aload_n 0, 1) := by decide +kernel
theorem dL_law_1259 : decode cL_law 1259 = .ok (.iload_n 3, 1) := by decide +kernel
theorem dL_law_1260 : decode cL_law 1260 = .ok (.iconst 2, 1) := by decide +kernel
theorem dL_law_1261 : decode cL_law 1261 = .ok (.iadd, 1) := by decide +kernel
theorem dL_law_1262 : decode cL_law 1262 = .ok (.iaload, 1) := by decide +kernel
theorem dL_law_1263 : decode cL_law 1263 = .ok (.aload_n 0, 1) := by decide +kernel
theorem dL_law_1264 : decode cL_law 1264 = .ok (.iload_n 3, 1) := by decide +kernel
theorem dL_law_1265 : decode cL_law 1265 = .ok (.iconst 3, 1) := by decide +kernel
theorem dL_law_1266 : decode cL_law 1266 = .ok (.iadd, 1) := by decide +kernel
theorem dL_law_1267 : decode cL_law 1267 = .ok (.iaload, 1) := by decide +kernel
theorem dL_law_1268 : decode cL_law 1268 = .ok (.invokevirtual 160, 3) := by decide +kernel
theorem dL_law_1271 : decode cL_law 1271 = .ok (.aload_n 2, 1) := by decide +kernel
theorem dL_law_1272 : decode cL_law 1272 = .ok (.aload_n 0, 1) := by decide +kernel
theorem dL_law_1273 : decode cL_law 1273 = .ok (.iload_n 3, 1) := by decide +kernel
theorem dL_law_1274 : decode cL_law 1274 = .ok (.iconst 1, 1) := by decide +kernel
theorem dL_law_1275 : decode cL_law 1275 = .ok (.iadd, 1) := by decide +kernel
theorem dL_law_1276 : decode cL_law 1276 = .ok (.iaload, 1) := by decide +kernel
theorem dL_law_1277 : decode cL_law 1277 = .ok (.aload_n 0, 1) := by decide +kernel
theorem dL_law_1278 : decode cL_law 1278 = .ok (.iload_n 3, 1) := by decide +kernel
theorem dL_law_1279 : decode cL_law 1279 = .ok (.iconst 2, 1) := by decide +kernel
theorem dL_law_1280 : decode cL_law 1280 = .ok (.iadd, 1) := by decide +kernel
theorem dL_law_1281 : decode cL_law 1281 = .ok (.iaload, 1) := by decide +kernel
theorem dL_law_1282 : decode cL_law 1282 = .ok (.aload_n 0, 1) := by decide +kernel
theorem dL_law_1283 : decode cL_law 1283 = .ok (.iload_n 3, 1) := by decide +kernel
theorem dL_law_1284 : decode cL_law 1284 = .ok (.iconst 3, 1) := by decide +kernel
theorem dL_law_1285 : decode cL_law 1285 = .ok (.iadd, 1) := by decide +kernel
theorem dL_law_1286 : decode cL_law 1286 = .ok (.iaload, 1) := by decide +kernel
theorem dL_law_1287 : decode cL_law 1287 = .ok (.invokevirtual 163, 3) := by decide +kernel
theorem dL_law_1290 : decode cL_law 1290 = .ok (.if_icmp .eq 137, 3) := by decide +kernel
theorem dL_law_1293 : decode cL_law 1293 = .ok (.iconst 0, 1) := by decide +kernel
theorem dL_law_1294 : decode cL_law 1294 = .ok (.ireturn, 1) := by decide +kernel
theorem dL_law_1295 : decode cL_law 1295 = .ok (.aload_n 1, 1) := by decide +kernel
theorem dL_law_1296 : decode cL_law 1296 = .ok (.aload_n 0, 1) := by decide +kernel
theorem dL_law_1297 : decode cL_law 1297 = .ok (.iload_n 3, 1) := by decide +kernel
theorem dL_law_1298 : decode cL_law 1298 = .ok (.iconst 1, 1) := by decide +kernel
theorem dL_law_1299 : decode cL_law 1299 = .ok (.iadd, 1) := by decide +kernel
theorem dL_law_1300 : decode cL_law 1300 = .ok (.iaload, 1) := by decide +kernel
theorem dL_law_1301 : decode cL_law 1301 = .ok (.aload_n 0, 1) := by decide +kernel
theorem dL_law_1302 : decode cL_law 1302 = .ok (.iload_n 3, 1) := by decide +kernel
theorem dL_law_1303 : decode cL_law 1303 = .ok (.iconst 2, 1) := by decide +kernel
theorem dL_law_1304 : decode cL_law 1304 = .ok (.iadd, 1) := by decide +kernel
theorem dL_law_1305 : decode cL_law 1305 = .ok (.iaload, 1) := by decide +kernel
theorem dL_law_1306 : decode cL_law 1306 = .ok (.aload_n 0, 1) := by decide +kernel
theorem dL_law_1307 : decode cL_law 1307 = .ok (.iload_n 3, 1) := by decide +kernel
theorem dL_law_1308 : decode cL_law 1308 = .ok (.iconst 3, 1) := by decide +kernel
theorem dL_law_1309 : decode cL_law 1309 = .ok (.iadd, 1) := by decide +kernel
theorem dL_law_1310 : decode cL_law 1310 = .ok (.iaload, 1) := by decide +kernel
theorem dL_law_1311 : decode cL_law 1311 = .ok (.invokevirtual 164, 3) := by decide +kernel
theorem dL_law_1314 : decode cL_law 1314 = .ok (.aload_n 2, 1) := by decide +kernel
theorem dL_law_1315 : decode cL_law 1315 = .ok (.aload_n 0, 1) := by decide +kernel
theorem dL_law_1316 : decode cL_law 1316 = .ok (.iload_n 3, 1) := by decide +kernel
theorem dL_law_1317 : decode cL_law 1317 = .ok (.iconst 1, 1) := by decide +kernel
theorem dL_law_1318 : decode cL_law 1318 = .ok (.iadd, 1) := by decide +kernel
theorem dL_law_1319 : decode cL_law 1319 = .ok (.iaload, 1) := by decide +kernel
theorem dL_law_1320 : decode cL_law 1320 = .ok (.aload_n 0, 1) := by decide +kernel
theorem dL_law_1321 : decode cL_law 1321 = .ok (.iload_n 3, 1) := by decide +kernel
theorem dL_law_1322 : decode cL_law 1322 = .ok (.iconst 2, 1) := by decide +kernel
theorem dL_law_1323 : decode cL_law 1323 = .ok (.iadd, 1) := by decide +kernel
theorem dL_law_1324 : decode cL_law 1324 = .ok (.iaload, 1) := by decide +kernel
theorem dL_law_1325 : decode cL_law 1325 = .ok (.aload_n 0, 1) := by decide +kernel
theorem dL_law_1326 : decode cL_law 1326 = .ok (.iload_n 3, 1) := by decide +kernel
theorem dL_law_1327 : decode cL_law 1327 = .ok (.iconst 3, 1) := by decide +kernel
theorem dL_law_1328 : decode cL_law 1328 = .ok (.iadd, 1) := by decide +kernel
theorem dL_law_1329 : decode cL_law 1329 = .ok (.iaload, 1) := by decide +kernel
theorem dL_law_1330 : decode cL_law 1330 = .ok (.invokevirtual 167, 3) := by decide +kernel
theorem dL_law_1333 : decode cL_law 1333 = .ok (.if_icmp .eq 94, 3) := by decide +kernel
theorem dL_law_1336 : decode cL_law 1336 = .ok (.iconst 0, 1) := by decide +kernel
theorem dL_law_1337 : decode cL_law 1337 = .ok (.ireturn, 1) := by decide +kernel
theorem dL_law_1338 : decode cL_law 1338 = .ok (.aload_n 1, 1) := by decide +kernel
theorem dL_law_1339 : decode cL_law 1339 = .ok (.aload_n 0, 1) := by decide +kernel
theorem dL_law_1340 : decode cL_law 1340 = .ok (.iload_n 3, 1) := by decide +kernel
theorem dL_law_1341 : decode cL_law 1341 = .ok (.iconst 1, 1) := by decide +kernel
theorem dL_law_1342 : decode cL_law 1342 = .ok (.iadd, 1) := by decide +kernel
theorem dL_law_1343 : decode cL_law 1343 = .ok (.iaload, 1) := by decide +kernel
theorem dL_law_1344 : decode cL_law 1344 = .ok (.aload_n 0, 1) := by decide +kernel
theorem dL_law_1345 : decode cL_law 1345 = .ok (.iload_n 3, 1) := by decide +kernel
theorem dL_law_1346 : decode cL_law 1346 = .ok (.iconst 2, 1) := by decide +kernel
theorem dL_law_1347 : decode cL_law 1347 = .ok (.iadd, 1) := by decide +kernel
theorem dL_law_1348 : decode cL_law 1348 = .ok (.iaload, 1) := by decide +kernel
theorem dL_law_1349 : decode cL_law 1349 = .ok (.aload_n 0, 1) := by decide +kernel
theorem dL_law_1350 : decode cL_law 1350 = .ok (.iload_n 3, 1) := by decide +kernel
theorem dL_law_1351 : decode cL_law 1351 = .ok (.iconst 3, 1) := by decide +kernel
theorem dL_law_1352 : decode cL_law 1352 = .ok (.iadd, 1) := by decide +kernel
theorem dL_law_1353 : decode cL_law 1353 = .ok (.iaload, 1) := by decide +kernel
theorem dL_law_1354 : decode cL_law 1354 = .ok (.aload_n 0, 1) := by decide +kernel
theorem dL_law_1355 : decode cL_law 1355 = .ok (.iload_n 3, 1) := by decide +kernel
theorem dL_law_1356 : decode cL_law 1356 = .ok (.iconst 4, 1) := by decide +kernel
theorem dL_law_1357 : decode cL_law 1357 = .ok (.iadd, 1) := by decide +kernel
theorem dL_law_1358 : decode cL_law 1358 = .ok (.iaload, 1) := by decide +kernel
theorem dL_law_1359 : decode cL_law 1359 = .ok (.invokevirtual 168, 3) := by decide +kernel
theorem dL_law_1362 : decode cL_law 1362 = .ok (.aload_n 2, 1) := by decide +kernel
theorem dL_law_1363 : decode cL_law 1363 = .ok (.aload_n 0, 1) := by decide +kernel
theorem dL_law_1364 : decode cL_law 1364 = .ok (.iload_n 3, 1) := by decide +kernel
theorem dL_law_1365 : decode cL_law 1365 = .ok (.iconst 1, 1) := by decide +kernel
theorem dL_law_1366 : decode cL_law 1366 = .ok (.iadd, 1) := by decide +kernel
theorem dL_law_1367 : decode cL_law 1367 = .ok (.iaload, 1) := by decide +kernel
theorem dL_law_1368 : decode cL_law 1368 = .ok (.aload_n 0, 1) := by decide +kernel
theorem dL_law_1369 : decode cL_law 1369 = .ok (.iload_n 3, 1) := by decide +kernel
theorem dL_law_1370 : decode cL_law 1370 = .ok (.iconst 2, 1) := by decide +kernel
theorem dL_law_1371 : decode cL_law 1371 = .ok (.iadd, 1) := by decide +kernel
theorem dL_law_1372 : decode cL_law 1372 = .ok (.iaload, 1) := by decide +kernel
theorem dL_law_1373 : decode cL_law 1373 = .ok (.aload_n 0, 1) := by decide +kernel
theorem dL_law_1374 : decode cL_law 1374 = .ok (.iload_n 3, 1) := by decide +kernel
theorem dL_law_1375 : decode cL_law 1375 = .ok (.iconst 3, 1) := by decide +kernel
theorem dL_law_1376 : decode cL_law 1376 = .ok (.iadd, 1) := by decide +kernel
theorem dL_law_1377 : decode cL_law 1377 = .ok (.iaload, 1) := by decide +kernel
theorem dL_law_1378 : decode cL_law 1378 = .ok (.aload_n 0, 1) := by decide +kernel
theorem dL_law_1379 : decode cL_law 1379 = .ok (.iload_n 3, 1) := by decide +kernel
theorem dL_law_1380 : decode cL_law 1380 = .ok (.iconst 4, 1) := by decide +kernel
theorem dL_law_1381 : decode cL_law 1381 = .ok (.iadd, 1) := by decide +kernel
theorem dL_law_1382 : decode cL_law 1382 = .ok (.iaload, 1) := by decide +kernel
theorem dL_law_1383 : decode cL_law 1383 = .ok (.invokevirtual 172, 3) := by decide +kernel
theorem dL_law_1386 : decode cL_law 1386 = .ok (.if_icmp .eq 41, 3) := by decide +kernel
theorem dL_law_1389 : decode cL_law 1389 = .ok (.iconst 0, 1) := by decide +kernel
theorem dL_law_1390 : decode cL_law 1390 = .ok (.ireturn, 1) := by decide +kernel
theorem dL_law_1391 : decode cL_law 1391 = .ok (.aload_n 1, 1) := by decide +kernel
theorem dL_law_1392 : decode cL_law 1392 = .ok (.invokevirtual 173, 3) := by decide +kernel
theorem dL_law_1395 : decode cL_law 1395 = .ok (.aload_n 2, 1) := by decide +kernel
theorem dL_law_1396 : decode cL_law 1396 = .ok (.invokevirtual 176, 3) := by decide +kernel
theorem dL_law_1399 : decode cL_law 1399 = .ok (.if_icmp .eq 28, 3) := by decide +kernel
theorem dL_law_1402 : decode cL_law 1402 = .ok (.iconst 0, 1) := by decide +kernel
theorem dL_law_1403 : decode cL_law 1403 = .ok (.ireturn, 1) := by decide +kernel
theorem dL_law_1404 : decode cL_law 1404 = .ok (.aload_n 1, 1) := by decide +kernel
theorem dL_law_1405 : decode cL_law 1405 = .ok (.aload_n 0, 1) := by decide +kernel
theorem dL_law_1406 : decode cL_law 1406 = .ok (.iload_n 3, 1) := by decide +kernel
theorem dL_law_1407 : decode cL_law 1407 = .ok (.iconst 1, 1) := by decide +kernel
theorem dL_law_1408 : decode cL_law 1408 = .ok (.iadd, 1) := by decide +kernel
theorem dL_law_1409 : decode cL_law 1409 = .ok (.iaload, 1) := by decide +kernel
theorem dL_law_1410 : decode cL_law 1410 = .ok (.invokevirtual 177, 3) := by decide +kernel
theorem dL_law_1413 : decode cL_law 1413 = .ok (.aload_n 2, 1) := by decide +kernel
theorem dL_law_1414 : decode cL_law 1414 = .ok (.aload_n 0, 1) := by decide +kernel
theorem dL_law_1415 : decode cL_law 1415 = .ok (.iload_n 3, 1) := by decide +kernel
theorem dL_law_1416 : decode cL_law 1416 = .ok (.iconst 1, 1) := by decide +kernel
theorem dL_law_1417 : decode cL_law 1417 = .ok (.iadd, 1) := by decide +kernel
theorem dL_law_1418 : decode cL_law 1418 = .ok (.iaload, 1) := by decide +kernel
theorem dL_law_1419 : decode cL_law 1419 = .ok (.invokevirtual 180, 3) := by decide +kernel
theorem dL_law_1422 : decode cL_law 1422 = .ok (.if_icmp .eq 5, 3) := by decide +kernel
theorem dL_law_1425 : decode cL_law 1425 = .ok (.iconst 0, 1) := by decide +kernel
theorem dL_law_1426 : decode cL_law 1426 = .ok (.ireturn, 1) := by decide +kernel
theorem dL_law_1427 : decode cL_law 1427 = .ok (.iinc 3 5, 3) := by decide +kernel
theorem dL_law_1430 : decode cL_law 1430 = .ok (.goto (-1412), 3) := by decide +kernel
theorem dL_law_1433 : decode cL_law 1433 = .ok (.iconst 1, 1) := by decide +kernel
theorem dL_law_1434 : decode cL_law 1434 = .ok (.ireturn, 1) := by decide +kernel
end
