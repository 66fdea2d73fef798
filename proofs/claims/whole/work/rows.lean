section
/-- a private method of a class that the tables say can be made, by its rows of tables_1 -/
def lw_okq (q : MethodName × Nat) : Prop := (q.1.cls ≠ "java/lang/invoke/MethodHandle" ∧ q.1.cls ≠ "java/lang/invoke/VarHandle") ∧ Cond.instantiable q.1.cls q.2 ∈ tables_1 ∧ Cond.privateMethod q.1 ∈ tables_1 ∧ Cond.instanceMethod q.1 ∈ tables_1
theorem lw_p0 : lw_okq (⟨"LinkHouse", "gather", "(LLinkHouse$World;[I)V"⟩, 21) := ⟨⟨by decide +kernel, by decide +kernel⟩, List.mem_of_getElem? (i := 23) (by decide +kernel), List.mem_of_getElem? (i := 1144) (by decide +kernel), List.mem_of_getElem? (i := 1145) (by decide +kernel)⟩
theorem lw_p1 : lw_okq (⟨"LinkHouse", "buildOf", "(II)LLinkHouse$Build;"⟩, 21) := ⟨⟨by decide +kernel, by decide +kernel⟩, List.mem_of_getElem? (i := 23) (by decide +kernel), List.mem_of_getElem? (i := 1152) (by decide +kernel), List.mem_of_getElem? (i := 1153) (by decide +kernel)⟩
theorem lw_p2 : lw_okq (⟨"LinkHouse", "allBuilt", "()I"⟩, 21) := ⟨⟨by decide +kernel, by decide +kernel⟩, List.mem_of_getElem? (i := 23) (by decide +kernel), List.mem_of_getElem? (i := 1156) (by decide +kernel), List.mem_of_getElem? (i := 1157) (by decide +kernel)⟩
theorem lw_p3 : lw_okq (⟨"LinkHouse$World", "bars", "(LLinkHouse$Row;IZ)I"⟩, 20) := ⟨⟨by decide +kernel, by decide +kernel⟩, List.mem_of_getElem? (i := 338) (by decide +kernel), List.mem_of_getElem? (i := 1176) (by decide +kernel), List.mem_of_getElem? (i := 1177) (by decide +kernel)⟩
theorem lw_p4 : lw_okq (⟨"LinkHouse$World", "close", "()V"⟩, 20) := ⟨⟨by decide +kernel, by decide +kernel⟩, List.mem_of_getElem? (i := 338) (by decide +kernel), List.mem_of_getElem? (i := 1184) (by decide +kernel), List.mem_of_getElem? (i := 1185) (by decide +kernel)⟩
theorem lw_p5 : lw_okq (⟨"LinkHouse", "fourBytes", "(I)V"⟩, 21) := ⟨⟨by decide +kernel, by decide +kernel⟩, List.mem_of_getElem? (i := 23) (by decide +kernel), List.mem_of_getElem? (i := 1266) (by decide +kernel), List.mem_of_getElem? (i := 1267) (by decide +kernel)⟩
theorem lw_p6 : lw_okq (⟨"LinkHouse", "unused", "()LLinkHouse$Build;"⟩, 21) := ⟨⟨by decide +kernel, by decide +kernel⟩, List.mem_of_getElem? (i := 23) (by decide +kernel), List.mem_of_getElem? (i := 1278) (by decide +kernel), List.mem_of_getElem? (i := 1279) (by decide +kernel)⟩
theorem lw_p7 : lw_okq (⟨"LinkHouse", "isFull", "(I)Z"⟩, 21) := ⟨⟨by decide +kernel, by decide +kernel⟩, List.mem_of_getElem? (i := 23) (by decide +kernel), List.mem_of_getElem? (i := 1307) (by decide +kernel), List.mem_of_getElem? (i := 1308) (by decide +kernel)⟩
theorem lw_p8 : lw_okq (⟨"LinkHouse$Reader", "scanAll", "([BI)V"⟩, 15) := ⟨⟨by decide +kernel, by decide +kernel⟩, List.mem_of_getElem? (i := 33) (by decide +kernel), List.mem_of_getElem? (i := 1319) (by decide +kernel), List.mem_of_getElem? (i := 1320) (by decide +kernel)⟩
theorem lw_p9 : lw_okq (⟨"LinkHouse$Reader", "scan", "(I)I"⟩, 15) := ⟨⟨by decide +kernel, by decide +kernel⟩, List.mem_of_getElem? (i := 33) (by decide +kernel), List.mem_of_getElem? (i := 1323) (by decide +kernel), List.mem_of_getElem? (i := 1324) (by decide +kernel)⟩
theorem lw_p10 : lw_okq (⟨"LinkHouse$Reader", "scanName", "(I)I"⟩, 15) := ⟨⟨by decide +kernel, by decide +kernel⟩, List.mem_of_getElem? (i := 33) (by decide +kernel), List.mem_of_getElem? (i := 1327) (by decide +kernel), List.mem_of_getElem? (i := 1328) (by decide +kernel)⟩
theorem lw_p11 : lw_okq (⟨"LinkHouse$Reader", "scanNumber", "(I)I"⟩, 15) := ⟨⟨by decide +kernel, by decide +kernel⟩, List.mem_of_getElem? (i := 33) (by decide +kernel), List.mem_of_getElem? (i := 1331) (by decide +kernel), List.mem_of_getElem? (i := 1332) (by decide +kernel)⟩
theorem lw_p12 : lw_okq (⟨"LinkHouse$Reader", "now", "()I"⟩, 15) := ⟨⟨by decide +kernel, by decide +kernel⟩, List.mem_of_getElem? (i := 33) (by decide +kernel), List.mem_of_getElem? (i := 1339) (by decide +kernel), List.mem_of_getElem? (i := 1340) (by decide +kernel)⟩
theorem lw_p13 : lw_okq (⟨"LinkHouse$Reader", "readHead", "()LLinkHouse$Row;"⟩, 15) := ⟨⟨by decide +kernel, by decide +kernel⟩, List.mem_of_getElem? (i := 33) (by decide +kernel), List.mem_of_getElem? (i := 1343) (by decide +kernel), List.mem_of_getElem? (i := 1344) (by decide +kernel)⟩
theorem lw_p14 : lw_okq (⟨"LinkHouse$Reader", "take", "()Z"⟩, 15) := ⟨⟨by decide +kernel, by decide +kernel⟩, List.mem_of_getElem? (i := 33) (by decide +kernel), List.mem_of_getElem? (i := 1347) (by decide +kernel), List.mem_of_getElem? (i := 1348) (by decide +kernel)⟩
theorem lw_p15 : lw_okq (⟨"LinkHouse$Reader", "stop", "(I)Z"⟩, 15) := ⟨⟨by decide +kernel, by decide +kernel⟩, List.mem_of_getElem? (i := 33) (by decide +kernel), List.mem_of_getElem? (i := 1351) (by decide +kernel), List.mem_of_getElem? (i := 1352) (by decide +kernel)⟩
def lw_privs_1 : List (MethodName × Nat) := [(⟨"LinkHouse", "gather", "(LLinkHouse$World;[I)V"⟩, 21), (⟨"LinkHouse", "buildOf", "(II)LLinkHouse$Build;"⟩, 21), (⟨"LinkHouse", "allBuilt", "()I"⟩, 21), (⟨"LinkHouse$World", "bars", "(LLinkHouse$Row;IZ)I"⟩, 20), (⟨"LinkHouse$World", "close", "()V"⟩, 20), (⟨"LinkHouse", "fourBytes", "(I)V"⟩, 21), (⟨"LinkHouse", "unused", "()LLinkHouse$Build;"⟩, 21), (⟨"LinkHouse", "isFull", "(I)Z"⟩, 21), (⟨"LinkHouse$Reader", "scanAll", "([BI)V"⟩, 15), (⟨"LinkHouse$Reader", "scan", "(I)I"⟩, 15), (⟨"LinkHouse$Reader", "scanName", "(I)I"⟩, 15), (⟨"LinkHouse$Reader", "scanNumber", "(I)I"⟩, 15), (⟨"LinkHouse$Reader", "now", "()I"⟩, 15), (⟨"LinkHouse$Reader", "readHead", "()LLinkHouse$Row;"⟩, 15), (⟨"LinkHouse$Reader", "take", "()Z"⟩, 15), (⟨"LinkHouse$Reader", "stop", "(I)Z"⟩, 15)]
theorem lw_r1 : ∀ q ∈ lw_privs_1, lw_okq q := List.forall_mem_cons.mpr ⟨lw_p0, List.forall_mem_cons.mpr ⟨lw_p1, List.forall_mem_cons.mpr ⟨lw_p2, List.forall_mem_cons.mpr ⟨lw_p3, List.forall_mem_cons.mpr ⟨lw_p4, List.forall_mem_cons.mpr ⟨lw_p5, List.forall_mem_cons.mpr ⟨lw_p6, List.forall_mem_cons.mpr ⟨lw_p7, List.forall_mem_cons.mpr ⟨lw_p8, List.forall_mem_cons.mpr ⟨lw_p9, List.forall_mem_cons.mpr ⟨lw_p10, List.forall_mem_cons.mpr ⟨lw_p11, List.forall_mem_cons.mpr ⟨lw_p12, List.forall_mem_cons.mpr ⟨lw_p13, List.forall_mem_cons.mpr ⟨lw_p14, List.forall_mem_cons.mpr ⟨lw_p15, fun _ h => absurd h List.not_mem_nil⟩⟩⟩⟩⟩⟩⟩⟩⟩⟩⟩⟩⟩⟩⟩⟩
theorem lw_p16 : lw_okq (⟨"LinkHouse$Reader", "miss", "()Z"⟩, 15) := ⟨⟨by decide +kernel, by decide +kernel⟩, List.mem_of_getElem? (i := 33) (by decide +kernel), List.mem_of_getElem? (i := 1355) (by decide +kernel), List.mem_of_getElem? (i := 1356) (by decide +kernel)⟩
theorem lw_p17 : lw_okq (⟨"LinkHouse$Reader", "readParents", "(LLinkHouse$Row;)Z"⟩, 15) := ⟨⟨by decide +kernel, by decide +kernel⟩, List.mem_of_getElem? (i := 33) (by decide +kernel), List.mem_of_getElem? (i := 1360) (by decide +kernel), List.mem_of_getElem? (i := 1361) (by decide +kernel)⟩
theorem lw_p18 : lw_okq (⟨"LinkHouse$Reader", "readList", "(LLinkHouse$Row;III)Z"⟩, 15) := ⟨⟨by decide +kernel, by decide +kernel⟩, List.mem_of_getElem? (i := 33) (by decide +kernel), List.mem_of_getElem? (i := 1364) (by decide +kernel), List.mem_of_getElem? (i := 1365) (by decide +kernel)⟩
theorem lw_p19 : lw_okq (⟨"LinkHouse$Reader", "need", "(I)Z"⟩, 15) := ⟨⟨by decide +kernel, by decide +kernel⟩, List.mem_of_getElem? (i := 33) (by decide +kernel), List.mem_of_getElem? (i := 1372) (by decide +kernel), List.mem_of_getElem? (i := 1373) (by decide +kernel)⟩
theorem lw_p20 : lw_okq (⟨"LinkHouse$Reader", "readMember", "(LLinkHouse$Row;)Z"⟩, 15) := ⟨⟨by decide +kernel, by decide +kernel⟩, List.mem_of_getElem? (i := 33) (by decide +kernel), List.mem_of_getElem? (i := 1376) (by decide +kernel), List.mem_of_getElem? (i := 1377) (by decide +kernel)⟩
theorem lw_p21 : lw_okq (⟨"LinkHouse$Reader", "readParams", "(LLinkHouse$Member;)Z"⟩, 15) := ⟨⟨by decide +kernel, by decide +kernel⟩, List.mem_of_getElem? (i := 33) (by decide +kernel), List.mem_of_getElem? (i := 1386) (by decide +kernel), List.mem_of_getElem? (i := 1387) (by decide +kernel)⟩
theorem lw_p22 : lw_okq (⟨"LinkHouse$Reader", "readTyped", "(LLinkHouse$Member;)Z"⟩, 15) := ⟨⟨by decide +kernel, by decide +kernel⟩, List.mem_of_getElem? (i := 33) (by decide +kernel), List.mem_of_getElem? (i := 1391) (by decide +kernel), List.mem_of_getElem? (i := 1392) (by decide +kernel)⟩
theorem lw_p23 : lw_okq (⟨"LinkHouse$Reader", "readBody", "(LLinkHouse$Member;)Z"⟩, 15) := ⟨⟨by decide +kernel, by decide +kernel⟩, List.mem_of_getElem? (i := 33) (by decide +kernel), List.mem_of_getElem? (i := 1396) (by decide +kernel), List.mem_of_getElem? (i := 1397) (by decide +kernel)⟩
theorem lw_p24 : lw_okq (⟨"LinkHouse$Reader", "block", "(I)LLinkHouse$Node;"⟩, 15) := ⟨⟨by decide +kernel, by decide +kernel⟩, List.mem_of_getElem? (i := 33) (by decide +kernel), List.mem_of_getElem? (i := 1400) (by decide +kernel), List.mem_of_getElem? (i := 1401) (by decide +kernel)⟩
theorem lw_p25 : lw_okq (⟨"LinkHouse$Reader", "node", "(II)LLinkHouse$Node;"⟩, 15) := ⟨⟨by decide +kernel, by decide +kernel⟩, List.mem_of_getElem? (i := 33) (by decide +kernel), List.mem_of_getElem? (i := 1404) (by decide +kernel), List.mem_of_getElem? (i := 1405) (by decide +kernel)⟩
theorem lw_p26 : lw_okq (⟨"LinkHouse$Reader", "statement", "(I)LLinkHouse$Node;"⟩, 15) := ⟨⟨by decide +kernel, by decide +kernel⟩, List.mem_of_getElem? (i := 33) (by decide +kernel), List.mem_of_getElem? (i := 1413) (by decide +kernel), List.mem_of_getElem? (i := 1414) (by decide +kernel)⟩
theorem lw_p27 : lw_okq (⟨"LinkHouse$Reader", "behind", "()I"⟩, 15) := ⟨⟨by decide +kernel, by decide +kernel⟩, List.mem_of_getElem? (i := 33) (by decide +kernel), List.mem_of_getElem? (i := 1420) (by decide +kernel), List.mem_of_getElem? (i := 1421) (by decide +kernel)⟩
theorem lw_p28 : lw_okq (⟨"LinkHouse$Reader", "args", "(LLinkHouse$Node;I)Z"⟩, 15) := ⟨⟨by decide +kernel, by decide +kernel⟩, List.mem_of_getElem? (i := 33) (by decide +kernel), List.mem_of_getElem? (i := 1424) (by decide +kernel), List.mem_of_getElem? (i := 1425) (by decide +kernel)⟩
theorem lw_p29 : lw_okq (⟨"LinkHouse$Reader", "expr", "(I)LLinkHouse$Node;"⟩, 15) := ⟨⟨by decide +kernel, by decide +kernel⟩, List.mem_of_getElem? (i := 33) (by decide +kernel), List.mem_of_getElem? (i := 1428) (by decide +kernel), List.mem_of_getElem? (i := 1429) (by decide +kernel)⟩
theorem lw_p30 : lw_okq (⟨"LinkHouse$Reader", "chain", "(IZ)LLinkHouse$Node;"⟩, 15) := ⟨⟨by decide +kernel, by decide +kernel⟩, List.mem_of_getElem? (i := 33) (by decide +kernel), List.mem_of_getElem? (i := 1432) (by decide +kernel), List.mem_of_getElem? (i := 1433) (by decide +kernel)⟩
theorem lw_p31 : lw_okq (⟨"LinkHouse$Reader", "unit", "(I)LLinkHouse$Node;"⟩, 15) := ⟨⟨by decide +kernel, by decide +kernel⟩, List.mem_of_getElem? (i := 33) (by decide +kernel), List.mem_of_getElem? (i := 1436) (by decide +kernel), List.mem_of_getElem? (i := 1437) (by decide +kernel)⟩
def lw_privs_2 : List (MethodName × Nat) := [(⟨"LinkHouse$Reader", "miss", "()Z"⟩, 15), (⟨"LinkHouse$Reader", "readParents", "(LLinkHouse$Row;)Z"⟩, 15), (⟨"LinkHouse$Reader", "readList", "(LLinkHouse$Row;III)Z"⟩, 15), (⟨"LinkHouse$Reader", "need", "(I)Z"⟩, 15), (⟨"LinkHouse$Reader", "readMember", "(LLinkHouse$Row;)Z"⟩, 15), (⟨"LinkHouse$Reader", "readParams", "(LLinkHouse$Member;)Z"⟩, 15), (⟨"LinkHouse$Reader", "readTyped", "(LLinkHouse$Member;)Z"⟩, 15), (⟨"LinkHouse$Reader", "readBody", "(LLinkHouse$Member;)Z"⟩, 15), (⟨"LinkHouse$Reader", "block", "(I)LLinkHouse$Node;"⟩, 15), (⟨"LinkHouse$Reader", "node", "(II)LLinkHouse$Node;"⟩, 15), (⟨"LinkHouse$Reader", "statement", "(I)LLinkHouse$Node;"⟩, 15), (⟨"LinkHouse$Reader", "behind", "()I"⟩, 15), (⟨"LinkHouse$Reader", "args", "(LLinkHouse$Node;I)Z"⟩, 15), (⟨"LinkHouse$Reader", "expr", "(I)LLinkHouse$Node;"⟩, 15), (⟨"LinkHouse$Reader", "chain", "(IZ)LLinkHouse$Node;"⟩, 15), (⟨"LinkHouse$Reader", "unit", "(I)LLinkHouse$Node;"⟩, 15)]
theorem lw_r2 : ∀ q ∈ lw_privs_2, lw_okq q := List.forall_mem_cons.mpr ⟨lw_p16, List.forall_mem_cons.mpr ⟨lw_p17, List.forall_mem_cons.mpr ⟨lw_p18, List.forall_mem_cons.mpr ⟨lw_p19, List.forall_mem_cons.mpr ⟨lw_p20, List.forall_mem_cons.mpr ⟨lw_p21, List.forall_mem_cons.mpr ⟨lw_p22, List.forall_mem_cons.mpr ⟨lw_p23, List.forall_mem_cons.mpr ⟨lw_p24, List.forall_mem_cons.mpr ⟨lw_p25, List.forall_mem_cons.mpr ⟨lw_p26, List.forall_mem_cons.mpr ⟨lw_p27, List.forall_mem_cons.mpr ⟨lw_p28, List.forall_mem_cons.mpr ⟨lw_p29, List.forall_mem_cons.mpr ⟨lw_p30, List.forall_mem_cons.mpr ⟨lw_p31, fun _ h => absurd h List.not_mem_nil⟩⟩⟩⟩⟩⟩⟩⟩⟩⟩⟩⟩⟩⟩⟩⟩
theorem lw_p32 : lw_okq (⟨"LinkHouse$Reader", "front", "(I)LLinkHouse$Node;"⟩, 15) := ⟨⟨by decide +kernel, by decide +kernel⟩, List.mem_of_getElem? (i := 33) (by decide +kernel), List.mem_of_getElem? (i := 1440) (by decide +kernel), List.mem_of_getElem? (i := 1441) (by decide +kernel)⟩
theorem lw_p33 : lw_okq (⟨"LinkHouse$Reader", "ofClass", "(LLinkHouse$Node;I)LLinkHouse$Node;"⟩, 15) := ⟨⟨by decide +kernel, by decide +kernel⟩, List.mem_of_getElem? (i := 33) (by decide +kernel), List.mem_of_getElem? (i := 1444) (by decide +kernel), List.mem_of_getElem? (i := 1445) (by decide +kernel)⟩
theorem lw_p34 : lw_okq (⟨"LinkHouse$Reader", "superCall", "(LLinkHouse$Node;I)Z"⟩, 15) := ⟨⟨by decide +kernel, by decide +kernel⟩, List.mem_of_getElem? (i := 33) (by decide +kernel), List.mem_of_getElem? (i := 1448) (by decide +kernel), List.mem_of_getElem? (i := 1449) (by decide +kernel)⟩
theorem lw_p35 : lw_okq (⟨"LinkHouse$Reader", "round", "(LLinkHouse$Node;I)LLinkHouse$Node;"⟩, 15) := ⟨⟨by decide +kernel, by decide +kernel⟩, List.mem_of_getElem? (i := 33) (by decide +kernel), List.mem_of_getElem? (i := 1452) (by decide +kernel), List.mem_of_getElem? (i := 1453) (by decide +kernel)⟩
theorem lw_p36 : lw_okq (⟨"LinkHouse$Reader", "behindUnit", "(I)LLinkHouse$Node;"⟩, 15) := ⟨⟨by decide +kernel, by decide +kernel⟩, List.mem_of_getElem? (i := 33) (by decide +kernel), List.mem_of_getElem? (i := 1456) (by decide +kernel), List.mem_of_getElem? (i := 1457) (by decide +kernel)⟩
theorem lw_p37 : lw_okq (⟨"LinkHouse$Reader", "simple", "(I)LLinkHouse$Node;"⟩, 15) := ⟨⟨by decide +kernel, by decide +kernel⟩, List.mem_of_getElem? (i := 33) (by decide +kernel), List.mem_of_getElem? (i := 1463) (by decide +kernel), List.mem_of_getElem? (i := 1464) (by decide +kernel)⟩
theorem lw_p38 : lw_okq (⟨"LinkHouse$Reader", "worded", "(II)LLinkHouse$Node;"⟩, 15) := ⟨⟨by decide +kernel, by decide +kernel⟩, List.mem_of_getElem? (i := 33) (by decide +kernel), List.mem_of_getElem? (i := 1467) (by decide +kernel), List.mem_of_getElem? (i := 1468) (by decide +kernel)⟩
theorem lw_p39 : lw_okq (⟨"LinkHouse$Reader", "tested", "(LLinkHouse$Node;II)LLinkHouse$Node;"⟩, 15) := ⟨⟨by decide +kernel, by decide +kernel⟩, List.mem_of_getElem? (i := 33) (by decide +kernel), List.mem_of_getElem? (i := 1471) (by decide +kernel), List.mem_of_getElem? (i := 1472) (by decide +kernel)⟩
theorem lw_p40 : lw_okq (⟨"LinkHouse$Reader", "tried", "(LLinkHouse$Node;I)LLinkHouse$Node;"⟩, 15) := ⟨⟨by decide +kernel, by decide +kernel⟩, List.mem_of_getElem? (i := 33) (by decide +kernel), List.mem_of_getElem? (i := 1475) (by decide +kernel), List.mem_of_getElem? (i := 1476) (by decide +kernel)⟩
theorem lw_p41 : lw_okq (⟨"LinkHouse", "faulted", "(II)I"⟩, 21) := ⟨⟨by decide +kernel, by decide +kernel⟩, List.mem_of_getElem? (i := 23) (by decide +kernel), List.mem_of_getElem? (i := 1479) (by decide +kernel), List.mem_of_getElem? (i := 1480) (by decide +kernel)⟩
theorem lw_p42 : lw_okq (⟨"LinkHouse$Judge", "head", "(LLinkHouse$Row;I)Z"⟩, 5) := ⟨⟨by decide +kernel, by decide +kernel⟩, List.mem_of_getElem? (i := 221) (by decide +kernel), List.mem_of_getElem? (i := 1487) (by decide +kernel), List.mem_of_getElem? (i := 1488) (by decide +kernel)⟩
theorem lw_p43 : lw_okq (⟨"LinkHouse$Judge", "fail", "(II)Z"⟩, 5) := ⟨⟨by decide +kernel, by decide +kernel⟩, List.mem_of_getElem? (i := 221) (by decide +kernel), List.mem_of_getElem? (i := 1491) (by decide +kernel), List.mem_of_getElem? (i := 1492) (by decide +kernel)⟩
theorem lw_p44 : lw_okq (⟨"LinkHouse$Judge", "barred", "(ILLinkHouse$Row;)Z"⟩, 5) := ⟨⟨by decide +kernel, by decide +kernel⟩, List.mem_of_getElem? (i := 221) (by decide +kernel), List.mem_of_getElem? (i := 1497) (by decide +kernel), List.mem_of_getElem? (i := 1498) (by decide +kernel)⟩
theorem lw_p45 : lw_okq (⟨"LinkHouse$Judge", "within", "(LLinkHouse$Row;I)Z"⟩, 5) := ⟨⟨by decide +kernel, by decide +kernel⟩, List.mem_of_getElem? (i := 221) (by decide +kernel), List.mem_of_getElem? (i := 1503) (by decide +kernel), List.mem_of_getElem? (i := 1504) (by decide +kernel)⟩
theorem lw_p46 : lw_okq (⟨"LinkHouse$Judge", "items", "(LLinkHouse$Row;I)V"⟩, 5) := ⟨⟨by decide +kernel, by decide +kernel⟩, List.mem_of_getElem? (i := 221) (by decide +kernel), List.mem_of_getElem? (i := 1516) (by decide +kernel), List.mem_of_getElem? (i := 1517) (by decide +kernel)⟩
theorem lw_p47 : lw_okq (⟨"LinkHouse$Judge", "types", "(LLinkHouse$Member;I)V"⟩, 5) := ⟨⟨by decide +kernel, by decide +kernel⟩, List.mem_of_getElem? (i := 221) (by decide +kernel), List.mem_of_getElem? (i := 1529) (by decide +kernel), List.mem_of_getElem? (i := 1530) (by decide +kernel)⟩
def lw_privs_3 : List (MethodName × Nat) := [(⟨"LinkHouse$Reader", "front", "(I)LLinkHouse$Node;"⟩, 15), (⟨"LinkHouse$Reader", "ofClass", "(LLinkHouse$Node;I)LLinkHouse$Node;"⟩, 15), (⟨"LinkHouse$Reader", "superCall", "(LLinkHouse$Node;I)Z"⟩, 15), (⟨"LinkHouse$Reader", "round", "(LLinkHouse$Node;I)LLinkHouse$Node;"⟩, 15), (⟨"LinkHouse$Reader", "behindUnit", "(I)LLinkHouse$Node;"⟩, 15), (⟨"LinkHouse$Reader", "simple", "(I)LLinkHouse$Node;"⟩, 15), (⟨"LinkHouse$Reader", "worded", "(II)LLinkHouse$Node;"⟩, 15), (⟨"LinkHouse$Reader", "tested", "(LLinkHouse$Node;II)LLinkHouse$Node;"⟩, 15), (⟨"LinkHouse$Reader", "tried", "(LLinkHouse$Node;I)LLinkHouse$Node;"⟩, 15), (⟨"LinkHouse", "faulted", "(II)I"⟩, 21), (⟨"LinkHouse$Judge", "head", "(LLinkHouse$Row;I)Z"⟩, 5), (⟨"LinkHouse$Judge", "fail", "(II)Z"⟩, 5), (⟨"LinkHouse$Judge", "barred", "(ILLinkHouse$Row;)Z"⟩, 5), (⟨"LinkHouse$Judge", "within", "(LLinkHouse$Row;I)Z"⟩, 5), (⟨"LinkHouse$Judge", "items", "(LLinkHouse$Row;I)V"⟩, 5), (⟨"LinkHouse$Judge", "types", "(LLinkHouse$Member;I)V"⟩, 5)]
theorem lw_r3 : ∀ q ∈ lw_privs_3, lw_okq q := List.forall_mem_cons.mpr ⟨lw_p32, List.forall_mem_cons.mpr ⟨lw_p33, List.forall_mem_cons.mpr ⟨lw_p34, List.forall_mem_cons.mpr ⟨lw_p35, List.forall_mem_cons.mpr ⟨lw_p36, List.forall_mem_cons.mpr ⟨lw_p37, List.forall_mem_cons.mpr ⟨lw_p38, List.forall_mem_cons.mpr ⟨lw_p39, List.forall_mem_cons.mpr ⟨lw_p40, List.forall_mem_cons.mpr ⟨lw_p41, List.forall_mem_cons.mpr ⟨lw_p42, List.forall_mem_cons.mpr ⟨lw_p43, List.forall_mem_cons.mpr ⟨lw_p44, List.forall_mem_cons.mpr ⟨lw_p45, List.forall_mem_cons.mpr ⟨lw_p46, List.forall_mem_cons.mpr ⟨lw_p47, fun _ h => absurd h List.not_mem_nil⟩⟩⟩⟩⟩⟩⟩⟩⟩⟩⟩⟩⟩⟩⟩⟩
theorem lw_p48 : lw_okq (⟨"LinkHouse$Judge", "isType", "(JI)Z"⟩, 5) := ⟨⟨by decide +kernel, by decide +kernel⟩, List.mem_of_getElem? (i := 221) (by decide +kernel), List.mem_of_getElem? (i := 1533) (by decide +kernel), List.mem_of_getElem? (i := 1534) (by decide +kernel)⟩
theorem lw_p49 : lw_okq (⟨"LinkHouse$Judge", "twice", "(LLinkHouse$Row;LLinkHouse$Member;)V"⟩, 5) := ⟨⟨by decide +kernel, by decide +kernel⟩, List.mem_of_getElem? (i := 221) (by decide +kernel), List.mem_of_getElem? (i := 1543) (by decide +kernel), List.mem_of_getElem? (i := 1544) (by decide +kernel)⟩
theorem lw_p50 : lw_okq (⟨"LinkHouse$Judge", "above", "(LLinkHouse$Row;I)V"⟩, 5) := ⟨⟨by decide +kernel, by decide +kernel⟩, List.mem_of_getElem? (i := 221) (by decide +kernel), List.mem_of_getElem? (i := 1551) (by decide +kernel), List.mem_of_getElem? (i := 1552) (by decide +kernel)⟩
theorem lw_p51 : lw_okq (⟨"LinkHouse$Judge", "aboveIn", "(IILLinkHouse$Member;)LLinkHouse$Member;"⟩, 5) := ⟨⟨by decide +kernel, by decide +kernel⟩, List.mem_of_getElem? (i := 221) (by decide +kernel), List.mem_of_getElem? (i := 1555) (by decide +kernel), List.mem_of_getElem? (i := 1556) (by decide +kernel)⟩
theorem lw_p52 : lw_okq (⟨"LinkHouse$Judge", "against", "(LLinkHouse$Member;LLinkHouse$Member;)V"⟩, 5) := ⟨⟨by decide +kernel, by decide +kernel⟩, List.mem_of_getElem? (i := 221) (by decide +kernel), List.mem_of_getElem? (i := 1568) (by decide +kernel), List.mem_of_getElem? (i := 1569) (by decide +kernel)⟩
theorem lw_p53 : lw_okq (⟨"LinkHouse$Judge", "impliedMaker", "(LLinkHouse$Row;)V"⟩, 5) := ⟨⟨by decide +kernel, by decide +kernel⟩, List.mem_of_getElem? (i := 221) (by decide +kernel), List.mem_of_getElem? (i := 1583) (by decide +kernel), List.mem_of_getElem? (i := 1584) (by decide +kernel)⟩
theorem lw_p54 : lw_okq (⟨"LinkHouse$Judge", "bridges", "(LLinkHouse$Row;I)V"⟩, 5) := ⟨⟨by decide +kernel, by decide +kernel⟩, List.mem_of_getElem? (i := 221) (by decide +kernel), List.mem_of_getElem? (i := 1593) (by decide +kernel), List.mem_of_getElem? (i := 1594) (by decide +kernel)⟩
theorem lw_p55 : lw_okq (⟨"LinkHouse$Judge", "bridge", "(LLinkHouse$Row;LLinkHouse$Member;LLinkHouse$Member;)V"⟩, 5) := ⟨⟨by decide +kernel, by decide +kernel⟩, List.mem_of_getElem? (i := 221) (by decide +kernel), List.mem_of_getElem? (i := 1601) (by decide +kernel), List.mem_of_getElem? (i := 1602) (by decide +kernel)⟩
theorem lw_p56 : lw_okq (⟨"LinkHouse$Judge", "whole", "(LLinkHouse$Row;I)V"⟩, 5) := ⟨⟨by decide +kernel, by decide +kernel⟩, List.mem_of_getElem? (i := 221) (by decide +kernel), List.mem_of_getElem? (i := 1616) (by decide +kernel), List.mem_of_getElem? (i := 1617) (by decide +kernel)⟩
theorem lw_p57 : lw_okq (⟨"LinkHouse$Judge", "owed", "(LLinkHouse$Row;II)V"⟩, 5) := ⟨⟨by decide +kernel, by decide +kernel⟩, List.mem_of_getElem? (i := 221) (by decide +kernel), List.mem_of_getElem? (i := 1620) (by decide +kernel), List.mem_of_getElem? (i := 1621) (by decide +kernel)⟩
theorem lw_p58 : lw_okq (⟨"LinkHouse$Bodies", "constants", "()V"⟩, 17) := ⟨⟨by decide +kernel, by decide +kernel⟩, List.mem_of_getElem? (i := 245) (by decide +kernel), List.mem_of_getElem? (i := 1644) (by decide +kernel), List.mem_of_getElem? (i := 1645) (by decide +kernel)⟩
theorem lw_p59 : lw_okq (⟨"LinkHouse$Bodies", "fold", "(LLinkHouse$Node;)Z"⟩, 17) := ⟨⟨by decide +kernel, by decide +kernel⟩, List.mem_of_getElem? (i := 245) (by decide +kernel), List.mem_of_getElem? (i := 1649) (by decide +kernel), List.mem_of_getElem? (i := 1650) (by decide +kernel)⟩
theorem lw_p60 : lw_okq (⟨"LinkHouse$Bodies", "foldField", "(IJ)Z"⟩, 17) := ⟨⟨by decide +kernel, by decide +kernel⟩, List.mem_of_getElem? (i := 245) (by decide +kernel), List.mem_of_getElem? (i := 1653) (by decide +kernel), List.mem_of_getElem? (i := 1654) (by decide +kernel)⟩
theorem lw_p61 : lw_okq (⟨"LinkHouse$Bodies", "foldCompare", "(LLinkHouse$Node;)Z"⟩, 17) := ⟨⟨by decide +kernel, by decide +kernel⟩, List.mem_of_getElem? (i := 245) (by decide +kernel), List.mem_of_getElem? (i := 1671) (by decide +kernel), List.mem_of_getElem? (i := 1672) (by decide +kernel)⟩
theorem lw_p62 : lw_okq (⟨"LinkHouse$Bodies", "foldChain", "(LLinkHouse$Node;)Z"⟩, 17) := ⟨⟨by decide +kernel, by decide +kernel⟩, List.mem_of_getElem? (i := 245) (by decide +kernel), List.mem_of_getElem? (i := 1675) (by decide +kernel), List.mem_of_getElem? (i := 1676) (by decide +kernel)⟩
theorem lw_p63 : lw_okq (⟨"LinkHouse$Bodies", "body", "(LLinkHouse$Member;)V"⟩, 17) := ⟨⟨by decide +kernel, by decide +kernel⟩, List.mem_of_getElem? (i := 245) (by decide +kernel), List.mem_of_getElem? (i := 1679) (by decide +kernel), List.mem_of_getElem? (i := 1680) (by decide +kernel)⟩
def lw_privs_4 : List (MethodName × Nat) := [(⟨"LinkHouse$Judge", "isType", "(JI)Z"⟩, 5), (⟨"LinkHouse$Judge", "twice", "(LLinkHouse$Row;LLinkHouse$Member;)V"⟩, 5), (⟨"LinkHouse$Judge", "above", "(LLinkHouse$Row;I)V"⟩, 5), (⟨"LinkHouse$Judge", "aboveIn", "(IILLinkHouse$Member;)LLinkHouse$Member;"⟩, 5), (⟨"LinkHouse$Judge", "against", "(LLinkHouse$Member;LLinkHouse$Member;)V"⟩, 5), (⟨"LinkHouse$Judge", "impliedMaker", "(LLinkHouse$Row;)V"⟩, 5), (⟨"LinkHouse$Judge", "bridges", "(LLinkHouse$Row;I)V"⟩, 5), (⟨"LinkHouse$Judge", "bridge", "(LLinkHouse$Row;LLinkHouse$Member;LLinkHouse$Member;)V"⟩, 5), (⟨"LinkHouse$Judge", "whole", "(LLinkHouse$Row;I)V"⟩, 5), (⟨"LinkHouse$Judge", "owed", "(LLinkHouse$Row;II)V"⟩, 5), (⟨"LinkHouse$Bodies", "constants", "()V"⟩, 17), (⟨"LinkHouse$Bodies", "fold", "(LLinkHouse$Node;)Z"⟩, 17), (⟨"LinkHouse$Bodies", "foldField", "(IJ)Z"⟩, 17), (⟨"LinkHouse$Bodies", "foldCompare", "(LLinkHouse$Node;)Z"⟩, 17), (⟨"LinkHouse$Bodies", "foldChain", "(LLinkHouse$Node;)Z"⟩, 17), (⟨"LinkHouse$Bodies", "body", "(LLinkHouse$Member;)V"⟩, 17)]
theorem lw_r4 : ∀ q ∈ lw_privs_4, lw_okq q := List.forall_mem_cons.mpr ⟨lw_p48, List.forall_mem_cons.mpr ⟨lw_p49, List.forall_mem_cons.mpr ⟨lw_p50, List.forall_mem_cons.mpr ⟨lw_p51, List.forall_mem_cons.mpr ⟨lw_p52, List.forall_mem_cons.mpr ⟨lw_p53, List.forall_mem_cons.mpr ⟨lw_p54, List.forall_mem_cons.mpr ⟨lw_p55, List.forall_mem_cons.mpr ⟨lw_p56, List.forall_mem_cons.mpr ⟨lw_p57, List.forall_mem_cons.mpr ⟨lw_p58, List.forall_mem_cons.mpr ⟨lw_p59, List.forall_mem_cons.mpr ⟨lw_p60, List.forall_mem_cons.mpr ⟨lw_p61, List.forall_mem_cons.mpr ⟨lw_p62, List.forall_mem_cons.mpr ⟨lw_p63, fun _ h => absurd h List.not_mem_nil⟩⟩⟩⟩⟩⟩⟩⟩⟩⟩⟩⟩⟩⟩⟩⟩
theorem lw_p64 : lw_okq (⟨"LinkHouse$Bodies", "expr", "(LLinkHouse$Node;)Z"⟩, 17) := ⟨⟨by decide +kernel, by decide +kernel⟩, List.mem_of_getElem? (i := 245) (by decide +kernel), List.mem_of_getElem? (i := 1683) (by decide +kernel), List.mem_of_getElem? (i := 1684) (by decide +kernel)⟩
theorem lw_p65 : lw_okq (⟨"LinkHouse$Bodies", "fail", "(II)Z"⟩, 17) := ⟨⟨by decide +kernel, by decide +kernel⟩, List.mem_of_getElem? (i := 245) (by decide +kernel), List.mem_of_getElem? (i := 1688) (by decide +kernel), List.mem_of_getElem? (i := 1689) (by decide +kernel)⟩
theorem lw_p66 : lw_okq (⟨"LinkHouse$Bodies", "isLocal", "(LLinkHouse$Node;)Z"⟩, 17) := ⟨⟨by decide +kernel, by decide +kernel⟩, List.mem_of_getElem? (i := 245) (by decide +kernel), List.mem_of_getElem? (i := 1692) (by decide +kernel), List.mem_of_getElem? (i := 1693) (by decide +kernel)⟩
theorem lw_p67 : lw_okq (⟨"LinkHouse$Bodies", "localOf", "(J)I"⟩, 17) := ⟨⟨by decide +kernel, by decide +kernel⟩, List.mem_of_getElem? (i := 245) (by decide +kernel), List.mem_of_getElem? (i := 1696) (by decide +kernel), List.mem_of_getElem? (i := 1697) (by decide +kernel)⟩
theorem lw_p68 : lw_okq (⟨"LinkHouse$Bodies", "field", "(LLinkHouse$Node;IJ)Z"⟩, 17) := ⟨⟨by decide +kernel, by decide +kernel⟩, List.mem_of_getElem? (i := 245) (by decide +kernel), List.mem_of_getElem? (i := 1700) (by decide +kernel), List.mem_of_getElem? (i := 1701) (by decide +kernel)⟩
theorem lw_p69 : lw_okq (⟨"LinkHouse$Bodies", "statics", "(LLinkHouse$Node;ZZ)Z"⟩, 17) := ⟨⟨by decide +kernel, by decide +kernel⟩, List.mem_of_getElem? (i := 245) (by decide +kernel), List.mem_of_getElem? (i := 1704) (by decide +kernel), List.mem_of_getElem? (i := 1705) (by decide +kernel)⟩
theorem lw_p70 : lw_okq (⟨"LinkHouse$Bodies", "exprs", "(LLinkHouse$Node;)Z"⟩, 17) := ⟨⟨by decide +kernel, by decide +kernel⟩, List.mem_of_getElem? (i := 245) (by decide +kernel), List.mem_of_getElem? (i := 1708) (by decide +kernel), List.mem_of_getElem? (i := 1709) (by decide +kernel)⟩
theorem lw_p71 : lw_okq (⟨"LinkHouse$Bodies", "meant", "(IJLLinkHouse$Node;Z)LLinkHouse$Member;"⟩, 17) := ⟨⟨by decide +kernel, by decide +kernel⟩, List.mem_of_getElem? (i := 245) (by decide +kernel), List.mem_of_getElem? (i := 1712) (by decide +kernel), List.mem_of_getElem? (i := 1713) (by decide +kernel)⟩
theorem lw_p72 : lw_okq (⟨"LinkHouse$Bodies", "whereLooked", "(IZ)I"⟩, 17) := ⟨⟨by decide +kernel, by decide +kernel⟩, List.mem_of_getElem? (i := 245) (by decide +kernel), List.mem_of_getElem? (i := 1716) (by decide +kernel), List.mem_of_getElem? (i := 1717) (by decide +kernel)⟩
theorem lw_p73 : lw_okq (⟨"LinkHouse$Bodies", "consider", "(LLinkHouse$Member;LLinkHouse$Node;)V"⟩, 17) := ⟨⟨by decide +kernel, by decide +kernel⟩, List.mem_of_getElem? (i := 245) (by decide +kernel), List.mem_of_getElem? (i := 1721) (by decide +kernel), List.mem_of_getElem? (i := 1722) (by decide +kernel)⟩
theorem lw_p74 : lw_okq (⟨"LinkHouse$Bodies", "calls", "(LLinkHouse$Node;ILLinkHouse$Member;)Z"⟩, 17) := ⟨⟨by decide +kernel, by decide +kernel⟩, List.mem_of_getElem? (i := 245) (by decide +kernel), List.mem_of_getElem? (i := 1727) (by decide +kernel), List.mem_of_getElem? (i := 1728) (by decide +kernel)⟩
theorem lw_p75 : lw_okq (⟨"LinkHouse$Bodies", "named", "(JI)I"⟩, 17) := ⟨⟨by decide +kernel, by decide +kernel⟩, List.mem_of_getElem? (i := 245) (by decide +kernel), List.mem_of_getElem? (i := 1731) (by decide +kernel), List.mem_of_getElem? (i := 1732) (by decide +kernel)⟩
theorem lw_p76 : lw_okq (⟨"LinkHouse$Bodies", "superCall", "(LLinkHouse$Node;)Z"⟩, 17) := ⟨⟨by decide +kernel, by decide +kernel⟩, List.mem_of_getElem? (i := 245) (by decide +kernel), List.mem_of_getElem? (i := 1735) (by decide +kernel), List.mem_of_getElem? (i := 1736) (by decide +kernel)⟩
theorem lw_p77 : lw_okq (⟨"LinkHouse$Bodies", "made", "(LLinkHouse$Node;)Z"⟩, 17) := ⟨⟨by decide +kernel, by decide +kernel⟩, List.mem_of_getElem? (i := 245) (by decide +kernel), List.mem_of_getElem? (i := 1740) (by decide +kernel), List.mem_of_getElem? (i := 1741) (by decide +kernel)⟩
theorem lw_p78 : lw_okq (⟨"LinkHouse$Bodies", "isObject", "(JI)Z"⟩, 17) := ⟨⟨by decide +kernel, by decide +kernel⟩, List.mem_of_getElem? (i := 245) (by decide +kernel), List.mem_of_getElem? (i := 1744) (by decide +kernel), List.mem_of_getElem? (i := 1745) (by decide +kernel)⟩
theorem lw_p79 : lw_okq (⟨"LinkHouse$Bodies", "unit", "(LLinkHouse$Node;)Z"⟩, 17) := ⟨⟨by decide +kernel, by decide +kernel⟩, List.mem_of_getElem? (i := 245) (by decide +kernel), List.mem_of_getElem? (i := 1749) (by decide +kernel), List.mem_of_getElem? (i := 1750) (by decide +kernel)⟩
def lw_privs_5 : List (MethodName × Nat) := [(⟨"LinkHouse$Bodies", "expr", "(LLinkHouse$Node;)Z"⟩, 17), (⟨"LinkHouse$Bodies", "fail", "(II)Z"⟩, 17), (⟨"LinkHouse$Bodies", "isLocal", "(LLinkHouse$Node;)Z"⟩, 17), (⟨"LinkHouse$Bodies", "localOf", "(J)I"⟩, 17), (⟨"LinkHouse$Bodies", "field", "(LLinkHouse$Node;IJ)Z"⟩, 17), (⟨"LinkHouse$Bodies", "statics", "(LLinkHouse$Node;ZZ)Z"⟩, 17), (⟨"LinkHouse$Bodies", "exprs", "(LLinkHouse$Node;)Z"⟩, 17), (⟨"LinkHouse$Bodies", "meant", "(IJLLinkHouse$Node;Z)LLinkHouse$Member;"⟩, 17), (⟨"LinkHouse$Bodies", "whereLooked", "(IZ)I"⟩, 17), (⟨"LinkHouse$Bodies", "consider", "(LLinkHouse$Member;LLinkHouse$Node;)V"⟩, 17), (⟨"LinkHouse$Bodies", "calls", "(LLinkHouse$Node;ILLinkHouse$Member;)Z"⟩, 17), (⟨"LinkHouse$Bodies", "named", "(JI)I"⟩, 17), (⟨"LinkHouse$Bodies", "superCall", "(LLinkHouse$Node;)Z"⟩, 17), (⟨"LinkHouse$Bodies", "made", "(LLinkHouse$Node;)Z"⟩, 17), (⟨"LinkHouse$Bodies", "isObject", "(JI)Z"⟩, 17), (⟨"LinkHouse$Bodies", "unit", "(LLinkHouse$Node;)Z"⟩, 17)]
theorem lw_r5 : ∀ q ∈ lw_privs_5, lw_okq q := List.forall_mem_cons.mpr ⟨lw_p64, List.forall_mem_cons.mpr ⟨lw_p65, List.forall_mem_cons.mpr ⟨lw_p66, List.forall_mem_cons.mpr ⟨lw_p67, List.forall_mem_cons.mpr ⟨lw_p68, List.forall_mem_cons.mpr ⟨lw_p69, List.forall_mem_cons.mpr ⟨lw_p70, List.forall_mem_cons.mpr ⟨lw_p71, List.forall_mem_cons.mpr ⟨lw_p72, List.forall_mem_cons.mpr ⟨lw_p73, List.forall_mem_cons.mpr ⟨lw_p74, List.forall_mem_cons.mpr ⟨lw_p75, List.forall_mem_cons.mpr ⟨lw_p76, List.forall_mem_cons.mpr ⟨lw_p77, List.forall_mem_cons.mpr ⟨lw_p78, List.forall_mem_cons.mpr ⟨lw_p79, fun _ h => absurd h List.not_mem_nil⟩⟩⟩⟩⟩⟩⟩⟩⟩⟩⟩⟩⟩⟩⟩⟩
theorem lw_p80 : lw_okq (⟨"LinkHouse$Bodies", "behind", "(LLinkHouse$Node;LLinkHouse$Node;J)Z"⟩, 17) := ⟨⟨by decide +kernel, by decide +kernel⟩, List.mem_of_getElem? (i := 245) (by decide +kernel), List.mem_of_getElem? (i := 1753) (by decide +kernel), List.mem_of_getElem? (i := 1754) (by decide +kernel)⟩
theorem lw_p81 : lw_okq (⟨"LinkHouse$Bodies", "chain", "(LLinkHouse$Node;)Z"⟩, 17) := ⟨⟨by decide +kernel, by decide +kernel⟩, List.mem_of_getElem? (i := 245) (by decide +kernel), List.mem_of_getElem? (i := 1757) (by decide +kernel), List.mem_of_getElem? (i := 1758) (by decide +kernel)⟩
theorem lw_p82 : lw_okq (⟨"LinkHouse$Bodies", "wanted", "(LLinkHouse$Node;J)Z"⟩, 17) := ⟨⟨by decide +kernel, by decide +kernel⟩, List.mem_of_getElem? (i := 245) (by decide +kernel), List.mem_of_getElem? (i := 1761) (by decide +kernel), List.mem_of_getElem? (i := 1762) (by decide +kernel)⟩
theorem lw_p83 : lw_okq (⟨"LinkHouse$Bodies", "compare", "(LLinkHouse$Node;)Z"⟩, 17) := ⟨⟨by decide +kernel, by decide +kernel⟩, List.mem_of_getElem? (i := 245) (by decide +kernel), List.mem_of_getElem? (i := 1765) (by decide +kernel), List.mem_of_getElem? (i := 1766) (by decide +kernel)⟩
theorem lw_p84 : lw_okq (⟨"LinkHouse$Bodies", "local", "(JJI)I"⟩, 17) := ⟨⟨by decide +kernel, by decide +kernel⟩, List.mem_of_getElem? (i := 245) (by decide +kernel), List.mem_of_getElem? (i := 1769) (by decide +kernel), List.mem_of_getElem? (i := 1770) (by decide +kernel)⟩
theorem lw_p85 : lw_okq (⟨"LinkHouse$Bodies", "statement", "(LLinkHouse$Node;)Z"⟩, 17) := ⟨⟨by decide +kernel, by decide +kernel⟩, List.mem_of_getElem? (i := 245) (by decide +kernel), List.mem_of_getElem? (i := 1779) (by decide +kernel), List.mem_of_getElem? (i := 1780) (by decide +kernel)⟩
theorem lw_p86 : lw_okq (⟨"LinkHouse$Bodies", "let", "(LLinkHouse$Node;)Z"⟩, 17) := ⟨⟨by decide +kernel, by decide +kernel⟩, List.mem_of_getElem? (i := 245) (by decide +kernel), List.mem_of_getElem? (i := 1783) (by decide +kernel), List.mem_of_getElem? (i := 1784) (by decide +kernel)⟩
theorem lw_p87 : lw_okq (⟨"LinkHouse$Bodies", "returned", "(LLinkHouse$Node;)Z"⟩, 17) := ⟨⟨by decide +kernel, by decide +kernel⟩, List.mem_of_getElem? (i := 245) (by decide +kernel), List.mem_of_getElem? (i := 1787) (by decide +kernel), List.mem_of_getElem? (i := 1788) (by decide +kernel)⟩
theorem lw_p88 : lw_okq (⟨"LinkHouse$Bodies", "tried", "(LLinkHouse$Node;)Z"⟩, 17) := ⟨⟨by decide +kernel, by decide +kernel⟩, List.mem_of_getElem? (i := 245) (by decide +kernel), List.mem_of_getElem? (i := 1792) (by decide +kernel), List.mem_of_getElem? (i := 1793) (by decide +kernel)⟩
theorem lw_p89 : lw_okq (⟨"LinkHouse$Bodies", "superMaker", "(LLinkHouse$Node;)Z"⟩, 17) := ⟨⟨by decide +kernel, by decide +kernel⟩, List.mem_of_getElem? (i := 245) (by decide +kernel), List.mem_of_getElem? (i := 1796) (by decide +kernel), List.mem_of_getElem? (i := 1797) (by decide +kernel)⟩
theorem lw_p90 : lw_okq (⟨"LinkHouse$Bodies", "put", "(LLinkHouse$Node;)Z"⟩, 17) := ⟨⟨by decide +kernel, by decide +kernel⟩, List.mem_of_getElem? (i := 245) (by decide +kernel), List.mem_of_getElem? (i := 1800) (by decide +kernel), List.mem_of_getElem? (i := 1801) (by decide +kernel)⟩
theorem lw_p91 : lw_okq (⟨"LinkHouse$Emitter", "openRow", "(LLinkHouse$Row;)V"⟩, 8) := ⟨⟨by decide +kernel, by decide +kernel⟩, List.mem_of_getElem? (i := 307) (by decide +kernel), List.mem_of_getElem? (i := 1818) (by decide +kernel), List.mem_of_getElem? (i := 1819) (by decide +kernel)⟩
theorem lw_p92 : lw_okq (⟨"LinkHouse$Emitter", "useOf", "(IJLLinkHouse$Member;J)I"⟩, 8) := ⟨⟨by decide +kernel, by decide +kernel⟩, List.mem_of_getElem? (i := 307) (by decide +kernel), List.mem_of_getElem? (i := 1824) (by decide +kernel), List.mem_of_getElem? (i := 1825) (by decide +kernel)⟩
theorem lw_p93 : lw_okq (⟨"LinkHouse$Emitter", "field", "(LLinkHouse$Member;)V"⟩, 8) := ⟨⟨by decide +kernel, by decide +kernel⟩, List.mem_of_getElem? (i := 307) (by decide +kernel), List.mem_of_getElem? (i := 1840) (by decide +kernel), List.mem_of_getElem? (i := 1841) (by decide +kernel)⟩
theorem lw_p94 : lw_okq (⟨"LinkHouse$Emitter", "expr", "(LLinkHouse$Node;)V"⟩, 8) := ⟨⟨by decide +kernel, by decide +kernel⟩, List.mem_of_getElem? (i := 307) (by decide +kernel), List.mem_of_getElem? (i := 1844) (by decide +kernel), List.mem_of_getElem? (i := 1845) (by decide +kernel)⟩
theorem lw_p95 : lw_okq (⟨"LinkHouse$Emitter", "got", "(LLinkHouse$Node;)V"⟩, 8) := ⟨⟨by decide +kernel, by decide +kernel⟩, List.mem_of_getElem? (i := 307) (by decide +kernel), List.mem_of_getElem? (i := 1852) (by decide +kernel), List.mem_of_getElem? (i := 1853) (by decide +kernel)⟩
def lw_privs_6 : List (MethodName × Nat) := [(⟨"LinkHouse$Bodies", "behind", "(LLinkHouse$Node;LLinkHouse$Node;J)Z"⟩, 17), (⟨"LinkHouse$Bodies", "chain", "(LLinkHouse$Node;)Z"⟩, 17), (⟨"LinkHouse$Bodies", "wanted", "(LLinkHouse$Node;J)Z"⟩, 17), (⟨"LinkHouse$Bodies", "compare", "(LLinkHouse$Node;)Z"⟩, 17), (⟨"LinkHouse$Bodies", "local", "(JJI)I"⟩, 17), (⟨"LinkHouse$Bodies", "statement", "(LLinkHouse$Node;)Z"⟩, 17), (⟨"LinkHouse$Bodies", "let", "(LLinkHouse$Node;)Z"⟩, 17), (⟨"LinkHouse$Bodies", "returned", "(LLinkHouse$Node;)Z"⟩, 17), (⟨"LinkHouse$Bodies", "tried", "(LLinkHouse$Node;)Z"⟩, 17), (⟨"LinkHouse$Bodies", "superMaker", "(LLinkHouse$Node;)Z"⟩, 17), (⟨"LinkHouse$Bodies", "put", "(LLinkHouse$Node;)Z"⟩, 17), (⟨"LinkHouse$Emitter", "openRow", "(LLinkHouse$Row;)V"⟩, 8), (⟨"LinkHouse$Emitter", "useOf", "(IJLLinkHouse$Member;J)I"⟩, 8), (⟨"LinkHouse$Emitter", "field", "(LLinkHouse$Member;)V"⟩, 8), (⟨"LinkHouse$Emitter", "expr", "(LLinkHouse$Node;)V"⟩, 8), (⟨"LinkHouse$Emitter", "got", "(LLinkHouse$Node;)V"⟩, 8)]
theorem lw_r6 : ∀ q ∈ lw_privs_6, lw_okq q := List.forall_mem_cons.mpr ⟨lw_p80, List.forall_mem_cons.mpr ⟨lw_p81, List.forall_mem_cons.mpr ⟨lw_p82, List.forall_mem_cons.mpr ⟨lw_p83, List.forall_mem_cons.mpr ⟨lw_p84, List.forall_mem_cons.mpr ⟨lw_p85, List.forall_mem_cons.mpr ⟨lw_p86, List.forall_mem_cons.mpr ⟨lw_p87, List.forall_mem_cons.mpr ⟨lw_p88, List.forall_mem_cons.mpr ⟨lw_p89, List.forall_mem_cons.mpr ⟨lw_p90, List.forall_mem_cons.mpr ⟨lw_p91, List.forall_mem_cons.mpr ⟨lw_p92, List.forall_mem_cons.mpr ⟨lw_p93, List.forall_mem_cons.mpr ⟨lw_p94, List.forall_mem_cons.mpr ⟨lw_p95, fun _ h => absurd h List.not_mem_nil⟩⟩⟩⟩⟩⟩⟩⟩⟩⟩⟩⟩⟩⟩⟩⟩
theorem lw_p96 : lw_okq (⟨"LinkHouse$Emitter", "args", "(LLinkHouse$Node;LLinkHouse$Member;)V"⟩, 8) := ⟨⟨by decide +kernel, by decide +kernel⟩, List.mem_of_getElem? (i := 307) (by decide +kernel), List.mem_of_getElem? (i := 1856) (by decide +kernel), List.mem_of_getElem? (i := 1857) (by decide +kernel)⟩
theorem lw_p97 : lw_okq (⟨"LinkHouse$Emitter", "unit", "(LLinkHouse$Node;LLinkHouse$Node;)V"⟩, 8) := ⟨⟨by decide +kernel, by decide +kernel⟩, List.mem_of_getElem? (i := 307) (by decide +kernel), List.mem_of_getElem? (i := 1860) (by decide +kernel), List.mem_of_getElem? (i := 1861) (by decide +kernel)⟩
theorem lw_p98 : lw_okq (⟨"LinkHouse$Emitter", "callSort", "(JLLinkHouse$Member;)I"⟩, 8) := ⟨⟨by decide +kernel, by decide +kernel⟩, List.mem_of_getElem? (i := 307) (by decide +kernel), List.mem_of_getElem? (i := 1864) (by decide +kernel), List.mem_of_getElem? (i := 1865) (by decide +kernel)⟩
theorem lw_p99 : lw_okq (⟨"LinkHouse$Emitter", "chain", "(LLinkHouse$Node;)V"⟩, 8) := ⟨⟨by decide +kernel, by decide +kernel⟩, List.mem_of_getElem? (i := 307) (by decide +kernel), List.mem_of_getElem? (i := 1869) (by decide +kernel), List.mem_of_getElem? (i := 1870) (by decide +kernel)⟩
theorem lw_p100 : lw_okq (⟨"LinkHouse$Emitter", "call", "(LLinkHouse$Node;)V"⟩, 8) := ⟨⟨by decide +kernel, by decide +kernel⟩, List.mem_of_getElem? (i := 307) (by decide +kernel), List.mem_of_getElem? (i := 1873) (by decide +kernel), List.mem_of_getElem? (i := 1874) (by decide +kernel)⟩
theorem lw_p101 : lw_okq (⟨"LinkHouse$Emitter", "openStart", "()V"⟩, 8) := ⟨⟨by decide +kernel, by decide +kernel⟩, List.mem_of_getElem? (i := 307) (by decide +kernel), List.mem_of_getElem? (i := 1877) (by decide +kernel), List.mem_of_getElem? (i := 1878) (by decide +kernel)⟩
theorem lw_p102 : lw_okq (⟨"LinkHouse$Emitter", "maker", "(LLinkHouse$Member;)V"⟩, 8) := ⟨⟨by decide +kernel, by decide +kernel⟩, List.mem_of_getElem? (i := 307) (by decide +kernel), List.mem_of_getElem? (i := 1885) (by decide +kernel), List.mem_of_getElem? (i := 1886) (by decide +kernel)⟩
theorem lw_p103 : lw_okq (⟨"LinkHouse$Emitter", "statement", "(LLinkHouse$Node;)V"⟩, 8) := ⟨⟨by decide +kernel, by decide +kernel⟩, List.mem_of_getElem? (i := 307) (by decide +kernel), List.mem_of_getElem? (i := 1889) (by decide +kernel), List.mem_of_getElem? (i := 1890) (by decide +kernel)⟩
theorem lw_p104 : lw_okq (⟨"LinkHouse$Emitter", "branch", "(LLinkHouse$Node;)V"⟩, 8) := ⟨⟨by decide +kernel, by decide +kernel⟩, List.mem_of_getElem? (i := 307) (by decide +kernel), List.mem_of_getElem? (i := 1893) (by decide +kernel), List.mem_of_getElem? (i := 1894) (by decide +kernel)⟩
theorem lw_p105 : lw_okq (⟨"LinkHouse$Emitter", "loop", "(LLinkHouse$Node;)V"⟩, 8) := ⟨⟨by decide +kernel, by decide +kernel⟩, List.mem_of_getElem? (i := 307) (by decide +kernel), List.mem_of_getElem? (i := 1897) (by decide +kernel), List.mem_of_getElem? (i := 1898) (by decide +kernel)⟩
theorem lw_p106 : lw_okq (⟨"LinkHouse$Emitter", "tried", "(LLinkHouse$Node;)V"⟩, 8) := ⟨⟨by decide +kernel, by decide +kernel⟩, List.mem_of_getElem? (i := 307) (by decide +kernel), List.mem_of_getElem? (i := 1902) (by decide +kernel), List.mem_of_getElem? (i := 1903) (by decide +kernel)⟩
theorem lw_p107 : lw_okq (⟨"LinkHouse$Emitter", "put", "(LLinkHouse$Node;LLinkHouse$Node;)V"⟩, 8) := ⟨⟨by decide +kernel, by decide +kernel⟩, List.mem_of_getElem? (i := 307) (by decide +kernel), List.mem_of_getElem? (i := 1907) (by decide +kernel), List.mem_of_getElem? (i := 1908) (by decide +kernel)⟩
theorem lw_p108 : lw_okq (⟨"LinkHouse$Emitter", "body", "(LLinkHouse$Member;)V"⟩, 8) := ⟨⟨by decide +kernel, by decide +kernel⟩, List.mem_of_getElem? (i := 307) (by decide +kernel), List.mem_of_getElem? (i := 1912) (by decide +kernel), List.mem_of_getElem? (i := 1913) (by decide +kernel)⟩
theorem lw_p109 : lw_okq (⟨"LinkHouse$Emitter", "bridge", "(LLinkHouse$Member;LLinkHouse$Member;)V"⟩, 8) := ⟨⟨by decide +kernel, by decide +kernel⟩, List.mem_of_getElem? (i := 307) (by decide +kernel), List.mem_of_getElem? (i := 1917) (by decide +kernel), List.mem_of_getElem? (i := 1918) (by decide +kernel)⟩
theorem lw_p110 : lw_okq (⟨"LinkHouse$Emitter", "closeRow", "()V"⟩, 8) := ⟨⟨by decide +kernel, by decide +kernel⟩, List.mem_of_getElem? (i := 307) (by decide +kernel), List.mem_of_getElem? (i := 1921) (by decide +kernel), List.mem_of_getElem? (i := 1922) (by decide +kernel)⟩
theorem lw_p111 : lw_okq (⟨"LinkHouse", "keep", "(LLinkHouse$Build;I)I"⟩, 21) := ⟨⟨by decide +kernel, by decide +kernel⟩, List.mem_of_getElem? (i := 23) (by decide +kernel), List.mem_of_getElem? (i := 1931) (by decide +kernel), List.mem_of_getElem? (i := 1932) (by decide +kernel)⟩
def lw_privs_7 : List (MethodName × Nat) := [(⟨"LinkHouse$Emitter", "args", "(LLinkHouse$Node;LLinkHouse$Member;)V"⟩, 8), (⟨"LinkHouse$Emitter", "unit", "(LLinkHouse$Node;LLinkHouse$Node;)V"⟩, 8), (⟨"LinkHouse$Emitter", "callSort", "(JLLinkHouse$Member;)I"⟩, 8), (⟨"LinkHouse$Emitter", "chain", "(LLinkHouse$Node;)V"⟩, 8), (⟨"LinkHouse$Emitter", "call", "(LLinkHouse$Node;)V"⟩, 8), (⟨"LinkHouse$Emitter", "openStart", "()V"⟩, 8), (⟨"LinkHouse$Emitter", "maker", "(LLinkHouse$Member;)V"⟩, 8), (⟨"LinkHouse$Emitter", "statement", "(LLinkHouse$Node;)V"⟩, 8), (⟨"LinkHouse$Emitter", "branch", "(LLinkHouse$Node;)V"⟩, 8), (⟨"LinkHouse$Emitter", "loop", "(LLinkHouse$Node;)V"⟩, 8), (⟨"LinkHouse$Emitter", "tried", "(LLinkHouse$Node;)V"⟩, 8), (⟨"LinkHouse$Emitter", "put", "(LLinkHouse$Node;LLinkHouse$Node;)V"⟩, 8), (⟨"LinkHouse$Emitter", "body", "(LLinkHouse$Member;)V"⟩, 8), (⟨"LinkHouse$Emitter", "bridge", "(LLinkHouse$Member;LLinkHouse$Member;)V"⟩, 8), (⟨"LinkHouse$Emitter", "closeRow", "()V"⟩, 8), (⟨"LinkHouse", "keep", "(LLinkHouse$Build;I)I"⟩, 21)]
theorem lw_r7 : ∀ q ∈ lw_privs_7, lw_okq q := List.forall_mem_cons.mpr ⟨lw_p96, List.forall_mem_cons.mpr ⟨lw_p97, List.forall_mem_cons.mpr ⟨lw_p98, List.forall_mem_cons.mpr ⟨lw_p99, List.forall_mem_cons.mpr ⟨lw_p100, List.forall_mem_cons.mpr ⟨lw_p101, List.forall_mem_cons.mpr ⟨lw_p102, List.forall_mem_cons.mpr ⟨lw_p103, List.forall_mem_cons.mpr ⟨lw_p104, List.forall_mem_cons.mpr ⟨lw_p105, List.forall_mem_cons.mpr ⟨lw_p106, List.forall_mem_cons.mpr ⟨lw_p107, List.forall_mem_cons.mpr ⟨lw_p108, List.forall_mem_cons.mpr ⟨lw_p109, List.forall_mem_cons.mpr ⟨lw_p110, List.forall_mem_cons.mpr ⟨lw_p111, fun _ h => absurd h List.not_mem_nil⟩⟩⟩⟩⟩⟩⟩⟩⟩⟩⟩⟩⟩⟩⟩⟩
theorem lw_p112 : lw_okq (⟨"LinkHouse", "renewWorld", "()V"⟩, 21) := ⟨⟨by decide +kernel, by decide +kernel⟩, List.mem_of_getElem? (i := 23) (by decide +kernel), List.mem_of_getElem? (i := 1947) (by decide +kernel), List.mem_of_getElem? (i := 1948) (by decide +kernel)⟩
theorem lw_p113 : lw_okq (⟨"LinkHouse", "rowOf", "(III)LLinkHouse$Row;"⟩, 21) := ⟨⟨by decide +kernel, by decide +kernel⟩, List.mem_of_getElem? (i := 23) (by decide +kernel), List.mem_of_getElem? (i := 1963) (by decide +kernel), List.mem_of_getElem? (i := 1964) (by decide +kernel)⟩
theorem lw_p114 : lw_okq (⟨"LinkHouse", "tellHead", "(LLinkHouse$Row;)V"⟩, 21) := ⟨⟨by decide +kernel, by decide +kernel⟩, List.mem_of_getElem? (i := 23) (by decide +kernel), List.mem_of_getElem? (i := 1971) (by decide +kernel), List.mem_of_getElem? (i := 1972) (by decide +kernel)⟩
theorem lw_p115 : lw_okq (⟨"LinkHouse", "tellText", "(Ljava/lang/String;)V"⟩, 21) := ⟨⟨by decide +kernel, by decide +kernel⟩, List.mem_of_getElem? (i := 23) (by decide +kernel), List.mem_of_getElem? (i := 1977) (by decide +kernel), List.mem_of_getElem? (i := 1978) (by decide +kernel)⟩
theorem lw_p116 : lw_okq (⟨"LinkHouse", "tellByte", "(I)V"⟩, 21) := ⟨⟨by decide +kernel, by decide +kernel⟩, List.mem_of_getElem? (i := 23) (by decide +kernel), List.mem_of_getElem? (i := 1983) (by decide +kernel), List.mem_of_getElem? (i := 1984) (by decide +kernel)⟩
theorem lw_p117 : lw_okq (⟨"LinkHouse", "tellType", "(J)V"⟩, 21) := ⟨⟨by decide +kernel, by decide +kernel⟩, List.mem_of_getElem? (i := 23) (by decide +kernel), List.mem_of_getElem? (i := 1991) (by decide +kernel), List.mem_of_getElem? (i := 1992) (by decide +kernel)⟩
theorem lw_p118 : lw_okq (⟨"LinkHouse", "tellLetters", "(J)V"⟩, 21) := ⟨⟨by decide +kernel, by decide +kernel⟩, List.mem_of_getElem? (i := 23) (by decide +kernel), List.mem_of_getElem? (i := 2000) (by decide +kernel), List.mem_of_getElem? (i := 2001) (by decide +kernel)⟩
theorem lw_p119 : lw_okq (⟨"LinkHouse", "tellList", "(LLinkHouse$Row;ILjava/lang/String;)V"⟩, 21) := ⟨⟨by decide +kernel, by decide +kernel⟩, List.mem_of_getElem? (i := 23) (by decide +kernel), List.mem_of_getElem? (i := 2007) (by decide +kernel), List.mem_of_getElem? (i := 2008) (by decide +kernel)⟩
theorem lw_p120 : lw_okq (⟨"LinkHouse", "tellMember", "(LLinkHouse$Member;)V"⟩, 21) := ⟨⟨by decide +kernel, by decide +kernel⟩, List.mem_of_getElem? (i := 23) (by decide +kernel), List.mem_of_getElem? (i := 2017) (by decide +kernel), List.mem_of_getElem? (i := 2018) (by decide +kernel)⟩
theorem lw_p121 : lw_okq (⟨"LinkHouse", "tellParams", "(LLinkHouse$Member;)V"⟩, 21) := ⟨⟨by decide +kernel, by decide +kernel⟩, List.mem_of_getElem? (i := 23) (by decide +kernel), List.mem_of_getElem? (i := 2026) (by decide +kernel), List.mem_of_getElem? (i := 2027) (by decide +kernel)⟩
theorem lw_p122 : lw_okq (⟨"LinkHouse", "tellName", "(J)V"⟩, 21) := ⟨⟨by decide +kernel, by decide +kernel⟩, List.mem_of_getElem? (i := 23) (by decide +kernel), List.mem_of_getElem? (i := 2033) (by decide +kernel), List.mem_of_getElem? (i := 2034) (by decide +kernel)⟩
theorem lw_p123 : lw_okq (⟨"LinkHouse", "tellNumber", "(J)V"⟩, 21) := ⟨⟨by decide +kernel, by decide +kernel⟩, List.mem_of_getElem? (i := 23) (by decide +kernel), List.mem_of_getElem? (i := 2038) (by decide +kernel), List.mem_of_getElem? (i := 2039) (by decide +kernel)⟩
theorem lw_p124 : lw_okq (⟨"LinkHouse", "tellUsed", "(JLLinkHouse$Member;)V"⟩, 21) := ⟨⟨by decide +kernel, by decide +kernel⟩, List.mem_of_getElem? (i := 23) (by decide +kernel), List.mem_of_getElem? (i := 2059) (by decide +kernel), List.mem_of_getElem? (i := 2060) (by decide +kernel)⟩
theorem lw_p125 : lw_okq (⟨"LinkHouse", "whereUsed", "(III)I"⟩, 21) := ⟨⟨by decide +kernel, by decide +kernel⟩, List.mem_of_getElem? (i := 23) (by decide +kernel), List.mem_of_getElem? (i := 2069) (by decide +kernel), List.mem_of_getElem? (i := 2070) (by decide +kernel)⟩
theorem lw_p126 : lw_okq (⟨"LinkHouse$Loader", "askCopy", "(JLLinkHouse$Member;J)I"⟩, 20) := ⟨⟨by decide +kernel, by decide +kernel⟩, List.mem_of_getElem? (i := 938) (by decide +kernel), List.mem_of_getElem? (i := 2080) (by decide +kernel), List.mem_of_getElem? (i := 2081) (by decide +kernel)⟩
theorem lw_p127 : lw_okq (⟨"LinkHouse$Loader", "openLoad", "(II)I"⟩, 20) := ⟨⟨by decide +kernel, by decide +kernel⟩, List.mem_of_getElem? (i := 938) (by decide +kernel), List.mem_of_getElem? (i := 2091) (by decide +kernel), List.mem_of_getElem? (i := 2092) (by decide +kernel)⟩
def lw_privs_8 : List (MethodName × Nat) := [(⟨"LinkHouse", "renewWorld", "()V"⟩, 21), (⟨"LinkHouse", "rowOf", "(III)LLinkHouse$Row;"⟩, 21), (⟨"LinkHouse", "tellHead", "(LLinkHouse$Row;)V"⟩, 21), (⟨"LinkHouse", "tellText", "(Ljava/lang/String;)V"⟩, 21), (⟨"LinkHouse", "tellByte", "(I)V"⟩, 21), (⟨"LinkHouse", "tellType", "(J)V"⟩, 21), (⟨"LinkHouse", "tellLetters", "(J)V"⟩, 21), (⟨"LinkHouse", "tellList", "(LLinkHouse$Row;ILjava/lang/String;)V"⟩, 21), (⟨"LinkHouse", "tellMember", "(LLinkHouse$Member;)V"⟩, 21), (⟨"LinkHouse", "tellParams", "(LLinkHouse$Member;)V"⟩, 21), (⟨"LinkHouse", "tellName", "(J)V"⟩, 21), (⟨"LinkHouse", "tellNumber", "(J)V"⟩, 21), (⟨"LinkHouse", "tellUsed", "(JLLinkHouse$Member;)V"⟩, 21), (⟨"LinkHouse", "whereUsed", "(III)I"⟩, 21), (⟨"LinkHouse$Loader", "askCopy", "(JLLinkHouse$Member;J)I"⟩, 20), (⟨"LinkHouse$Loader", "openLoad", "(II)I"⟩, 20)]
theorem lw_r8 : ∀ q ∈ lw_privs_8, lw_okq q := List.forall_mem_cons.mpr ⟨lw_p112, List.forall_mem_cons.mpr ⟨lw_p113, List.forall_mem_cons.mpr ⟨lw_p114, List.forall_mem_cons.mpr ⟨lw_p115, List.forall_mem_cons.mpr ⟨lw_p116, List.forall_mem_cons.mpr ⟨lw_p117, List.forall_mem_cons.mpr ⟨lw_p118, List.forall_mem_cons.mpr ⟨lw_p119, List.forall_mem_cons.mpr ⟨lw_p120, List.forall_mem_cons.mpr ⟨lw_p121, List.forall_mem_cons.mpr ⟨lw_p122, List.forall_mem_cons.mpr ⟨lw_p123, List.forall_mem_cons.mpr ⟨lw_p124, List.forall_mem_cons.mpr ⟨lw_p125, List.forall_mem_cons.mpr ⟨lw_p126, List.forall_mem_cons.mpr ⟨lw_p127, fun _ h => absurd h List.not_mem_nil⟩⟩⟩⟩⟩⟩⟩⟩⟩⟩⟩⟩⟩⟩⟩⟩
theorem lw_p128 : lw_okq (⟨"LinkHouse$Loader", "askFit", "(JJ)I"⟩, 20) := ⟨⟨by decide +kernel, by decide +kernel⟩, List.mem_of_getElem? (i := 938) (by decide +kernel), List.mem_of_getElem? (i := 2100) (by decide +kernel), List.mem_of_getElem? (i := 2101) (by decide +kernel)⟩
theorem lw_p129 : lw_okq (⟨"LinkHouse$Loader", "askCatch", "(J)I"⟩, 20) := ⟨⟨by decide +kernel, by decide +kernel⟩, List.mem_of_getElem? (i := 938) (by decide +kernel), List.mem_of_getElem? (i := 2105) (by decide +kernel), List.mem_of_getElem? (i := 2106) (by decide +kernel)⟩
theorem lw_p130 : lw_okq (⟨"LinkHouse$Loader", "askMember", "(IIILLinkHouse$Member;)I"⟩, 20) := ⟨⟨by decide +kernel, by decide +kernel⟩, List.mem_of_getElem? (i := 938) (by decide +kernel), List.mem_of_getElem? (i := 2110) (by decide +kernel), List.mem_of_getElem? (i := 2111) (by decide +kernel)⟩
theorem lw_p131 : lw_okq (⟨"LinkHouse$Loader", "isLet", "(LLinkHouse$Member;III)Z"⟩, 20) := ⟨⟨by decide +kernel, by decide +kernel⟩, List.mem_of_getElem? (i := 938) (by decide +kernel), List.mem_of_getElem? (i := 2118) (by decide +kernel), List.mem_of_getElem? (i := 2119) (by decide +kernel)⟩
theorem lw_p132 : lw_okq (⟨"LinkHouse$Loader", "askField", "(IIILLinkHouse$Member;)I"⟩, 20) := ⟨⟨by decide +kernel, by decide +kernel⟩, List.mem_of_getElem? (i := 938) (by decide +kernel), List.mem_of_getElem? (i := 2123) (by decide +kernel), List.mem_of_getElem? (i := 2124) (by decide +kernel)⟩
theorem lw_p133 : lw_okq (⟨"LinkHouse$Loader", "askMethod", "(IIILLinkHouse$Member;)I"⟩, 20) := ⟨⟨by decide +kernel, by decide +kernel⟩, List.mem_of_getElem? (i := 938) (by decide +kernel), List.mem_of_getElem? (i := 2127) (by decide +kernel), List.mem_of_getElem? (i := 2128) (by decide +kernel)⟩
theorem lw_p134 : lw_okq (⟨"LinkHouse$Loader", "resolve", "(ILLinkHouse$Member;)LLinkHouse$Member;"⟩, 20) := ⟨⟨by decide +kernel, by decide +kernel⟩, List.mem_of_getElem? (i := 938) (by decide +kernel), List.mem_of_getElem? (i := 2131) (by decide +kernel), List.mem_of_getElem? (i := 2132) (by decide +kernel)⟩
theorem lw_p135 : lw_okq (⟨"LinkHouse$Loader", "askSuper", "(ILLinkHouse$Member;)I"⟩, 20) := ⟨⟨by decide +kernel, by decide +kernel⟩, List.mem_of_getElem? (i := 938) (by decide +kernel), List.mem_of_getElem? (i := 2139) (by decide +kernel), List.mem_of_getElem? (i := 2140) (by decide +kernel)⟩
theorem lw_p136 : lw_okq (⟨"LinkHouse", "countBroken", "(LLinkHouse$World;[IZ)I"⟩, 21) := ⟨⟨by decide +kernel, by decide +kernel⟩, List.mem_of_getElem? (i := 23) (by decide +kernel), List.mem_of_getElem? (i := 2155) (by decide +kernel), List.mem_of_getElem? (i := 2156) (by decide +kernel)⟩
theorem lw_p137 : lw_okq (⟨"LinkHouse", "list", "(III)V"⟩, 21) := ⟨⟨by decide +kernel, by decide +kernel⟩, List.mem_of_getElem? (i := 23) (by decide +kernel), List.mem_of_getElem? (i := 2164) (by decide +kernel), List.mem_of_getElem? (i := 2165) (by decide +kernel)⟩
theorem lw_p138 : lw_okq (⟨"LinkHouse", "greatest", "(I)I"⟩, 21) := ⟨⟨by decide +kernel, by decide +kernel⟩, List.mem_of_getElem? (i := 23) (by decide +kernel), List.mem_of_getElem? (i := 2180) (by decide +kernel), List.mem_of_getElem? (i := 2181) (by decide +kernel)⟩
theorem lw_p139 : lw_okq (⟨"LinkHouse", "lowerTrial", "()V"⟩, 21) := ⟨⟨by decide +kernel, by decide +kernel⟩, List.mem_of_getElem? (i := 23) (by decide +kernel), List.mem_of_getElem? (i := 2185) (by decide +kernel), List.mem_of_getElem? (i := 2186) (by decide +kernel)⟩
theorem lw_p140 : lw_okq (⟨"LinkHouse$Differ", "note", "(III)I"⟩, 10) := ⟨⟨by decide +kernel, by decide +kernel⟩, List.mem_of_getElem? (i := 1018) (by decide +kernel), List.mem_of_getElem? (i := 2202) (by decide +kernel), List.mem_of_getElem? (i := 2203) (by decide +kernel)⟩
theorem lw_p141 : lw_okq (⟨"LinkHouse$Differ", "heads", "(LLinkHouse$Row;LLinkHouse$Row;)I"⟩, 10) := ⟨⟨by decide +kernel, by decide +kernel⟩, List.mem_of_getElem? (i := 1018) (by decide +kernel), List.mem_of_getElem? (i := 2210) (by decide +kernel), List.mem_of_getElem? (i := 2211) (by decide +kernel)⟩
theorem lw_p142 : lw_okq (⟨"LinkHouse$Differ", "turned", "(ZZIII)I"⟩, 10) := ⟨⟨by decide +kernel, by decide +kernel⟩, List.mem_of_getElem? (i := 1018) (by decide +kernel), List.mem_of_getElem? (i := 2214) (by decide +kernel), List.mem_of_getElem? (i := 2215) (by decide +kernel)⟩
theorem lw_p143 : lw_okq (⟨"LinkHouse$Differ", "faces", "(LLinkHouse$Row;LLinkHouse$Row;)I"⟩, 10) := ⟨⟨by decide +kernel, by decide +kernel⟩, List.mem_of_getElem? (i := 1018) (by decide +kernel), List.mem_of_getElem? (i := 2218) (by decide +kernel), List.mem_of_getElem? (i := 2219) (by decide +kernel)⟩
def lw_privs_9 : List (MethodName × Nat) := [(⟨"LinkHouse$Loader", "askFit", "(JJ)I"⟩, 20), (⟨"LinkHouse$Loader", "askCatch", "(J)I"⟩, 20), (⟨"LinkHouse$Loader", "askMember", "(IIILLinkHouse$Member;)I"⟩, 20), (⟨"LinkHouse$Loader", "isLet", "(LLinkHouse$Member;III)Z"⟩, 20), (⟨"LinkHouse$Loader", "askField", "(IIILLinkHouse$Member;)I"⟩, 20), (⟨"LinkHouse$Loader", "askMethod", "(IIILLinkHouse$Member;)I"⟩, 20), (⟨"LinkHouse$Loader", "resolve", "(ILLinkHouse$Member;)LLinkHouse$Member;"⟩, 20), (⟨"LinkHouse$Loader", "askSuper", "(ILLinkHouse$Member;)I"⟩, 20), (⟨"LinkHouse", "countBroken", "(LLinkHouse$World;[IZ)I"⟩, 21), (⟨"LinkHouse", "list", "(III)V"⟩, 21), (⟨"LinkHouse", "greatest", "(I)I"⟩, 21), (⟨"LinkHouse", "lowerTrial", "()V"⟩, 21), (⟨"LinkHouse$Differ", "note", "(III)I"⟩, 10), (⟨"LinkHouse$Differ", "heads", "(LLinkHouse$Row;LLinkHouse$Row;)I"⟩, 10), (⟨"LinkHouse$Differ", "turned", "(ZZIII)I"⟩, 10), (⟨"LinkHouse$Differ", "faces", "(LLinkHouse$Row;LLinkHouse$Row;)I"⟩, 10)]
theorem lw_r9 : ∀ q ∈ lw_privs_9, lw_okq q := List.forall_mem_cons.mpr ⟨lw_p128, List.forall_mem_cons.mpr ⟨lw_p129, List.forall_mem_cons.mpr ⟨lw_p130, List.forall_mem_cons.mpr ⟨lw_p131, List.forall_mem_cons.mpr ⟨lw_p132, List.forall_mem_cons.mpr ⟨lw_p133, List.forall_mem_cons.mpr ⟨lw_p134, List.forall_mem_cons.mpr ⟨lw_p135, List.forall_mem_cons.mpr ⟨lw_p136, List.forall_mem_cons.mpr ⟨lw_p137, List.forall_mem_cons.mpr ⟨lw_p138, List.forall_mem_cons.mpr ⟨lw_p139, List.forall_mem_cons.mpr ⟨lw_p140, List.forall_mem_cons.mpr ⟨lw_p141, List.forall_mem_cons.mpr ⟨lw_p142, List.forall_mem_cons.mpr ⟨lw_p143, fun _ h => absurd h List.not_mem_nil⟩⟩⟩⟩⟩⟩⟩⟩⟩⟩⟩⟩⟩⟩⟩⟩
theorem lw_p144 : lw_okq (⟨"LinkHouse$Differ", "only", "(LLinkHouse$Row;LLinkHouse$Row;)I"⟩, 10) := ⟨⟨by decide +kernel, by decide +kernel⟩, List.mem_of_getElem? (i := 1018) (by decide +kernel), List.mem_of_getElem? (i := 2224) (by decide +kernel), List.mem_of_getElem? (i := 2225) (by decide +kernel)⟩
theorem lw_p145 : lw_okq (⟨"LinkHouse$Differ", "fields", "(LLinkHouse$Row;LLinkHouse$Row;)I"⟩, 10) := ⟨⟨by decide +kernel, by decide +kernel⟩, List.mem_of_getElem? (i := 1018) (by decide +kernel), List.mem_of_getElem? (i := 2228) (by decide +kernel), List.mem_of_getElem? (i := 2229) (by decide +kernel)⟩
theorem lw_p146 : lw_okq (⟨"LinkHouse$Differ", "field", "(LLinkHouse$Member;LLinkHouse$Member;II)I"⟩, 10) := ⟨⟨by decide +kernel, by decide +kernel⟩, List.mem_of_getElem? (i := 1018) (by decide +kernel), List.mem_of_getElem? (i := 2237) (by decide +kernel), List.mem_of_getElem? (i := 2238) (by decide +kernel)⟩
theorem lw_p147 : lw_okq (⟨"LinkHouse$Differ", "access", "(IIIII)I"⟩, 10) := ⟨⟨by decide +kernel, by decide +kernel⟩, List.mem_of_getElem? (i := 1018) (by decide +kernel), List.mem_of_getElem? (i := 2241) (by decide +kernel), List.mem_of_getElem? (i := 2242) (by decide +kernel)⟩
theorem lw_p148 : lw_okq (⟨"LinkHouse$Differ", "methods", "(LLinkHouse$Row;LLinkHouse$Row;)I"⟩, 10) := ⟨⟨by decide +kernel, by decide +kernel⟩, List.mem_of_getElem? (i := 1018) (by decide +kernel), List.mem_of_getElem? (i := 2245) (by decide +kernel), List.mem_of_getElem? (i := 2246) (by decide +kernel)⟩
theorem lw_p149 : lw_okq (⟨"LinkHouse$Differ", "method", "(LLinkHouse$Member;LLinkHouse$Member;II)I"⟩, 10) := ⟨⟨by decide +kernel, by decide +kernel⟩, List.mem_of_getElem? (i := 1018) (by decide +kernel), List.mem_of_getElem? (i := 2250) (by decide +kernel), List.mem_of_getElem? (i := 2251) (by decide +kernel)⟩
theorem lw_p150 : lw_okq (⟨"LinkHouse$Differ", "sameBlocks", "(LLinkHouse$Member;LLinkHouse$Member;)Z"⟩, 10) := ⟨⟨by decide +kernel, by decide +kernel⟩, List.mem_of_getElem? (i := 1018) (by decide +kernel), List.mem_of_getElem? (i := 2254) (by decide +kernel), List.mem_of_getElem? (i := 2255) (by decide +kernel)⟩
theorem lw_p151 : lw_okq (⟨"LinkHouse$Differ", "sameTokens", "(I)Z"⟩, 10) := ⟨⟨by decide +kernel, by decide +kernel⟩, List.mem_of_getElem? (i := 1018) (by decide +kernel), List.mem_of_getElem? (i := 2261) (by decide +kernel), List.mem_of_getElem? (i := 2262) (by decide +kernel)⟩
theorem lw_p152 : lw_okq (⟨"LinkHouse$Differ", "makers", "(LLinkHouse$Row;LLinkHouse$Row;)I"⟩, 10) := ⟨⟨by decide +kernel, by decide +kernel⟩, List.mem_of_getElem? (i := 1018) (by decide +kernel), List.mem_of_getElem? (i := 2265) (by decide +kernel), List.mem_of_getElem? (i := 2266) (by decide +kernel)⟩
theorem lw_p153 : lw_okq (⟨"LinkHouse$Differ", "sameStarts", "(LLinkHouse$Row;LLinkHouse$Row;)Z"⟩, 10) := ⟨⟨by decide +kernel, by decide +kernel⟩, List.mem_of_getElem? (i := 1018) (by decide +kernel), List.mem_of_getElem? (i := 2270) (by decide +kernel), List.mem_of_getElem? (i := 2271) (by decide +kernel)⟩
theorem lw_p154 : lw_okq (⟨"LinkHouse", "healing", "(LLinkHouse$Row;LLinkHouse$Member;)LLinkHouse$Member;"⟩, 21) := ⟨⟨by decide +kernel, by decide +kernel⟩, List.mem_of_getElem? (i := 23) (by decide +kernel), List.mem_of_getElem? (i := 2299) (by decide +kernel), List.mem_of_getElem? (i := 2300) (by decide +kernel)⟩
theorem lw_p155 : lw_okq (⟨"LinkHouse$Machine", "ready", "(I)Z"⟩, 20) := ⟨⟨by decide +kernel, by decide +kernel⟩, List.mem_of_getElem? (i := 1058) (by decide +kernel), List.mem_of_getElem? (i := 2339) (by decide +kernel), List.mem_of_getElem? (i := 2340) (by decide +kernel)⟩
theorem lw_p156 : lw_okq (⟨"LinkHouse$Loader", "linkOwn", "(I)I"⟩, 20) := ⟨⟨by decide +kernel, by decide +kernel⟩, List.mem_of_getElem? (i := 938) (by decide +kernel), List.mem_of_getElem? (i := 2352) (by decide +kernel), List.mem_of_getElem? (i := 2353) (by decide +kernel)⟩
theorem lw_p157 : lw_okq (⟨"LinkHouse$Machine", "openFrame", "(IIILLinkHouse$Member;)V"⟩, 20) := ⟨⟨by decide +kernel, by decide +kernel⟩, List.mem_of_getElem? (i := 1058) (by decide +kernel), List.mem_of_getElem? (i := 2357) (by decide +kernel), List.mem_of_getElem? (i := 2358) (by decide +kernel)⟩
theorem lw_p158 : lw_okq (⟨"LinkHouse$Machine", "nextStart", "([I)I"⟩, 20) := ⟨⟨by decide +kernel, by decide +kernel⟩, List.mem_of_getElem? (i := 1058) (by decide +kernel), List.mem_of_getElem? (i := 2366) (by decide +kernel), List.mem_of_getElem? (i := 2367) (by decide +kernel)⟩
theorem lw_p159 : lw_okq (⟨"LinkHouse$Machine", "startedFace", "(II)I"⟩, 20) := ⟨⟨by decide +kernel, by decide +kernel⟩, List.mem_of_getElem? (i := 1058) (by decide +kernel), List.mem_of_getElem? (i := 2370) (by decide +kernel), List.mem_of_getElem? (i := 2371) (by decide +kernel)⟩
def lw_privs_10 : List (MethodName × Nat) := [(⟨"LinkHouse$Differ", "only", "(LLinkHouse$Row;LLinkHouse$Row;)I"⟩, 10), (⟨"LinkHouse$Differ", "fields", "(LLinkHouse$Row;LLinkHouse$Row;)I"⟩, 10), (⟨"LinkHouse$Differ", "field", "(LLinkHouse$Member;LLinkHouse$Member;II)I"⟩, 10), (⟨"LinkHouse$Differ", "access", "(IIIII)I"⟩, 10), (⟨"LinkHouse$Differ", "methods", "(LLinkHouse$Row;LLinkHouse$Row;)I"⟩, 10), (⟨"LinkHouse$Differ", "method", "(LLinkHouse$Member;LLinkHouse$Member;II)I"⟩, 10), (⟨"LinkHouse$Differ", "sameBlocks", "(LLinkHouse$Member;LLinkHouse$Member;)Z"⟩, 10), (⟨"LinkHouse$Differ", "sameTokens", "(I)Z"⟩, 10), (⟨"LinkHouse$Differ", "makers", "(LLinkHouse$Row;LLinkHouse$Row;)I"⟩, 10), (⟨"LinkHouse$Differ", "sameStarts", "(LLinkHouse$Row;LLinkHouse$Row;)Z"⟩, 10), (⟨"LinkHouse", "healing", "(LLinkHouse$Row;LLinkHouse$Member;)LLinkHouse$Member;"⟩, 21), (⟨"LinkHouse$Machine", "ready", "(I)Z"⟩, 20), (⟨"LinkHouse$Loader", "linkOwn", "(I)I"⟩, 20), (⟨"LinkHouse$Machine", "openFrame", "(IIILLinkHouse$Member;)V"⟩, 20), (⟨"LinkHouse$Machine", "nextStart", "([I)I"⟩, 20), (⟨"LinkHouse$Machine", "startedFace", "(II)I"⟩, 20)]
theorem lw_r10 : ∀ q ∈ lw_privs_10, lw_okq q := List.forall_mem_cons.mpr ⟨lw_p144, List.forall_mem_cons.mpr ⟨lw_p145, List.forall_mem_cons.mpr ⟨lw_p146, List.forall_mem_cons.mpr ⟨lw_p147, List.forall_mem_cons.mpr ⟨lw_p148, List.forall_mem_cons.mpr ⟨lw_p149, List.forall_mem_cons.mpr ⟨lw_p150, List.forall_mem_cons.mpr ⟨lw_p151, List.forall_mem_cons.mpr ⟨lw_p152, List.forall_mem_cons.mpr ⟨lw_p153, List.forall_mem_cons.mpr ⟨lw_p154, List.forall_mem_cons.mpr ⟨lw_p155, List.forall_mem_cons.mpr ⟨lw_p156, List.forall_mem_cons.mpr ⟨lw_p157, List.forall_mem_cons.mpr ⟨lw_p158, List.forall_mem_cons.mpr ⟨lw_p159, fun _ h => absurd h List.not_mem_nil⟩⟩⟩⟩⟩⟩⟩⟩⟩⟩⟩⟩⟩⟩⟩⟩
theorem lw_p160 : lw_okq (⟨"LinkHouse$Machine", "plainOne", "([III)Z"⟩, 20) := ⟨⟨by decide +kernel, by decide +kernel⟩, List.mem_of_getElem? (i := 1058) (by decide +kernel), List.mem_of_getElem? (i := 2379) (by decide +kernel), List.mem_of_getElem? (i := 2380) (by decide +kernel)⟩
theorem lw_p161 : lw_okq (⟨"LinkHouse$Machine", "push", "(I)V"⟩, 20) := ⟨⟨by decide +kernel, by decide +kernel⟩, List.mem_of_getElem? (i := 1058) (by decide +kernel), List.mem_of_getElem? (i := 2383) (by decide +kernel), List.mem_of_getElem? (i := 2384) (by decide +kernel)⟩
theorem lw_p162 : lw_okq (⟨"LinkHouse$Machine", "pop", "()I"⟩, 20) := ⟨⟨by decide +kernel, by decide +kernel⟩, List.mem_of_getElem? (i := 1058) (by decide +kernel), List.mem_of_getElem? (i := 2387) (by decide +kernel), List.mem_of_getElem? (i := 2388) (by decide +kernel)⟩
theorem lw_p163 : lw_okq (⟨"LinkHouse$Machine", "peek", "(I)I"⟩, 20) := ⟨⟨by decide +kernel, by decide +kernel⟩, List.mem_of_getElem? (i := 1058) (by decide +kernel), List.mem_of_getElem? (i := 2391) (by decide +kernel), List.mem_of_getElem? (i := 2392) (by decide +kernel)⟩
theorem lw_p164 : lw_okq (⟨"LinkHouse$Machine", "goOne", "([III)Z"⟩, 20) := ⟨⟨by decide +kernel, by decide +kernel⟩, List.mem_of_getElem? (i := 1058) (by decide +kernel), List.mem_of_getElem? (i := 2398) (by decide +kernel), List.mem_of_getElem? (i := 2399) (by decide +kernel)⟩
theorem lw_p165 : lw_okq (⟨"LinkHouse$Machine", "throwOne", "(I)V"⟩, 20) := ⟨⟨by decide +kernel, by decide +kernel⟩, List.mem_of_getElem? (i := 1058) (by decide +kernel), List.mem_of_getElem? (i := 2402) (by decide +kernel), List.mem_of_getElem? (i := 2403) (by decide +kernel)⟩
theorem lw_p166 : lw_okq (⟨"LinkHouse$Machine", "close", "([I)V"⟩, 20) := ⟨⟨by decide +kernel, by decide +kernel⟩, List.mem_of_getElem? (i := 1058) (by decide +kernel), List.mem_of_getElem? (i := 2406) (by decide +kernel), List.mem_of_getElem? (i := 2407) (by decide +kernel)⟩
theorem lw_p167 : lw_okq (⟨"LinkHouse$Machine", "fieldOne", "(ZII)Z"⟩, 20) := ⟨⟨by decide +kernel, by decide +kernel⟩, List.mem_of_getElem? (i := 1058) (by decide +kernel), List.mem_of_getElem? (i := 2411) (by decide +kernel), List.mem_of_getElem? (i := 2412) (by decide +kernel)⟩
theorem lw_p168 : lw_okq (⟨"LinkHouse$Machine", "staticOne", "(ZII)Z"⟩, 20) := ⟨⟨by decide +kernel, by decide +kernel⟩, List.mem_of_getElem? (i := 1058) (by decide +kernel), List.mem_of_getElem? (i := 2419) (by decide +kernel), List.mem_of_getElem? (i := 2420) (by decide +kernel)⟩
theorem lw_p169 : lw_okq (⟨"LinkHouse$Machine", "giveBack", "([II)V"⟩, 20) := ⟨⟨by decide +kernel, by decide +kernel⟩, List.mem_of_getElem? (i := 1058) (by decide +kernel), List.mem_of_getElem? (i := 2423) (by decide +kernel), List.mem_of_getElem? (i := 2424) (by decide +kernel)⟩
theorem lw_p170 : lw_okq (⟨"LinkHouse$Machine", "useOne", "([III)Z"⟩, 20) := ⟨⟨by decide +kernel, by decide +kernel⟩, List.mem_of_getElem? (i := 1058) (by decide +kernel), List.mem_of_getElem? (i := 2436) (by decide +kernel), List.mem_of_getElem? (i := 2437) (by decide +kernel)⟩
theorem lw_p171 : lw_okq (⟨"LinkHouse$Machine", "newOne", "(I)Z"⟩, 20) := ⟨⟨by decide +kernel, by decide +kernel⟩, List.mem_of_getElem? (i := 1058) (by decide +kernel), List.mem_of_getElem? (i := 2440) (by decide +kernel), List.mem_of_getElem? (i := 2441) (by decide +kernel)⟩
theorem lw_p172 : lw_okq (⟨"LinkHouse$Machine", "isOne", "(II)Z"⟩, 20) := ⟨⟨by decide +kernel, by decide +kernel⟩, List.mem_of_getElem? (i := 1058) (by decide +kernel), List.mem_of_getElem? (i := 2444) (by decide +kernel), List.mem_of_getElem? (i := 2445) (by decide +kernel)⟩
theorem lw_p173 : lw_okq (⟨"LinkHouse$Machine", "makerOne", "([IILLinkHouse$Member;)Z"⟩, 20) := ⟨⟨by decide +kernel, by decide +kernel⟩, List.mem_of_getElem? (i := 1058) (by decide +kernel), List.mem_of_getElem? (i := 2449) (by decide +kernel), List.mem_of_getElem? (i := 2450) (by decide +kernel)⟩
theorem lw_p174 : lw_okq (⟨"LinkHouse$Machine", "selectOne", "([IIIILLinkHouse$Member;)V"⟩, 20) := ⟨⟨by decide +kernel, by decide +kernel⟩, List.mem_of_getElem? (i := 1058) (by decide +kernel), List.mem_of_getElem? (i := 2457) (by decide +kernel), List.mem_of_getElem? (i := 2458) (by decide +kernel)⟩
theorem lw_p175 : lw_okq (⟨"LinkHouseModel", "four", "(I)V"⟩, 180) := ⟨⟨by decide +kernel, by decide +kernel⟩, List.mem_of_getElem? (i := 2502) (by decide +kernel), List.mem_of_getElem? (i := 2500) (by decide +kernel), List.mem_of_getElem? (i := 2501) (by decide +kernel)⟩
def lw_privs_11 : List (MethodName × Nat) := [(⟨"LinkHouse$Machine", "plainOne", "([III)Z"⟩, 20), (⟨"LinkHouse$Machine", "push", "(I)V"⟩, 20), (⟨"LinkHouse$Machine", "pop", "()I"⟩, 20), (⟨"LinkHouse$Machine", "peek", "(I)I"⟩, 20), (⟨"LinkHouse$Machine", "goOne", "([III)Z"⟩, 20), (⟨"LinkHouse$Machine", "throwOne", "(I)V"⟩, 20), (⟨"LinkHouse$Machine", "close", "([I)V"⟩, 20), (⟨"LinkHouse$Machine", "fieldOne", "(ZII)Z"⟩, 20), (⟨"LinkHouse$Machine", "staticOne", "(ZII)Z"⟩, 20), (⟨"LinkHouse$Machine", "giveBack", "([II)V"⟩, 20), (⟨"LinkHouse$Machine", "useOne", "([III)Z"⟩, 20), (⟨"LinkHouse$Machine", "newOne", "(I)Z"⟩, 20), (⟨"LinkHouse$Machine", "isOne", "(II)Z"⟩, 20), (⟨"LinkHouse$Machine", "makerOne", "([IILLinkHouse$Member;)Z"⟩, 20), (⟨"LinkHouse$Machine", "selectOne", "([IIIILLinkHouse$Member;)V"⟩, 20), (⟨"LinkHouseModel", "four", "(I)V"⟩, 180)]
theorem lw_r11 : ∀ q ∈ lw_privs_11, lw_okq q := List.forall_mem_cons.mpr ⟨lw_p160, List.forall_mem_cons.mpr ⟨lw_p161, List.forall_mem_cons.mpr ⟨lw_p162, List.forall_mem_cons.mpr ⟨lw_p163, List.forall_mem_cons.mpr ⟨lw_p164, List.forall_mem_cons.mpr ⟨lw_p165, List.forall_mem_cons.mpr ⟨lw_p166, List.forall_mem_cons.mpr ⟨lw_p167, List.forall_mem_cons.mpr ⟨lw_p168, List.forall_mem_cons.mpr ⟨lw_p169, List.forall_mem_cons.mpr ⟨lw_p170, List.forall_mem_cons.mpr ⟨lw_p171, List.forall_mem_cons.mpr ⟨lw_p172, List.forall_mem_cons.mpr ⟨lw_p173, List.forall_mem_cons.mpr ⟨lw_p174, List.forall_mem_cons.mpr ⟨lw_p175, fun _ h => absurd h List.not_mem_nil⟩⟩⟩⟩⟩⟩⟩⟩⟩⟩⟩⟩⟩⟩⟩⟩
theorem lw_p176 : lw_okq (⟨"LinkHouseModel", "isLib", "(I)Z"⟩, 180) := ⟨⟨by decide +kernel, by decide +kernel⟩, List.mem_of_getElem? (i := 2502) (by decide +kernel), List.mem_of_getElem? (i := 2525) (by decide +kernel), List.mem_of_getElem? (i := 2526) (by decide +kernel)⟩
theorem lw_p177 : lw_okq (⟨"LinkHouseModel", "tokenize", "()V"⟩, 180) := ⟨⟨by decide +kernel, by decide +kernel⟩, List.mem_of_getElem? (i := 2502) (by decide +kernel), List.mem_of_getElem? (i := 2529) (by decide +kernel), List.mem_of_getElem? (i := 2530) (by decide +kernel)⟩
theorem lw_p178 : lw_okq (⟨"LinkHouseModel", "byteAt", "(I)I"⟩, 180) := ⟨⟨by decide +kernel, by decide +kernel⟩, List.mem_of_getElem? (i := 2502) (by decide +kernel), List.mem_of_getElem? (i := 2533) (by decide +kernel), List.mem_of_getElem? (i := 2534) (by decide +kernel)⟩
theorem lw_p179 : lw_okq (⟨"LinkHouseModel", "tokenAt", "(II)I"⟩, 180) := ⟨⟨by decide +kernel, by decide +kernel⟩, List.mem_of_getElem? (i := 2502) (by decide +kernel), List.mem_of_getElem? (i := 2537) (by decide +kernel), List.mem_of_getElem? (i := 2538) (by decide +kernel)⟩
theorem lw_p180 : lw_okq (⟨"LinkHouseModel", "wordEnd", "(I)I"⟩, 180) := ⟨⟨by decide +kernel, by decide +kernel⟩, List.mem_of_getElem? (i := 2502) (by decide +kernel), List.mem_of_getElem? (i := 2547) (by decide +kernel), List.mem_of_getElem? (i := 2548) (by decide +kernel)⟩
theorem lw_p181 : lw_okq (⟨"LinkHouseModel", "isWord", "(J)Z"⟩, 180) := ⟨⟨by decide +kernel, by decide +kernel⟩, List.mem_of_getElem? (i := 2502) (by decide +kernel), List.mem_of_getElem? (i := 2555) (by decide +kernel), List.mem_of_getElem? (i := 2556) (by decide +kernel)⟩
theorem lw_p182 : lw_okq (⟨"LinkHouseModel", "parse", "()V"⟩, 180) := ⟨⟨by decide +kernel, by decide +kernel⟩, List.mem_of_getElem? (i := 2502) (by decide +kernel), List.mem_of_getElem? (i := 2559) (by decide +kernel), List.mem_of_getElem? (i := 2560) (by decide +kernel)⟩
theorem lw_p183 : lw_okq (⟨"LinkHouseModel", "kindAt", "(I)I"⟩, 180) := ⟨⟨by decide +kernel, by decide +kernel⟩, List.mem_of_getElem? (i := 2502) (by decide +kernel), List.mem_of_getElem? (i := 2563) (by decide +kernel), List.mem_of_getElem? (i := 2564) (by decide +kernel)⟩
theorem lw_p184 : lw_okq (⟨"LinkHouseModel", "klass", "()V"⟩, 180) := ⟨⟨by decide +kernel, by decide +kernel⟩, List.mem_of_getElem? (i := 2502) (by decide +kernel), List.mem_of_getElem? (i := 2567) (by decide +kernel), List.mem_of_getElem? (i := 2568) (by decide +kernel)⟩
theorem lw_p185 : lw_okq (⟨"LinkHouseModel", "takesWord", "(Ljava/lang/String;)Z"⟩, 180) := ⟨⟨by decide +kernel, by decide +kernel⟩, List.mem_of_getElem? (i := 2502) (by decide +kernel), List.mem_of_getElem? (i := 2572) (by decide +kernel), List.mem_of_getElem? (i := 2573) (by decide +kernel)⟩
theorem lw_p186 : lw_okq (⟨"LinkHouseModel", "isWordAt", "(Ljava/lang/String;)Z"⟩, 180) := ⟨⟨by decide +kernel, by decide +kernel⟩, List.mem_of_getElem? (i := 2502) (by decide +kernel), List.mem_of_getElem? (i := 2576) (by decide +kernel), List.mem_of_getElem? (i := 2577) (by decide +kernel)⟩
theorem lw_p187 : lw_okq (⟨"LinkHouseModel", "nameAt", "(I)J"⟩, 180) := ⟨⟨by decide +kernel, by decide +kernel⟩, List.mem_of_getElem? (i := 2502) (by decide +kernel), List.mem_of_getElem? (i := 2580) (by decide +kernel), List.mem_of_getElem? (i := 2581) (by decide +kernel)⟩
theorem lw_p188 : lw_okq (⟨"LinkHouseModel", "step", "()V"⟩, 180) := ⟨⟨by decide +kernel, by decide +kernel⟩, List.mem_of_getElem? (i := 2502) (by decide +kernel), List.mem_of_getElem? (i := 2589) (by decide +kernel), List.mem_of_getElem? (i := 2590) (by decide +kernel)⟩
theorem lw_p189 : lw_okq (⟨"LinkHouseModel", "placeAt", "(I)I"⟩, 180) := ⟨⟨by decide +kernel, by decide +kernel⟩, List.mem_of_getElem? (i := 2502) (by decide +kernel), List.mem_of_getElem? (i := 2593) (by decide +kernel), List.mem_of_getElem? (i := 2594) (by decide +kernel)⟩
theorem lw_p190 : lw_okq (⟨"LinkHouseModel", "fault", "(II)V"⟩, 180) := ⟨⟨by decide +kernel, by decide +kernel⟩, List.mem_of_getElem? (i := 2502) (by decide +kernel), List.mem_of_getElem? (i := 2597) (by decide +kernel), List.mem_of_getElem? (i := 2598) (by decide +kernel)⟩
theorem lw_p191 : lw_okq (⟨"LinkHouseModel", "wantWord", "(Ljava/lang/String;)V"⟩, 180) := ⟨⟨by decide +kernel, by decide +kernel⟩, List.mem_of_getElem? (i := 2502) (by decide +kernel), List.mem_of_getElem? (i := 2605) (by decide +kernel), List.mem_of_getElem? (i := 2606) (by decide +kernel)⟩
def lw_privs_12 : List (MethodName × Nat) := [(⟨"LinkHouseModel", "isLib", "(I)Z"⟩, 180), (⟨"LinkHouseModel", "tokenize", "()V"⟩, 180), (⟨"LinkHouseModel", "byteAt", "(I)I"⟩, 180), (⟨"LinkHouseModel", "tokenAt", "(II)I"⟩, 180), (⟨"LinkHouseModel", "wordEnd", "(I)I"⟩, 180), (⟨"LinkHouseModel", "isWord", "(J)Z"⟩, 180), (⟨"LinkHouseModel", "parse", "()V"⟩, 180), (⟨"LinkHouseModel", "kindAt", "(I)I"⟩, 180), (⟨"LinkHouseModel", "klass", "()V"⟩, 180), (⟨"LinkHouseModel", "takesWord", "(Ljava/lang/String;)Z"⟩, 180), (⟨"LinkHouseModel", "isWordAt", "(Ljava/lang/String;)Z"⟩, 180), (⟨"LinkHouseModel", "nameAt", "(I)J"⟩, 180), (⟨"LinkHouseModel", "step", "()V"⟩, 180), (⟨"LinkHouseModel", "placeAt", "(I)I"⟩, 180), (⟨"LinkHouseModel", "fault", "(II)V"⟩, 180), (⟨"LinkHouseModel", "wantWord", "(Ljava/lang/String;)V"⟩, 180)]
theorem lw_r12 : ∀ q ∈ lw_privs_12, lw_okq q := List.forall_mem_cons.mpr ⟨lw_p176, List.forall_mem_cons.mpr ⟨lw_p177, List.forall_mem_cons.mpr ⟨lw_p178, List.forall_mem_cons.mpr ⟨lw_p179, List.forall_mem_cons.mpr ⟨lw_p180, List.forall_mem_cons.mpr ⟨lw_p181, List.forall_mem_cons.mpr ⟨lw_p182, List.forall_mem_cons.mpr ⟨lw_p183, List.forall_mem_cons.mpr ⟨lw_p184, List.forall_mem_cons.mpr ⟨lw_p185, List.forall_mem_cons.mpr ⟨lw_p186, List.forall_mem_cons.mpr ⟨lw_p187, List.forall_mem_cons.mpr ⟨lw_p188, List.forall_mem_cons.mpr ⟨lw_p189, List.forall_mem_cons.mpr ⟨lw_p190, List.forall_mem_cons.mpr ⟨lw_p191, fun _ h => absurd h List.not_mem_nil⟩⟩⟩⟩⟩⟩⟩⟩⟩⟩⟩⟩⟩⟩⟩⟩
theorem lw_p192 : lw_okq (⟨"LinkHouseModel", "wrong", "()V"⟩, 180) := ⟨⟨by decide +kernel, by decide +kernel⟩, List.mem_of_getElem? (i := 2502) (by decide +kernel), List.mem_of_getElem? (i := 2609) (by decide +kernel), List.mem_of_getElem? (i := 2610) (by decide +kernel)⟩
theorem lw_p193 : lw_okq (⟨"LinkHouseModel", "want", "(IZ)I"⟩, 180) := ⟨⟨by decide +kernel, by decide +kernel⟩, List.mem_of_getElem? (i := 2502) (by decide +kernel), List.mem_of_getElem? (i := 2613) (by decide +kernel), List.mem_of_getElem? (i := 2614) (by decide +kernel)⟩
theorem lw_p194 : lw_okq (⟨"LinkHouseModel", "list", "([J[III)I"⟩, 180) := ⟨⟨by decide +kernel, by decide +kernel⟩, List.mem_of_getElem? (i := 2502) (by decide +kernel), List.mem_of_getElem? (i := 2619) (by decide +kernel), List.mem_of_getElem? (i := 2620) (by decide +kernel)⟩
theorem lw_p195 : lw_okq (⟨"LinkHouseModel", "isSign", "(I)Z"⟩, 180) := ⟨⟨by decide +kernel, by decide +kernel⟩, List.mem_of_getElem? (i := 2502) (by decide +kernel), List.mem_of_getElem? (i := 2623) (by decide +kernel), List.mem_of_getElem? (i := 2624) (by decide +kernel)⟩
theorem lw_p196 : lw_okq (⟨"LinkHouseModel", "wantSign", "(I)V"⟩, 180) := ⟨⟨by decide +kernel, by decide +kernel⟩, List.mem_of_getElem? (i := 2502) (by decide +kernel), List.mem_of_getElem? (i := 2630) (by decide +kernel), List.mem_of_getElem? (i := 2631) (by decide +kernel)⟩
theorem lw_p197 : lw_okq (⟨"LinkHouseModel", "member", "(I)V"⟩, 180) := ⟨⟨by decide +kernel, by decide +kernel⟩, List.mem_of_getElem? (i := 2502) (by decide +kernel), List.mem_of_getElem? (i := 2634) (by decide +kernel), List.mem_of_getElem? (i := 2635) (by decide +kernel)⟩
theorem lw_p198 : lw_okq (⟨"LinkHouseModel", "beginsMember", "()Z"⟩, 180) := ⟨⟨by decide +kernel, by decide +kernel⟩, List.mem_of_getElem? (i := 2502) (by decide +kernel), List.mem_of_getElem? (i := 2638) (by decide +kernel), List.mem_of_getElem? (i := 2639) (by decide +kernel)⟩
theorem lw_p199 : lw_okq (⟨"LinkHouseModel", "newMember", "(I)V"⟩, 180) := ⟨⟨by decide +kernel, by decide +kernel⟩, List.mem_of_getElem? (i := 2502) (by decide +kernel), List.mem_of_getElem? (i := 2649) (by decide +kernel), List.mem_of_getElem? (i := 2650) (by decide +kernel)⟩
theorem lw_p200 : lw_okq (⟨"LinkHouseModel", "params", "(I)V"⟩, 180) := ⟨⟨by decide +kernel, by decide +kernel⟩, List.mem_of_getElem? (i := 2502) (by decide +kernel), List.mem_of_getElem? (i := 2653) (by decide +kernel), List.mem_of_getElem? (i := 2654) (by decide +kernel)⟩
theorem lw_p201 : lw_okq (⟨"LinkHouseModel", "typeToken", "()J"⟩, 180) := ⟨⟨by decide +kernel, by decide +kernel⟩, List.mem_of_getElem? (i := 2502) (by decide +kernel), List.mem_of_getElem? (i := 2657) (by decide +kernel), List.mem_of_getElem? (i := 2658) (by decide +kernel)⟩
theorem lw_p202 : lw_okq (⟨"LinkHouseModel", "body", "(I)V"⟩, 180) := ⟨⟨by decide +kernel, by decide +kernel⟩, List.mem_of_getElem? (i := 2502) (by decide +kernel), List.mem_of_getElem? (i := 2662) (by decide +kernel), List.mem_of_getElem? (i := 2663) (by decide +kernel)⟩
theorem lw_p203 : lw_okq (⟨"LinkHouseModel", "statement", "()I"⟩, 180) := ⟨⟨by decide +kernel, by decide +kernel⟩, List.mem_of_getElem? (i := 2502) (by decide +kernel), List.mem_of_getElem? (i := 2666) (by decide +kernel), List.mem_of_getElem? (i := 2667) (by decide +kernel)⟩
theorem lw_p204 : lw_okq (⟨"LinkHouseModel", "beginsS", "()Z"⟩, 180) := ⟨⟨by decide +kernel, by decide +kernel⟩, List.mem_of_getElem? (i := 2502) (by decide +kernel), List.mem_of_getElem? (i := 2670) (by decide +kernel), List.mem_of_getElem? (i := 2671) (by decide +kernel)⟩
theorem lw_p205 : lw_okq (⟨"LinkHouseModel", "beginsE", "()Z"⟩, 180) := ⟨⟨by decide +kernel, by decide +kernel⟩, List.mem_of_getElem? (i := 2502) (by decide +kernel), List.mem_of_getElem? (i := 2674) (by decide +kernel), List.mem_of_getElem? (i := 2675) (by decide +kernel)⟩
theorem lw_p206 : lw_okq (⟨"LinkHouseModel", "statementWithin", "()I"⟩, 180) := ⟨⟨by decide +kernel, by decide +kernel⟩, List.mem_of_getElem? (i := 2502) (by decide +kernel), List.mem_of_getElem? (i := 2688) (by decide +kernel), List.mem_of_getElem? (i := 2689) (by decide +kernel)⟩
theorem lw_p207 : lw_okq (⟨"LinkHouseModel", "block", "(I)I"⟩, 180) := ⟨⟨by decide +kernel, by decide +kernel⟩, List.mem_of_getElem? (i := 2502) (by decide +kernel), List.mem_of_getElem? (i := 2692) (by decide +kernel), List.mem_of_getElem? (i := 2693) (by decide +kernel)⟩
def lw_privs_13 : List (MethodName × Nat) := [(⟨"LinkHouseModel", "wrong", "()V"⟩, 180), (⟨"LinkHouseModel", "want", "(IZ)I"⟩, 180), (⟨"LinkHouseModel", "list", "([J[III)I"⟩, 180), (⟨"LinkHouseModel", "isSign", "(I)Z"⟩, 180), (⟨"LinkHouseModel", "wantSign", "(I)V"⟩, 180), (⟨"LinkHouseModel", "member", "(I)V"⟩, 180), (⟨"LinkHouseModel", "beginsMember", "()Z"⟩, 180), (⟨"LinkHouseModel", "newMember", "(I)V"⟩, 180), (⟨"LinkHouseModel", "params", "(I)V"⟩, 180), (⟨"LinkHouseModel", "typeToken", "()J"⟩, 180), (⟨"LinkHouseModel", "body", "(I)V"⟩, 180), (⟨"LinkHouseModel", "statement", "()I"⟩, 180), (⟨"LinkHouseModel", "beginsS", "()Z"⟩, 180), (⟨"LinkHouseModel", "beginsE", "()Z"⟩, 180), (⟨"LinkHouseModel", "statementWithin", "()I"⟩, 180), (⟨"LinkHouseModel", "block", "(I)I"⟩, 180)]
theorem lw_r13 : ∀ q ∈ lw_privs_13, lw_okq q := List.forall_mem_cons.mpr ⟨lw_p192, List.forall_mem_cons.mpr ⟨lw_p193, List.forall_mem_cons.mpr ⟨lw_p194, List.forall_mem_cons.mpr ⟨lw_p195, List.forall_mem_cons.mpr ⟨lw_p196, List.forall_mem_cons.mpr ⟨lw_p197, List.forall_mem_cons.mpr ⟨lw_p198, List.forall_mem_cons.mpr ⟨lw_p199, List.forall_mem_cons.mpr ⟨lw_p200, List.forall_mem_cons.mpr ⟨lw_p201, List.forall_mem_cons.mpr ⟨lw_p202, List.forall_mem_cons.mpr ⟨lw_p203, List.forall_mem_cons.mpr ⟨lw_p204, List.forall_mem_cons.mpr ⟨lw_p205, List.forall_mem_cons.mpr ⟨lw_p206, List.forall_mem_cons.mpr ⟨lw_p207, fun _ h => absurd h List.not_mem_nil⟩⟩⟩⟩⟩⟩⟩⟩⟩⟩⟩⟩⟩⟩⟩⟩
theorem lw_p208 : lw_okq (⟨"LinkHouseModel", "node", "(II)I"⟩, 180) := ⟨⟨by decide +kernel, by decide +kernel⟩, List.mem_of_getElem? (i := 2502) (by decide +kernel), List.mem_of_getElem? (i := 2696) (by decide +kernel), List.mem_of_getElem? (i := 2697) (by decide +kernel)⟩
theorem lw_p209 : lw_okq (⟨"LinkHouseModel", "expression", "()I"⟩, 180) := ⟨⟨by decide +kernel, by decide +kernel⟩, List.mem_of_getElem? (i := 2502) (by decide +kernel), List.mem_of_getElem? (i := 2700) (by decide +kernel), List.mem_of_getElem? (i := 2701) (by decide +kernel)⟩
theorem lw_p210 : lw_okq (⟨"LinkHouseModel", "sum", "()I"⟩, 180) := ⟨⟨by decide +kernel, by decide +kernel⟩, List.mem_of_getElem? (i := 2502) (by decide +kernel), List.mem_of_getElem? (i := 2704) (by decide +kernel), List.mem_of_getElem? (i := 2705) (by decide +kernel)⟩
theorem lw_p211 : lw_okq (⟨"LinkHouseModel", "product", "()I"⟩, 180) := ⟨⟨by decide +kernel, by decide +kernel⟩, List.mem_of_getElem? (i := 2502) (by decide +kernel), List.mem_of_getElem? (i := 2708) (by decide +kernel), List.mem_of_getElem? (i := 2709) (by decide +kernel)⟩
theorem lw_p212 : lw_okq (⟨"LinkHouseModel", "unit", "()I"⟩, 180) := ⟨⟨by decide +kernel, by decide +kernel⟩, List.mem_of_getElem? (i := 2502) (by decide +kernel), List.mem_of_getElem? (i := 2712) (by decide +kernel), List.mem_of_getElem? (i := 2713) (by decide +kernel)⟩
theorem lw_p213 : lw_okq (⟨"LinkHouseModel", "first", "()I"⟩, 180) := ⟨⟨by decide +kernel, by decide +kernel⟩, List.mem_of_getElem? (i := 2502) (by decide +kernel), List.mem_of_getElem? (i := 2716) (by decide +kernel), List.mem_of_getElem? (i := 2717) (by decide +kernel)⟩
theorem lw_p214 : lw_okq (⟨"LinkHouseModel", "arguments", "()I"⟩, 180) := ⟨⟨by decide +kernel, by decide +kernel⟩, List.mem_of_getElem? (i := 2502) (by decide +kernel), List.mem_of_getElem? (i := 2720) (by decide +kernel), List.mem_of_getElem? (i := 2721) (by decide +kernel)⟩
theorem lw_p215 : lw_okq (⟨"LinkHouseModel", "ofClass", "(I)I"⟩, 180) := ⟨⟨by decide +kernel, by decide +kernel⟩, List.mem_of_getElem? (i := 2502) (by decide +kernel), List.mem_of_getElem? (i := 2724) (by decide +kernel), List.mem_of_getElem? (i := 2725) (by decide +kernel)⟩
theorem lw_p216 : lw_okq (⟨"LinkHouseModel", "inBrackets", "(I)I"⟩, 180) := ⟨⟨by decide +kernel, by decide +kernel⟩, List.mem_of_getElem? (i := 2502) (by decide +kernel), List.mem_of_getElem? (i := 2728) (by decide +kernel), List.mem_of_getElem? (i := 2729) (by decide +kernel)⟩
theorem lw_p217 : lw_okq (⟨"LinkHouseModel", "tryOf", "(I)I"⟩, 180) := ⟨⟨by decide +kernel, by decide +kernel⟩, List.mem_of_getElem? (i := 2502) (by decide +kernel), List.mem_of_getElem? (i := 2734) (by decide +kernel), List.mem_of_getElem? (i := 2735) (by decide +kernel)⟩
theorem lw_p218 : lw_okq (⟨"LinkHouseModel", "blockOnly", "()I"⟩, 180) := ⟨⟨by decide +kernel, by decide +kernel⟩, List.mem_of_getElem? (i := 2502) (by decide +kernel), List.mem_of_getElem? (i := 2738) (by decide +kernel), List.mem_of_getElem? (i := 2739) (by decide +kernel)⟩
theorem lw_p219 : lw_okq (⟨"LinkHouseModel", "isSignNext", "(I)Z"⟩, 180) := ⟨⟨by decide +kernel, by decide +kernel⟩, List.mem_of_getElem? (i := 2502) (by decide +kernel), List.mem_of_getElem? (i := 2743) (by decide +kernel), List.mem_of_getElem? (i := 2744) (by decide +kernel)⟩
theorem lw_p220 : lw_okq (⟨"LinkHouseModel", "fieldOrMethod", "(I)V"⟩, 180) := ⟨⟨by decide +kernel, by decide +kernel⟩, List.mem_of_getElem? (i := 2502) (by decide +kernel), List.mem_of_getElem? (i := 2747) (by decide +kernel), List.mem_of_getElem? (i := 2748) (by decide +kernel)⟩
theorem lw_p221 : lw_okq (⟨"LinkHouseModel", "effects", "(II)V"⟩, 180) := ⟨⟨by decide +kernel, by decide +kernel⟩, List.mem_of_getElem? (i := 2502) (by decide +kernel), List.mem_of_getElem? (i := 2751) (by decide +kernel), List.mem_of_getElem? (i := 2752) (by decide +kernel)⟩
theorem lw_p222 : lw_okq (⟨"LinkHouseModel", "judgeAll", "()V"⟩, 180) := ⟨⟨by decide +kernel, by decide +kernel⟩, List.mem_of_getElem? (i := 2502) (by decide +kernel), List.mem_of_getElem? (i := 2755) (by decide +kernel), List.mem_of_getElem? (i := 2756) (by decide +kernel)⟩
theorem lw_p223 : lw_okq (⟨"LinkHouseModel", "heads", "()V"⟩, 180) := ⟨⟨by decide +kernel, by decide +kernel⟩, List.mem_of_getElem? (i := 2502) (by decide +kernel), List.mem_of_getElem? (i := 2759) (by decide +kernel), List.mem_of_getElem? (i := 2760) (by decide +kernel)⟩
def lw_privs_14 : List (MethodName × Nat) := [(⟨"LinkHouseModel", "node", "(II)I"⟩, 180), (⟨"LinkHouseModel", "expression", "()I"⟩, 180), (⟨"LinkHouseModel", "sum", "()I"⟩, 180), (⟨"LinkHouseModel", "product", "()I"⟩, 180), (⟨"LinkHouseModel", "unit", "()I"⟩, 180), (⟨"LinkHouseModel", "first", "()I"⟩, 180), (⟨"LinkHouseModel", "arguments", "()I"⟩, 180), (⟨"LinkHouseModel", "ofClass", "(I)I"⟩, 180), (⟨"LinkHouseModel", "inBrackets", "(I)I"⟩, 180), (⟨"LinkHouseModel", "tryOf", "(I)I"⟩, 180), (⟨"LinkHouseModel", "blockOnly", "()I"⟩, 180), (⟨"LinkHouseModel", "isSignNext", "(I)Z"⟩, 180), (⟨"LinkHouseModel", "fieldOrMethod", "(I)V"⟩, 180), (⟨"LinkHouseModel", "effects", "(II)V"⟩, 180), (⟨"LinkHouseModel", "judgeAll", "()V"⟩, 180), (⟨"LinkHouseModel", "heads", "()V"⟩, 180)]
theorem lw_r14 : ∀ q ∈ lw_privs_14, lw_okq q := List.forall_mem_cons.mpr ⟨lw_p208, List.forall_mem_cons.mpr ⟨lw_p209, List.forall_mem_cons.mpr ⟨lw_p210, List.forall_mem_cons.mpr ⟨lw_p211, List.forall_mem_cons.mpr ⟨lw_p212, List.forall_mem_cons.mpr ⟨lw_p213, List.forall_mem_cons.mpr ⟨lw_p214, List.forall_mem_cons.mpr ⟨lw_p215, List.forall_mem_cons.mpr ⟨lw_p216, List.forall_mem_cons.mpr ⟨lw_p217, List.forall_mem_cons.mpr ⟨lw_p218, List.forall_mem_cons.mpr ⟨lw_p219, List.forall_mem_cons.mpr ⟨lw_p220, List.forall_mem_cons.mpr ⟨lw_p221, List.forall_mem_cons.mpr ⟨lw_p222, List.forall_mem_cons.mpr ⟨lw_p223, fun _ h => absurd h List.not_mem_nil⟩⟩⟩⟩⟩⟩⟩⟩⟩⟩⟩⟩⟩⟩⟩⟩
theorem lw_p224 : lw_okq (⟨"LinkHouseModel", "head", "(I)V"⟩, 180) := ⟨⟨by decide +kernel, by decide +kernel⟩, List.mem_of_getElem? (i := 2502) (by decide +kernel), List.mem_of_getElem? (i := 2763) (by decide +kernel), List.mem_of_getElem? (i := 2764) (by decide +kernel)⟩
theorem lw_p225 : lw_okq (⟨"LinkHouseModel", "inSlot", "(IJ)I"⟩, 180) := ⟨⟨by decide +kernel, by decide +kernel⟩, List.mem_of_getElem? (i := 2502) (by decide +kernel), List.mem_of_getElem? (i := 2767) (by decide +kernel), List.mem_of_getElem? (i := 2768) (by decide +kernel)⟩
theorem lw_p226 : lw_okq (⟨"LinkHouseModel", "find", "(J)I"⟩, 180) := ⟨⟨by decide +kernel, by decide +kernel⟩, List.mem_of_getElem? (i := 2502) (by decide +kernel), List.mem_of_getElem? (i := 2779) (by decide +kernel), List.mem_of_getElem? (i := 2780) (by decide +kernel)⟩
theorem lw_p227 : lw_okq (⟨"LinkHouseModel", "isFace", "(I)Z"⟩, 180) := ⟨⟨by decide +kernel, by decide +kernel⟩, List.mem_of_getElem? (i := 2502) (by decide +kernel), List.mem_of_getElem? (i := 2785) (by decide +kernel), List.mem_of_getElem? (i := 2786) (by decide +kernel)⟩
theorem lw_p228 : lw_okq (⟨"LinkHouseModel", "letsBelow", "(II)Z"⟩, 180) := ⟨⟨by decide +kernel, by decide +kernel⟩, List.mem_of_getElem? (i := 2502) (by decide +kernel), List.mem_of_getElem? (i := 2789) (by decide +kernel), List.mem_of_getElem? (i := 2790) (by decide +kernel)⟩
theorem lw_p229 : lw_okq (⟨"LinkHouseModel", "isLet", "(II)Z"⟩, 180) := ⟨⟨by decide +kernel, by decide +kernel⟩, List.mem_of_getElem? (i := 2502) (by decide +kernel), List.mem_of_getElem? (i := 2793) (by decide +kernel), List.mem_of_getElem? (i := 2794) (by decide +kernel)⟩
theorem lw_p230 : lw_okq (⟨"LinkHouseModel", "onePackage", "(II)Z"⟩, 180) := ⟨⟨by decide +kernel, by decide +kernel⟩, List.mem_of_getElem? (i := 2502) (by decide +kernel), List.mem_of_getElem? (i := 2797) (by decide +kernel), List.mem_of_getElem? (i := 2798) (by decide +kernel)⟩
theorem lw_p231 : lw_okq (⟨"LinkHouseModel", "isHeir", "(II)Z"⟩, 180) := ⟨⟨by decide +kernel, by decide +kernel⟩, List.mem_of_getElem? (i := 2502) (by decide +kernel), List.mem_of_getElem? (i := 2804) (by decide +kernel), List.mem_of_getElem? (i := 2805) (by decide +kernel)⟩
theorem lw_p232 : lw_okq (⟨"LinkHouseModel", "newStamp", "()V"⟩, 180) := ⟨⟨by decide +kernel, by decide +kernel⟩, List.mem_of_getElem? (i := 2502) (by decide +kernel), List.mem_of_getElem? (i := 2808) (by decide +kernel), List.mem_of_getElem? (i := 2809) (by decide +kernel)⟩
theorem lw_p233 : lw_okq (⟨"LinkHouseModel", "parent", "(I)I"⟩, 180) := ⟨⟨by decide +kernel, by decide +kernel⟩, List.mem_of_getElem? (i := 2502) (by decide +kernel), List.mem_of_getElem? (i := 2813) (by decide +kernel), List.mem_of_getElem? (i := 2814) (by decide +kernel)⟩
theorem lw_p234 : lw_okq (⟨"LinkHouseModel", "membersOf", "()V"⟩, 180) := ⟨⟨by decide +kernel, by decide +kernel⟩, List.mem_of_getElem? (i := 2502) (by decide +kernel), List.mem_of_getElem? (i := 2817) (by decide +kernel), List.mem_of_getElem? (i := 2818) (by decide +kernel)⟩
theorem lw_p235 : lw_okq (⟨"LinkHouseModel", "isWrongInFace", "(I)Z"⟩, 180) := ⟨⟨by decide +kernel, by decide +kernel⟩, List.mem_of_getElem? (i := 2502) (by decide +kernel), List.mem_of_getElem? (i := 2821) (by decide +kernel), List.mem_of_getElem? (i := 2822) (by decide +kernel)⟩
theorem lw_p236 : lw_okq (⟨"LinkHouseModel", "isWrongInClass", "(II)Z"⟩, 180) := ⟨⟨by decide +kernel, by decide +kernel⟩, List.mem_of_getElem? (i := 2502) (by decide +kernel), List.mem_of_getElem? (i := 2825) (by decide +kernel), List.mem_of_getElem? (i := 2826) (by decide +kernel)⟩
theorem lw_p237 : lw_okq (⟨"LinkHouseModel", "type", "(JII)V"⟩, 180) := ⟨⟨by decide +kernel, by decide +kernel⟩, List.mem_of_getElem? (i := 2502) (by decide +kernel), List.mem_of_getElem? (i := 2829) (by decide +kernel), List.mem_of_getElem? (i := 2830) (by decide +kernel)⟩
theorem lw_p238 : lw_okq (⟨"LinkHouseModel", "sameParams", "(II)Z"⟩, 180) := ⟨⟨by decide +kernel, by decide +kernel⟩, List.mem_of_getElem? (i := 2502) (by decide +kernel), List.mem_of_getElem? (i := 2836) (by decide +kernel), List.mem_of_getElem? (i := 2837) (by decide +kernel)⟩
theorem lw_p239 : lw_okq (⟨"LinkHouseModel", "againstAbove", "()V"⟩, 180) := ⟨⟨by decide +kernel, by decide +kernel⟩, List.mem_of_getElem? (i := 2502) (by decide +kernel), List.mem_of_getElem? (i := 2840) (by decide +kernel), List.mem_of_getElem? (i := 2841) (by decide +kernel)⟩
def lw_privs_15 : List (MethodName × Nat) := [(⟨"LinkHouseModel", "head", "(I)V"⟩, 180), (⟨"LinkHouseModel", "inSlot", "(IJ)I"⟩, 180), (⟨"LinkHouseModel", "find", "(J)I"⟩, 180), (⟨"LinkHouseModel", "isFace", "(I)Z"⟩, 180), (⟨"LinkHouseModel", "letsBelow", "(II)Z"⟩, 180), (⟨"LinkHouseModel", "isLet", "(II)Z"⟩, 180), (⟨"LinkHouseModel", "onePackage", "(II)Z"⟩, 180), (⟨"LinkHouseModel", "isHeir", "(II)Z"⟩, 180), (⟨"LinkHouseModel", "newStamp", "()V"⟩, 180), (⟨"LinkHouseModel", "parent", "(I)I"⟩, 180), (⟨"LinkHouseModel", "membersOf", "()V"⟩, 180), (⟨"LinkHouseModel", "isWrongInFace", "(I)Z"⟩, 180), (⟨"LinkHouseModel", "isWrongInClass", "(II)Z"⟩, 180), (⟨"LinkHouseModel", "type", "(JII)V"⟩, 180), (⟨"LinkHouseModel", "sameParams", "(II)Z"⟩, 180), (⟨"LinkHouseModel", "againstAbove", "()V"⟩, 180)]
theorem lw_r15 : ∀ q ∈ lw_privs_15, lw_okq q := List.forall_mem_cons.mpr ⟨lw_p224, List.forall_mem_cons.mpr ⟨lw_p225, List.forall_mem_cons.mpr ⟨lw_p226, List.forall_mem_cons.mpr ⟨lw_p227, List.forall_mem_cons.mpr ⟨lw_p228, List.forall_mem_cons.mpr ⟨lw_p229, List.forall_mem_cons.mpr ⟨lw_p230, List.forall_mem_cons.mpr ⟨lw_p231, List.forall_mem_cons.mpr ⟨lw_p232, List.forall_mem_cons.mpr ⟨lw_p233, List.forall_mem_cons.mpr ⟨lw_p234, List.forall_mem_cons.mpr ⟨lw_p235, List.forall_mem_cons.mpr ⟨lw_p236, List.forall_mem_cons.mpr ⟨lw_p237, List.forall_mem_cons.mpr ⟨lw_p238, List.forall_mem_cons.mpr ⟨lw_p239, fun _ h => absurd h List.not_mem_nil⟩⟩⟩⟩⟩⟩⟩⟩⟩⟩⟩⟩⟩⟩⟩⟩
theorem lw_p240 : lw_okq (⟨"LinkHouseModel", "findAbove", "(I)V"⟩, 180) := ⟨⟨by decide +kernel, by decide +kernel⟩, List.mem_of_getElem? (i := 2502) (by decide +kernel), List.mem_of_getElem? (i := 2844) (by decide +kernel), List.mem_of_getElem? (i := 2845) (by decide +kernel)⟩
theorem lw_p241 : lw_okq (⟨"LinkHouseModel", "classOfMember", "(I)I"⟩, 180) := ⟨⟨by decide +kernel, by decide +kernel⟩, List.mem_of_getElem? (i := 2502) (by decide +kernel), List.mem_of_getElem? (i := 2848) (by decide +kernel), List.mem_of_getElem? (i := 2849) (by decide +kernel)⟩
theorem lw_p242 : lw_okq (⟨"LinkHouseModel", "parents", "(I[I)I"⟩, 180) := ⟨⟨by decide +kernel, by decide +kernel⟩, List.mem_of_getElem? (i := 2502) (by decide +kernel), List.mem_of_getElem? (i := 2852) (by decide +kernel), List.mem_of_getElem? (i := 2853) (by decide +kernel)⟩
theorem lw_p243 : lw_okq (⟨"LinkHouseModel", "aboveIn", "(III)V"⟩, 180) := ⟨⟨by decide +kernel, by decide +kernel⟩, List.mem_of_getElem? (i := 2502) (by decide +kernel), List.mem_of_getElem? (i := 2859) (by decide +kernel), List.mem_of_getElem? (i := 2860) (by decide +kernel)⟩
theorem lw_p244 : lw_okq (⟨"LinkHouseModel", "allFaces", "(I[I)I"⟩, 180) := ⟨⟨by decide +kernel, by decide +kernel⟩, List.mem_of_getElem? (i := 2502) (by decide +kernel), List.mem_of_getElem? (i := 2863) (by decide +kernel), List.mem_of_getElem? (i := 2864) (by decide +kernel)⟩
theorem lw_p245 : lw_okq (⟨"LinkHouseModel", "isAgainst", "(II)Z"⟩, 180) := ⟨⟨by decide +kernel, by decide +kernel⟩, List.mem_of_getElem? (i := 2502) (by decide +kernel), List.mem_of_getElem? (i := 2867) (by decide +kernel), List.mem_of_getElem? (i := 2868) (by decide +kernel)⟩
theorem lw_p246 : lw_okq (⟨"LinkHouseModel", "fits", "(JJ)Z"⟩, 180) := ⟨⟨by decide +kernel, by decide +kernel⟩, List.mem_of_getElem? (i := 2502) (by decide +kernel), List.mem_of_getElem? (i := 2871) (by decide +kernel), List.mem_of_getElem? (i := 2872) (by decide +kernel)⟩
theorem lw_p247 : lw_okq (⟨"LinkHouseModel", "makersAndBridges", "()V"⟩, 180) := ⟨⟨by decide +kernel, by decide +kernel⟩, List.mem_of_getElem? (i := 2502) (by decide +kernel), List.mem_of_getElem? (i := 2876) (by decide +kernel), List.mem_of_getElem? (i := 2877) (by decide +kernel)⟩
theorem lw_p248 : lw_okq (⟨"LinkHouseModel", "bridges", "(I)V"⟩, 180) := ⟨⟨by decide +kernel, by decide +kernel⟩, List.mem_of_getElem? (i := 2502) (by decide +kernel), List.mem_of_getElem? (i := 2880) (by decide +kernel), List.mem_of_getElem? (i := 2881) (by decide +kernel)⟩
theorem lw_p249 : lw_okq (⟨"LinkHouseModel", "isFree", "(I)Z"⟩, 180) := ⟨⟨by decide +kernel, by decide +kernel⟩, List.mem_of_getElem? (i := 2502) (by decide +kernel), List.mem_of_getElem? (i := 2884) (by decide +kernel), List.mem_of_getElem? (i := 2885) (by decide +kernel)⟩
theorem lw_p250 : lw_okq (⟨"LinkHouseModel", "hasBridge", "(III)Z"⟩, 180) := ⟨⟨by decide +kernel, by decide +kernel⟩, List.mem_of_getElem? (i := 2502) (by decide +kernel), List.mem_of_getElem? (i := 2888) (by decide +kernel), List.mem_of_getElem? (i := 2889) (by decide +kernel)⟩
theorem lw_p251 : lw_okq (⟨"LinkHouseModel", "sameSign", "(II)Z"⟩, 180) := ⟨⟨by decide +kernel, by decide +kernel⟩, List.mem_of_getElem? (i := 2502) (by decide +kernel), List.mem_of_getElem? (i := 2892) (by decide +kernel), List.mem_of_getElem? (i := 2893) (by decide +kernel)⟩
theorem lw_p252 : lw_okq (⟨"LinkHouseModel", "bridge", "(IIJ)I"⟩, 180) := ⟨⟨by decide +kernel, by decide +kernel⟩, List.mem_of_getElem? (i := 2502) (by decide +kernel), List.mem_of_getElem? (i := 2896) (by decide +kernel), List.mem_of_getElem? (i := 2897) (by decide +kernel)⟩
theorem lw_p253 : lw_okq (⟨"LinkHouseModel", "lacking", "()V"⟩, 180) := ⟨⟨by decide +kernel, by decide +kernel⟩, List.mem_of_getElem? (i := 2502) (by decide +kernel), List.mem_of_getElem? (i := 2900) (by decide +kernel), List.mem_of_getElem? (i := 2901) (by decide +kernel)⟩
theorem lw_p254 : lw_okq (⟨"LinkHouseModel", "lackingOf", "(II)V"⟩, 180) := ⟨⟨by decide +kernel, by decide +kernel⟩, List.mem_of_getElem? (i := 2502) (by decide +kernel), List.mem_of_getElem? (i := 2904) (by decide +kernel), List.mem_of_getElem? (i := 2905) (by decide +kernel)⟩
theorem lw_p255 : lw_okq (⟨"LinkHouseModel", "selected", "(II)I"⟩, 180) := ⟨⟨by decide +kernel, by decide +kernel⟩, List.mem_of_getElem? (i := 2502) (by decide +kernel), List.mem_of_getElem? (i := 2908) (by decide +kernel), List.mem_of_getElem? (i := 2909) (by decide +kernel)⟩
def lw_privs_16 : List (MethodName × Nat) := [(⟨"LinkHouseModel", "findAbove", "(I)V"⟩, 180), (⟨"LinkHouseModel", "classOfMember", "(I)I"⟩, 180), (⟨"LinkHouseModel", "parents", "(I[I)I"⟩, 180), (⟨"LinkHouseModel", "aboveIn", "(III)V"⟩, 180), (⟨"LinkHouseModel", "allFaces", "(I[I)I"⟩, 180), (⟨"LinkHouseModel", "isAgainst", "(II)Z"⟩, 180), (⟨"LinkHouseModel", "fits", "(JJ)Z"⟩, 180), (⟨"LinkHouseModel", "makersAndBridges", "()V"⟩, 180), (⟨"LinkHouseModel", "bridges", "(I)V"⟩, 180), (⟨"LinkHouseModel", "isFree", "(I)Z"⟩, 180), (⟨"LinkHouseModel", "hasBridge", "(III)Z"⟩, 180), (⟨"LinkHouseModel", "sameSign", "(II)Z"⟩, 180), (⟨"LinkHouseModel", "bridge", "(IIJ)I"⟩, 180), (⟨"LinkHouseModel", "lacking", "()V"⟩, 180), (⟨"LinkHouseModel", "lackingOf", "(II)V"⟩, 180), (⟨"LinkHouseModel", "selected", "(II)I"⟩, 180)]
theorem lw_r16 : ∀ q ∈ lw_privs_16, lw_okq q := List.forall_mem_cons.mpr ⟨lw_p240, List.forall_mem_cons.mpr ⟨lw_p241, List.forall_mem_cons.mpr ⟨lw_p242, List.forall_mem_cons.mpr ⟨lw_p243, List.forall_mem_cons.mpr ⟨lw_p244, List.forall_mem_cons.mpr ⟨lw_p245, List.forall_mem_cons.mpr ⟨lw_p246, List.forall_mem_cons.mpr ⟨lw_p247, List.forall_mem_cons.mpr ⟨lw_p248, List.forall_mem_cons.mpr ⟨lw_p249, List.forall_mem_cons.mpr ⟨lw_p250, List.forall_mem_cons.mpr ⟨lw_p251, List.forall_mem_cons.mpr ⟨lw_p252, List.forall_mem_cons.mpr ⟨lw_p253, List.forall_mem_cons.mpr ⟨lw_p254, List.forall_mem_cons.mpr ⟨lw_p255, fun _ h => absurd h List.not_mem_nil⟩⟩⟩⟩⟩⟩⟩⟩⟩⟩⟩⟩⟩⟩⟩⟩
theorem lw_p256 : lw_okq (⟨"LinkHouseModel", "ownMethod", "(II)I"⟩, 180) := ⟨⟨by decide +kernel, by decide +kernel⟩, List.mem_of_getElem? (i := 2502) (by decide +kernel), List.mem_of_getElem? (i := 2912) (by decide +kernel), List.mem_of_getElem? (i := 2913) (by decide +kernel)⟩
theorem lw_p257 : lw_okq (⟨"LinkHouseModel", "overrides", "(II)Z"⟩, 180) := ⟨⟨by decide +kernel, by decide +kernel⟩, List.mem_of_getElem? (i := 2502) (by decide +kernel), List.mem_of_getElem? (i := 2916) (by decide +kernel), List.mem_of_getElem? (i := 2917) (by decide +kernel)⟩
theorem lw_p258 : lw_okq (⟨"LinkHouseModel", "mostSpecial", "(II)I"⟩, 180) := ⟨⟨by decide +kernel, by decide +kernel⟩, List.mem_of_getElem? (i := 2502) (by decide +kernel), List.mem_of_getElem? (i := 2920) (by decide +kernel), List.mem_of_getElem? (i := 2921) (by decide +kernel)⟩
theorem lw_p259 : lw_okq (⟨"LinkHouseModel", "constants", "()V"⟩, 180) := ⟨⟨by decide +kernel, by decide +kernel⟩, List.mem_of_getElem? (i := 2502) (by decide +kernel), List.mem_of_getElem? (i := 2924) (by decide +kernel), List.mem_of_getElem? (i := 2925) (by decide +kernel)⟩
theorem lw_p260 : lw_okq (⟨"LinkHouseModel", "folded", "(II)J"⟩, 180) := ⟨⟨by decide +kernel, by decide +kernel⟩, List.mem_of_getElem? (i := 2502) (by decide +kernel), List.mem_of_getElem? (i := 2928) (by decide +kernel), List.mem_of_getElem? (i := 2929) (by decide +kernel)⟩
theorem lw_p261 : lw_okq (⟨"LinkHouseModel", "knownConstant", "(II)J"⟩, 180) := ⟨⟨by decide +kernel, by decide +kernel⟩, List.mem_of_getElem? (i := 2502) (by decide +kernel), List.mem_of_getElem? (i := 2935) (by decide +kernel), List.mem_of_getElem? (i := 2936) (by decide +kernel)⟩
theorem lw_p262 : lw_okq (⟨"LinkHouseModel", "theField", "(IJJ)I"⟩, 180) := ⟨⟨by decide +kernel, by decide +kernel⟩, List.mem_of_getElem? (i := 2502) (by decide +kernel), List.mem_of_getElem? (i := 2940) (by decide +kernel), List.mem_of_getElem? (i := 2941) (by decide +kernel)⟩
theorem lw_p263 : lw_okq (⟨"LinkHouseModel", "ownField", "(IJJ)I"⟩, 180) := ⟨⟨by decide +kernel, by decide +kernel⟩, List.mem_of_getElem? (i := 2502) (by decide +kernel), List.mem_of_getElem? (i := 2944) (by decide +kernel), List.mem_of_getElem? (i := 2945) (by decide +kernel)⟩
theorem lw_p264 : lw_okq (⟨"LinkHouseModel", "isLetMember", "(III)Z"⟩, 180) := ⟨⟨by decide +kernel, by decide +kernel⟩, List.mem_of_getElem? (i := 2502) (by decide +kernel), List.mem_of_getElem? (i := 2948) (by decide +kernel), List.mem_of_getElem? (i := 2949) (by decide +kernel)⟩
theorem lw_p265 : lw_okq (⟨"LinkHouseModel", "nestsAreOne", "(II)Z"⟩, 180) := ⟨⟨by decide +kernel, by decide +kernel⟩, List.mem_of_getElem? (i := 2502) (by decide +kernel), List.mem_of_getElem? (i := 2952) (by decide +kernel), List.mem_of_getElem? (i := 2953) (by decide +kernel)⟩
theorem lw_p266 : lw_okq (⟨"LinkHouseModel", "nest", "(I)I"⟩, 180) := ⟨⟨by decide +kernel, by decide +kernel⟩, List.mem_of_getElem? (i := 2502) (by decide +kernel), List.mem_of_getElem? (i := 2956) (by decide +kernel), List.mem_of_getElem? (i := 2957) (by decide +kernel)⟩
theorem lw_p267 : lw_okq (⟨"LinkHouseModel", "load", "(I)I"⟩, 180) := ⟨⟨by decide +kernel, by decide +kernel⟩, List.mem_of_getElem? (i := 2502) (by decide +kernel), List.mem_of_getElem? (i := 2960) (by decide +kernel), List.mem_of_getElem? (i := 2961) (by decide +kernel)⟩
theorem lw_p268 : lw_okq (⟨"LinkHouseModel", "stateOf", "(I)I"⟩, 180) := ⟨⟨by decide +kernel, by decide +kernel⟩, List.mem_of_getElem? (i := 2502) (by decide +kernel), List.mem_of_getElem? (i := 2964) (by decide +kernel), List.mem_of_getElem? (i := 2965) (by decide +kernel)⟩
theorem lw_p269 : lw_okq (⟨"LinkHouseModel", "becomes", "(III)V"⟩, 180) := ⟨⟨by decide +kernel, by decide +kernel⟩, List.mem_of_getElem? (i := 2502) (by decide +kernel), List.mem_of_getElem? (i := 2968) (by decide +kernel), List.mem_of_getElem? (i := 2969) (by decide +kernel)⟩
theorem lw_p270 : lw_okq (⟨"LinkHouseModel", "event", "(II)V"⟩, 180) := ⟨⟨by decide +kernel, by decide +kernel⟩, List.mem_of_getElem? (i := 2502) (by decide +kernel), List.mem_of_getElem? (i := 2972) (by decide +kernel), List.mem_of_getElem? (i := 2973) (by decide +kernel)⟩
theorem lw_p271 : lw_okq (⟨"LinkHouseModel", "loadAbove", "(I)I"⟩, 180) := ⟨⟨by decide +kernel, by decide +kernel⟩, List.mem_of_getElem? (i := 2502) (by decide +kernel), List.mem_of_getElem? (i := 2976) (by decide +kernel), List.mem_of_getElem? (i := 2977) (by decide +kernel)⟩
def lw_privs_17 : List (MethodName × Nat) := [(⟨"LinkHouseModel", "ownMethod", "(II)I"⟩, 180), (⟨"LinkHouseModel", "overrides", "(II)Z"⟩, 180), (⟨"LinkHouseModel", "mostSpecial", "(II)I"⟩, 180), (⟨"LinkHouseModel", "constants", "()V"⟩, 180), (⟨"LinkHouseModel", "folded", "(II)J"⟩, 180), (⟨"LinkHouseModel", "knownConstant", "(II)J"⟩, 180), (⟨"LinkHouseModel", "theField", "(IJJ)I"⟩, 180), (⟨"LinkHouseModel", "ownField", "(IJJ)I"⟩, 180), (⟨"LinkHouseModel", "isLetMember", "(III)Z"⟩, 180), (⟨"LinkHouseModel", "nestsAreOne", "(II)Z"⟩, 180), (⟨"LinkHouseModel", "nest", "(I)I"⟩, 180), (⟨"LinkHouseModel", "load", "(I)I"⟩, 180), (⟨"LinkHouseModel", "stateOf", "(I)I"⟩, 180), (⟨"LinkHouseModel", "becomes", "(III)V"⟩, 180), (⟨"LinkHouseModel", "event", "(II)V"⟩, 180), (⟨"LinkHouseModel", "loadAbove", "(I)I"⟩, 180)]
theorem lw_r17 : ∀ q ∈ lw_privs_17, lw_okq q := List.forall_mem_cons.mpr ⟨lw_p256, List.forall_mem_cons.mpr ⟨lw_p257, List.forall_mem_cons.mpr ⟨lw_p258, List.forall_mem_cons.mpr ⟨lw_p259, List.forall_mem_cons.mpr ⟨lw_p260, List.forall_mem_cons.mpr ⟨lw_p261, List.forall_mem_cons.mpr ⟨lw_p262, List.forall_mem_cons.mpr ⟨lw_p263, List.forall_mem_cons.mpr ⟨lw_p264, List.forall_mem_cons.mpr ⟨lw_p265, List.forall_mem_cons.mpr ⟨lw_p266, List.forall_mem_cons.mpr ⟨lw_p267, List.forall_mem_cons.mpr ⟨lw_p268, List.forall_mem_cons.mpr ⟨lw_p269, List.forall_mem_cons.mpr ⟨lw_p270, List.forall_mem_cons.mpr ⟨lw_p271, fun _ h => absurd h List.not_mem_nil⟩⟩⟩⟩⟩⟩⟩⟩⟩⟩⟩⟩⟩⟩⟩⟩
theorem lw_p272 : lw_okq (⟨"LinkHouseModel", "bodies", "()V"⟩, 180) := ⟨⟨by decide +kernel, by decide +kernel⟩, List.mem_of_getElem? (i := 2502) (by decide +kernel), List.mem_of_getElem? (i := 2983) (by decide +kernel), List.mem_of_getElem? (i := 2984) (by decide +kernel)⟩
theorem lw_p273 : lw_okq (⟨"LinkHouseModel", "bodyOf", "(II)V"⟩, 180) := ⟨⟨by decide +kernel, by decide +kernel⟩, List.mem_of_getElem? (i := 2502) (by decide +kernel), List.mem_of_getElem? (i := 2987) (by decide +kernel), List.mem_of_getElem? (i := 2988) (by decide +kernel)⟩
theorem lw_p274 : lw_okq (⟨"LinkHouseModel", "judge", "(I)J"⟩, 180) := ⟨⟨by decide +kernel, by decide +kernel⟩, List.mem_of_getElem? (i := 2502) (by decide +kernel), List.mem_of_getElem? (i := 2991) (by decide +kernel), List.mem_of_getElem? (i := 2992) (by decide +kernel)⟩
theorem lw_p275 : lw_okq (⟨"LinkHouseModel", "leaf", "(I)J"⟩, 180) := ⟨⟨by decide +kernel, by decide +kernel⟩, List.mem_of_getElem? (i := 2502) (by decide +kernel), List.mem_of_getElem? (i := 2995) (by decide +kernel), List.mem_of_getElem? (i := 2996) (by decide +kernel)⟩
theorem lw_p276 : lw_okq (⟨"LinkHouseModel", "nameAlone", "(I)J"⟩, 180) := ⟨⟨by decide +kernel, by decide +kernel⟩, List.mem_of_getElem? (i := 2502) (by decide +kernel), List.mem_of_getElem? (i := 2999) (by decide +kernel), List.mem_of_getElem? (i := 3000) (by decide +kernel)⟩
theorem lw_p277 : lw_okq (⟨"LinkHouseModel", "field", "(IIJZ)J"⟩, 180) := ⟨⟨by decide +kernel, by decide +kernel⟩, List.mem_of_getElem? (i := 2502) (by decide +kernel), List.mem_of_getElem? (i := 3003) (by decide +kernel), List.mem_of_getElem? (i := 3004) (by decide +kernel)⟩
theorem lw_p278 : lw_okq (⟨"LinkHouseModel", "args", "(I)V"⟩, 180) := ⟨⟨by decide +kernel, by decide +kernel⟩, List.mem_of_getElem? (i := 2502) (by decide +kernel), List.mem_of_getElem? (i := 3007) (by decide +kernel), List.mem_of_getElem? (i := 3008) (by decide +kernel)⟩
theorem lw_p279 : lw_okq (⟨"LinkHouseModel", "call", "(IIJZ)J"⟩, 180) := ⟨⟨by decide +kernel, by decide +kernel⟩, List.mem_of_getElem? (i := 2502) (by decide +kernel), List.mem_of_getElem? (i := 3011) (by decide +kernel), List.mem_of_getElem? (i := 3012) (by decide +kernel)⟩
theorem lw_p280 : lw_okq (⟨"LinkHouseModel", "meant", "(IJI)I"⟩, 180) := ⟨⟨by decide +kernel, by decide +kernel⟩, List.mem_of_getElem? (i := 2502) (by decide +kernel), List.mem_of_getElem? (i := 3015) (by decide +kernel), List.mem_of_getElem? (i := 3016) (by decide +kernel)⟩
theorem lw_p281 : lw_okq (⟨"LinkHouseModel", "candidatesIn", "(IIJI)V"⟩, 180) := ⟨⟨by decide +kernel, by decide +kernel⟩, List.mem_of_getElem? (i := 2502) (by decide +kernel), List.mem_of_getElem? (i := 3019) (by decide +kernel), List.mem_of_getElem? (i := 3020) (by decide +kernel)⟩
theorem lw_p282 : lw_okq (⟨"LinkHouseModel", "takesArgs", "(II)Z"⟩, 180) := ⟨⟨by decide +kernel, by decide +kernel⟩, List.mem_of_getElem? (i := 2502) (by decide +kernel), List.mem_of_getElem? (i := 3023) (by decide +kernel), List.mem_of_getElem? (i := 3024) (by decide +kernel)⟩
theorem lw_p283 : lw_okq (⟨"LinkHouseModel", "best", "()I"⟩, 180) := ⟨⟨by decide +kernel, by decide +kernel⟩, List.mem_of_getElem? (i := 2502) (by decide +kernel), List.mem_of_getElem? (i := 3027) (by decide +kernel), List.mem_of_getElem? (i := 3028) (by decide +kernel)⟩
theorem lw_p284 : lw_okq (⟨"LinkHouseModel", "means", "(IIJ)J"⟩, 180) := ⟨⟨by decide +kernel, by decide +kernel⟩, List.mem_of_getElem? (i := 2502) (by decide +kernel), List.mem_of_getElem? (i := 3031) (by decide +kernel), List.mem_of_getElem? (i := 3032) (by decide +kernel)⟩
theorem lw_p285 : lw_okq (⟨"LinkHouseModel", "keepParams", "(II)V"⟩, 180) := ⟨⟨by decide +kernel, by decide +kernel⟩, List.mem_of_getElem? (i := 2502) (by decide +kernel), List.mem_of_getElem? (i := 3035) (by decide +kernel), List.mem_of_getElem? (i := 3036) (by decide +kernel)⟩
theorem lw_p286 : lw_okq (⟨"LinkHouseModel", "leafOfMore", "(I)J"⟩, 180) := ⟨⟨by decide +kernel, by decide +kernel⟩, List.mem_of_getElem? (i := 2502) (by decide +kernel), List.mem_of_getElem? (i := 3039) (by decide +kernel), List.mem_of_getElem? (i := 3040) (by decide +kernel)⟩
theorem lw_p287 : lw_okq (⟨"LinkHouseModel", "superCall", "(III)J"⟩, 180) := ⟨⟨by decide +kernel, by decide +kernel⟩, List.mem_of_getElem? (i := 2502) (by decide +kernel), List.mem_of_getElem? (i := 3043) (by decide +kernel), List.mem_of_getElem? (i := 3044) (by decide +kernel)⟩
def lw_privs_18 : List (MethodName × Nat) := [(⟨"LinkHouseModel", "bodies", "()V"⟩, 180), (⟨"LinkHouseModel", "bodyOf", "(II)V"⟩, 180), (⟨"LinkHouseModel", "judge", "(I)J"⟩, 180), (⟨"LinkHouseModel", "leaf", "(I)J"⟩, 180), (⟨"LinkHouseModel", "nameAlone", "(I)J"⟩, 180), (⟨"LinkHouseModel", "field", "(IIJZ)J"⟩, 180), (⟨"LinkHouseModel", "args", "(I)V"⟩, 180), (⟨"LinkHouseModel", "call", "(IIJZ)J"⟩, 180), (⟨"LinkHouseModel", "meant", "(IJI)I"⟩, 180), (⟨"LinkHouseModel", "candidatesIn", "(IIJI)V"⟩, 180), (⟨"LinkHouseModel", "takesArgs", "(II)Z"⟩, 180), (⟨"LinkHouseModel", "best", "()I"⟩, 180), (⟨"LinkHouseModel", "means", "(IIJ)J"⟩, 180), (⟨"LinkHouseModel", "keepParams", "(II)V"⟩, 180), (⟨"LinkHouseModel", "leafOfMore", "(I)J"⟩, 180), (⟨"LinkHouseModel", "superCall", "(III)J"⟩, 180)]
theorem lw_r18 : ∀ q ∈ lw_privs_18, lw_okq q := List.forall_mem_cons.mpr ⟨lw_p272, List.forall_mem_cons.mpr ⟨lw_p273, List.forall_mem_cons.mpr ⟨lw_p274, List.forall_mem_cons.mpr ⟨lw_p275, List.forall_mem_cons.mpr ⟨lw_p276, List.forall_mem_cons.mpr ⟨lw_p277, List.forall_mem_cons.mpr ⟨lw_p278, List.forall_mem_cons.mpr ⟨lw_p279, List.forall_mem_cons.mpr ⟨lw_p280, List.forall_mem_cons.mpr ⟨lw_p281, List.forall_mem_cons.mpr ⟨lw_p282, List.forall_mem_cons.mpr ⟨lw_p283, List.forall_mem_cons.mpr ⟨lw_p284, List.forall_mem_cons.mpr ⟨lw_p285, List.forall_mem_cons.mpr ⟨lw_p286, List.forall_mem_cons.mpr ⟨lw_p287, fun _ h => absurd h List.not_mem_nil⟩⟩⟩⟩⟩⟩⟩⟩⟩⟩⟩⟩⟩⟩⟩⟩
theorem lw_p288 : lw_okq (⟨"LinkHouseModel", "meantMaker", "(II)I"⟩, 180) := ⟨⟨by decide +kernel, by decide +kernel⟩, List.mem_of_getElem? (i := 2502) (by decide +kernel), List.mem_of_getElem? (i := 3047) (by decide +kernel), List.mem_of_getElem? (i := 3048) (by decide +kernel)⟩
theorem lw_p289 : lw_okq (⟨"LinkHouseModel", "overLeft", "(IIJ)J"⟩, 180) := ⟨⟨by decide +kernel, by decide +kernel⟩, List.mem_of_getElem? (i := 2502) (by decide +kernel), List.mem_of_getElem? (i := 3054) (by decide +kernel), List.mem_of_getElem? (i := 3055) (by decide +kernel)⟩
theorem lw_p290 : lw_okq (⟨"LinkHouseModel", "dot", "(IIJ)J"⟩, 180) := ⟨⟨by decide +kernel, by decide +kernel⟩, List.mem_of_getElem? (i := 2502) (by decide +kernel), List.mem_of_getElem? (i := 3058) (by decide +kernel), List.mem_of_getElem? (i := 3059) (by decide +kernel)⟩
theorem lw_p291 : lw_okq (⟨"LinkHouseModel", "two", "(IIJ)J"⟩, 180) := ⟨⟨by decide +kernel, by decide +kernel⟩, List.mem_of_getElem? (i := 2502) (by decide +kernel), List.mem_of_getElem? (i := 3062) (by decide +kernel), List.mem_of_getElem? (i := 3063) (by decide +kernel)⟩
theorem lw_p292 : lw_okq (⟨"LinkHouseModel", "wanted", "(IJJ)V"⟩, 180) := ⟨⟨by decide +kernel, by decide +kernel⟩, List.mem_of_getElem? (i := 2502) (by decide +kernel), List.mem_of_getElem? (i := 3066) (by decide +kernel), List.mem_of_getElem? (i := 3067) (by decide +kernel)⟩
theorem lw_p293 : lw_okq (⟨"LinkHouseModel", "local", "(JJI)V"⟩, 180) := ⟨⟨by decide +kernel, by decide +kernel⟩, List.mem_of_getElem? (i := 2502) (by decide +kernel), List.mem_of_getElem? (i := 3070) (by decide +kernel), List.mem_of_getElem? (i := 3071) (by decide +kernel)⟩
theorem lw_p294 : lw_okq (⟨"LinkHouseModel", "beginsBySuper", "(I)Z"⟩, 180) := ⟨⟨by decide +kernel, by decide +kernel⟩, List.mem_of_getElem? (i := 2502) (by decide +kernel), List.mem_of_getElem? (i := 3074) (by decide +kernel), List.mem_of_getElem? (i := 3075) (by decide +kernel)⟩
theorem lw_p295 : lw_okq (⟨"LinkHouseModel", "judgeS", "(I)V"⟩, 180) := ⟨⟨by decide +kernel, by decide +kernel⟩, List.mem_of_getElem? (i := 2502) (by decide +kernel), List.mem_of_getElem? (i := 3078) (by decide +kernel), List.mem_of_getElem? (i := 3079) (by decide +kernel)⟩
theorem lw_p296 : lw_okq (⟨"LinkHouseModel", "judgeOther", "(I)V"⟩, 180) := ⟨⟨by decide +kernel, by decide +kernel⟩, List.mem_of_getElem? (i := 2502) (by decide +kernel), List.mem_of_getElem? (i := 3082) (by decide +kernel), List.mem_of_getElem? (i := 3083) (by decide +kernel)⟩
theorem lw_p297 : lw_okq (⟨"LinkHouseModel", "judgeReturn", "(I)V"⟩, 180) := ⟨⟨by decide +kernel, by decide +kernel⟩, List.mem_of_getElem? (i := 2502) (by decide +kernel), List.mem_of_getElem? (i := 3086) (by decide +kernel), List.mem_of_getElem? (i := 3087) (by decide +kernel)⟩
theorem lw_p298 : lw_okq (⟨"LinkHouseModel", "judgePut", "(I)V"⟩, 180) := ⟨⟨by decide +kernel, by decide +kernel⟩, List.mem_of_getElem? (i := 2502) (by decide +kernel), List.mem_of_getElem? (i := 3090) (by decide +kernel), List.mem_of_getElem? (i := 3091) (by decide +kernel)⟩
theorem lw_p299 : lw_okq (⟨"LinkHouseModel", "canEnd", "(I)Z"⟩, 180) := ⟨⟨by decide +kernel, by decide +kernel⟩, List.mem_of_getElem? (i := 2502) (by decide +kernel), List.mem_of_getElem? (i := 3094) (by decide +kernel), List.mem_of_getElem? (i := 3095) (by decide +kernel)⟩
theorem lw_p300 : lw_okq (⟨"LinkHouseModel", "usesOfAll", "()V"⟩, 180) := ⟨⟨by decide +kernel, by decide +kernel⟩, List.mem_of_getElem? (i := 2502) (by decide +kernel), List.mem_of_getElem? (i := 3098) (by decide +kernel), List.mem_of_getElem? (i := 3099) (by decide +kernel)⟩
theorem lw_p301 : lw_okq (⟨"LinkHouseModel", "usesOf", "(I)V"⟩, 180) := ⟨⟨by decide +kernel, by decide +kernel⟩, List.mem_of_getElem? (i := 2502) (by decide +kernel), List.mem_of_getElem? (i := 3102) (by decide +kernel), List.mem_of_getElem? (i := 3103) (by decide +kernel)⟩
theorem lw_p302 : lw_okq (⟨"LinkHouseModel", "useFor", "(IJJJ)I"⟩, 180) := ⟨⟨by decide +kernel, by decide +kernel⟩, List.mem_of_getElem? (i := 2502) (by decide +kernel), List.mem_of_getElem? (i := 3106) (by decide +kernel), List.mem_of_getElem? (i := 3107) (by decide +kernel)⟩
theorem lw_p303 : lw_okq (⟨"LinkHouseModel", "nextUse", "(IJJJ)I"⟩, 180) := ⟨⟨by decide +kernel, by decide +kernel⟩, List.mem_of_getElem? (i := 2502) (by decide +kernel), List.mem_of_getElem? (i := 3110) (by decide +kernel), List.mem_of_getElem? (i := 3111) (by decide +kernel)⟩
def lw_privs_19 : List (MethodName × Nat) := [(⟨"LinkHouseModel", "meantMaker", "(II)I"⟩, 180), (⟨"LinkHouseModel", "overLeft", "(IIJ)J"⟩, 180), (⟨"LinkHouseModel", "dot", "(IIJ)J"⟩, 180), (⟨"LinkHouseModel", "two", "(IIJ)J"⟩, 180), (⟨"LinkHouseModel", "wanted", "(IJJ)V"⟩, 180), (⟨"LinkHouseModel", "local", "(JJI)V"⟩, 180), (⟨"LinkHouseModel", "beginsBySuper", "(I)Z"⟩, 180), (⟨"LinkHouseModel", "judgeS", "(I)V"⟩, 180), (⟨"LinkHouseModel", "judgeOther", "(I)V"⟩, 180), (⟨"LinkHouseModel", "judgeReturn", "(I)V"⟩, 180), (⟨"LinkHouseModel", "judgePut", "(I)V"⟩, 180), (⟨"LinkHouseModel", "canEnd", "(I)Z"⟩, 180), (⟨"LinkHouseModel", "usesOfAll", "()V"⟩, 180), (⟨"LinkHouseModel", "usesOf", "(I)V"⟩, 180), (⟨"LinkHouseModel", "useFor", "(IJJJ)I"⟩, 180), (⟨"LinkHouseModel", "nextUse", "(IJJJ)I"⟩, 180)]
theorem lw_r19 : ∀ q ∈ lw_privs_19, lw_okq q := List.forall_mem_cons.mpr ⟨lw_p288, List.forall_mem_cons.mpr ⟨lw_p289, List.forall_mem_cons.mpr ⟨lw_p290, List.forall_mem_cons.mpr ⟨lw_p291, List.forall_mem_cons.mpr ⟨lw_p292, List.forall_mem_cons.mpr ⟨lw_p293, List.forall_mem_cons.mpr ⟨lw_p294, List.forall_mem_cons.mpr ⟨lw_p295, List.forall_mem_cons.mpr ⟨lw_p296, List.forall_mem_cons.mpr ⟨lw_p297, List.forall_mem_cons.mpr ⟨lw_p298, List.forall_mem_cons.mpr ⟨lw_p299, List.forall_mem_cons.mpr ⟨lw_p300, List.forall_mem_cons.mpr ⟨lw_p301, List.forall_mem_cons.mpr ⟨lw_p302, List.forall_mem_cons.mpr ⟨lw_p303, fun _ h => absurd h List.not_mem_nil⟩⟩⟩⟩⟩⟩⟩⟩⟩⟩⟩⟩⟩⟩⟩⟩
theorem lw_p304 : lw_okq (⟨"LinkHouseModel", "keepUse", "(I)I"⟩, 180) := ⟨⟨by decide +kernel, by decide +kernel⟩, List.mem_of_getElem? (i := 2502) (by decide +kernel), List.mem_of_getElem? (i := 3114) (by decide +kernel), List.mem_of_getElem? (i := 3115) (by decide +kernel)⟩
theorem lw_p305 : lw_okq (⟨"LinkHouseModel", "bridgeUse", "(II)I"⟩, 180) := ⟨⟨by decide +kernel, by decide +kernel⟩, List.mem_of_getElem? (i := 2502) (by decide +kernel), List.mem_of_getElem? (i := 3118) (by decide +kernel), List.mem_of_getElem? (i := 3119) (by decide +kernel)⟩
theorem lw_p306 : lw_okq (⟨"LinkHouseModel", "copies", "(I)V"⟩, 180) := ⟨⟨by decide +kernel, by decide +kernel⟩, List.mem_of_getElem? (i := 2502) (by decide +kernel), List.mem_of_getElem? (i := 3122) (by decide +kernel), List.mem_of_getElem? (i := 3123) (by decide +kernel)⟩
theorem lw_p307 : lw_okq (⟨"LinkHouseModel", "copyOf", "(I)I"⟩, 180) := ⟨⟨by decide +kernel, by decide +kernel⟩, List.mem_of_getElem? (i := 2502) (by decide +kernel), List.mem_of_getElem? (i := 3126) (by decide +kernel), List.mem_of_getElem? (i := 3127) (by decide +kernel)⟩
theorem lw_p308 : lw_okq (⟨"LinkHouseModel", "usesE", "(I)V"⟩, 180) := ⟨⟨by decide +kernel, by decide +kernel⟩, List.mem_of_getElem? (i := 2502) (by decide +kernel), List.mem_of_getElem? (i := 3130) (by decide +kernel), List.mem_of_getElem? (i := 3131) (by decide +kernel)⟩
theorem lw_p309 : lw_okq (⟨"LinkHouseModel", "usesLeaf", "(I)V"⟩, 180) := ⟨⟨by decide +kernel, by decide +kernel⟩, List.mem_of_getElem? (i := 2502) (by decide +kernel), List.mem_of_getElem? (i := 3134) (by decide +kernel), List.mem_of_getElem? (i := 3135) (by decide +kernel)⟩
theorem lw_p310 : lw_okq (⟨"LinkHouseModel", "fieldUse", "(II)I"⟩, 180) := ⟨⟨by decide +kernel, by decide +kernel⟩, List.mem_of_getElem? (i := 2502) (by decide +kernel), List.mem_of_getElem? (i := 3138) (by decide +kernel), List.mem_of_getElem? (i := 3139) (by decide +kernel)⟩
theorem lw_p311 : lw_okq (⟨"LinkHouseModel", "usesArgs", "(II)V"⟩, 180) := ⟨⟨by decide +kernel, by decide +kernel⟩, List.mem_of_getElem? (i := 2502) (by decide +kernel), List.mem_of_getElem? (i := 3142) (by decide +kernel), List.mem_of_getElem? (i := 3143) (by decide +kernel)⟩
theorem lw_p312 : lw_okq (⟨"LinkHouseModel", "fit", "(IJ)V"⟩, 180) := ⟨⟨by decide +kernel, by decide +kernel⟩, List.mem_of_getElem? (i := 2502) (by decide +kernel), List.mem_of_getElem? (i := 3146) (by decide +kernel), List.mem_of_getElem? (i := 3147) (by decide +kernel)⟩
theorem lw_p313 : lw_okq (⟨"LinkHouseModel", "callUse", "(I)I"⟩, 180) := ⟨⟨by decide +kernel, by decide +kernel⟩, List.mem_of_getElem? (i := 2502) (by decide +kernel), List.mem_of_getElem? (i := 3150) (by decide +kernel), List.mem_of_getElem? (i := 3151) (by decide +kernel)⟩
theorem lw_p314 : lw_okq (⟨"LinkHouseModel", "useOf", "(IIJJJ)I"⟩, 180) := ⟨⟨by decide +kernel, by decide +kernel⟩, List.mem_of_getElem? (i := 2502) (by decide +kernel), List.mem_of_getElem? (i := 3154) (by decide +kernel), List.mem_of_getElem? (i := 3155) (by decide +kernel)⟩
theorem lw_p315 : lw_okq (⟨"LinkHouseModel", "usesS", "(I)V"⟩, 180) := ⟨⟨by decide +kernel, by decide +kernel⟩, List.mem_of_getElem? (i := 2502) (by decide +kernel), List.mem_of_getElem? (i := 3158) (by decide +kernel), List.mem_of_getElem? (i := 3159) (by decide +kernel)⟩
theorem lw_p316 : lw_okq (⟨"LinkHouseModel", "usesPut", "(I)V"⟩, 180) := ⟨⟨by decide +kernel, by decide +kernel⟩, List.mem_of_getElem? (i := 2502) (by decide +kernel), List.mem_of_getElem? (i := 3162) (by decide +kernel), List.mem_of_getElem? (i := 3163) (by decide +kernel)⟩
theorem lw_p317 : lw_okq (⟨"LinkHouseModel", "slotAt", "(II)I"⟩, 180) := ⟨⟨by decide +kernel, by decide +kernel⟩, List.mem_of_getElem? (i := 2502) (by decide +kernel), List.mem_of_getElem? (i := 3178) (by decide +kernel), List.mem_of_getElem? (i := 3179) (by decide +kernel)⟩
theorem lw_p318 : lw_okq (⟨"LinkHouseModel", "buildOf", "(I)I"⟩, 180) := ⟨⟨by decide +kernel, by decide +kernel⟩, List.mem_of_getElem? (i := 2502) (by decide +kernel), List.mem_of_getElem? (i := 3190) (by decide +kernel), List.mem_of_getElem? (i := 3191) (by decide +kernel)⟩
theorem lw_p319 : lw_okq (⟨"LinkHouseModel", "settle", "()V"⟩, 180) := ⟨⟨by decide +kernel, by decide +kernel⟩, List.mem_of_getElem? (i := 2502) (by decide +kernel), List.mem_of_getElem? (i := 3194) (by decide +kernel), List.mem_of_getElem? (i := 3195) (by decide +kernel)⟩
def lw_privs_20 : List (MethodName × Nat) := [(⟨"LinkHouseModel", "keepUse", "(I)I"⟩, 180), (⟨"LinkHouseModel", "bridgeUse", "(II)I"⟩, 180), (⟨"LinkHouseModel", "copies", "(I)V"⟩, 180), (⟨"LinkHouseModel", "copyOf", "(I)I"⟩, 180), (⟨"LinkHouseModel", "usesE", "(I)V"⟩, 180), (⟨"LinkHouseModel", "usesLeaf", "(I)V"⟩, 180), (⟨"LinkHouseModel", "fieldUse", "(II)I"⟩, 180), (⟨"LinkHouseModel", "usesArgs", "(II)V"⟩, 180), (⟨"LinkHouseModel", "fit", "(IJ)V"⟩, 180), (⟨"LinkHouseModel", "callUse", "(I)I"⟩, 180), (⟨"LinkHouseModel", "useOf", "(IIJJJ)I"⟩, 180), (⟨"LinkHouseModel", "usesS", "(I)V"⟩, 180), (⟨"LinkHouseModel", "usesPut", "(I)V"⟩, 180), (⟨"LinkHouseModel", "slotAt", "(II)I"⟩, 180), (⟨"LinkHouseModel", "buildOf", "(I)I"⟩, 180), (⟨"LinkHouseModel", "settle", "()V"⟩, 180)]
theorem lw_r20 : ∀ q ∈ lw_privs_20, lw_okq q := List.forall_mem_cons.mpr ⟨lw_p304, List.forall_mem_cons.mpr ⟨lw_p305, List.forall_mem_cons.mpr ⟨lw_p306, List.forall_mem_cons.mpr ⟨lw_p307, List.forall_mem_cons.mpr ⟨lw_p308, List.forall_mem_cons.mpr ⟨lw_p309, List.forall_mem_cons.mpr ⟨lw_p310, List.forall_mem_cons.mpr ⟨lw_p311, List.forall_mem_cons.mpr ⟨lw_p312, List.forall_mem_cons.mpr ⟨lw_p313, List.forall_mem_cons.mpr ⟨lw_p314, List.forall_mem_cons.mpr ⟨lw_p315, List.forall_mem_cons.mpr ⟨lw_p316, List.forall_mem_cons.mpr ⟨lw_p317, List.forall_mem_cons.mpr ⟨lw_p318, List.forall_mem_cons.mpr ⟨lw_p319, fun _ h => absurd h List.not_mem_nil⟩⟩⟩⟩⟩⟩⟩⟩⟩⟩⟩⟩⟩⟩⟩⟩
theorem lw_p320 : lw_okq (⟨"LinkHouseModel", "numberWorld", "()V"⟩, 180) := ⟨⟨by decide +kernel, by decide +kernel⟩, List.mem_of_getElem? (i := 2502) (by decide +kernel), List.mem_of_getElem? (i := 3198) (by decide +kernel), List.mem_of_getElem? (i := 3199) (by decide +kernel)⟩
theorem lw_p321 : lw_okq (⟨"LinkHouseModel", "intoWorld", "(I)V"⟩, 180) := ⟨⟨by decide +kernel, by decide +kernel⟩, List.mem_of_getElem? (i := 2502) (by decide +kernel), List.mem_of_getElem? (i := 3202) (by decide +kernel), List.mem_of_getElem? (i := 3203) (by decide +kernel)⟩
theorem lw_p322 : lw_okq (⟨"LinkHouseModel", "clearSet", "(I)V"⟩, 180) := ⟨⟨by decide +kernel, by decide +kernel⟩, List.mem_of_getElem? (i := 2502) (by decide +kernel), List.mem_of_getElem? (i := 3206) (by decide +kernel), List.mem_of_getElem? (i := 3207) (by decide +kernel)⟩
theorem lw_p323 : lw_okq (⟨"LinkHouseModel", "classAt", "(III)I"⟩, 180) := ⟨⟨by decide +kernel, by decide +kernel⟩, List.mem_of_getElem? (i := 2502) (by decide +kernel), List.mem_of_getElem? (i := 3219) (by decide +kernel), List.mem_of_getElem? (i := 3220) (by decide +kernel)⟩
theorem lw_p324 : lw_okq (⟨"LinkHouseModel", "memberMany", "(I)I"⟩, 180) := ⟨⟨by decide +kernel, by decide +kernel⟩, List.mem_of_getElem? (i := 2502) (by decide +kernel), List.mem_of_getElem? (i := 3223) (by decide +kernel), List.mem_of_getElem? (i := 3224) (by decide +kernel)⟩
theorem lw_p325 : lw_okq (⟨"LinkHouseModel", "memberAt", "(II)I"⟩, 180) := ⟨⟨by decide +kernel, by decide +kernel⟩, List.mem_of_getElem? (i := 2502) (by decide +kernel), List.mem_of_getElem? (i := 3231) (by decide +kernel), List.mem_of_getElem? (i := 3232) (by decide +kernel)⟩
theorem lw_p326 : lw_okq (⟨"LinkHouseModel", "outWord", "(Ljava/lang/String;)V"⟩, 180) := ⟨⟨by decide +kernel, by decide +kernel⟩, List.mem_of_getElem? (i := 2502) (by decide +kernel), List.mem_of_getElem? (i := 3237) (by decide +kernel), List.mem_of_getElem? (i := 3238) (by decide +kernel)⟩
theorem lw_p327 : lw_okq (⟨"LinkHouseModel", "outByte", "(I)V"⟩, 180) := ⟨⟨by decide +kernel, by decide +kernel⟩, List.mem_of_getElem? (i := 2502) (by decide +kernel), List.mem_of_getElem? (i := 3241) (by decide +kernel), List.mem_of_getElem? (i := 3242) (by decide +kernel)⟩
theorem lw_p328 : lw_okq (⟨"LinkHouseModel", "outName", "(J)V"⟩, 180) := ⟨⟨by decide +kernel, by decide +kernel⟩, List.mem_of_getElem? (i := 2502) (by decide +kernel), List.mem_of_getElem? (i := 3249) (by decide +kernel), List.mem_of_getElem? (i := 3250) (by decide +kernel)⟩
theorem lw_p329 : lw_okq (⟨"LinkHouseModel", "outList", "(Ljava/lang/String;[JII)V"⟩, 180) := ⟨⟨by decide +kernel, by decide +kernel⟩, List.mem_of_getElem? (i := 2502) (by decide +kernel), List.mem_of_getElem? (i := 3258) (by decide +kernel), List.mem_of_getElem? (i := 3259) (by decide +kernel)⟩
theorem lw_p330 : lw_okq (⟨"LinkHouseModel", "outType", "(J)V"⟩, 180) := ⟨⟨by decide +kernel, by decide +kernel⟩, List.mem_of_getElem? (i := 2502) (by decide +kernel), List.mem_of_getElem? (i := 3272) (by decide +kernel), List.mem_of_getElem? (i := 3273) (by decide +kernel)⟩
theorem lw_p331 : lw_okq (⟨"LinkHouseModel", "outParams", "(I)V"⟩, 180) := ⟨⟨by decide +kernel, by decide +kernel⟩, List.mem_of_getElem? (i := 2502) (by decide +kernel), List.mem_of_getElem? (i := 3276) (by decide +kernel), List.mem_of_getElem? (i := 3277) (by decide +kernel)⟩
theorem lw_p332 : lw_okq (⟨"LinkHouseModel", "outInt", "(J)V"⟩, 180) := ⟨⟨by decide +kernel, by decide +kernel⟩, List.mem_of_getElem? (i := 2502) (by decide +kernel), List.mem_of_getElem? (i := 3280) (by decide +kernel), List.mem_of_getElem? (i := 3281) (by decide +kernel)⟩
theorem lw_p333 : lw_okq (⟨"LinkHouseModel", "useAt", "(III)I"⟩, 180) := ⟨⟨by decide +kernel, by decide +kernel⟩, List.mem_of_getElem? (i := 2502) (by decide +kernel), List.mem_of_getElem? (i := 3293) (by decide +kernel), List.mem_of_getElem? (i := 3294) (by decide +kernel)⟩
theorem lw_p334 : lw_okq (⟨"LinkHouseModel", "outMember", "(II)V"⟩, 180) := ⟨⟨by decide +kernel, by decide +kernel⟩, List.mem_of_getElem? (i := 2502) (by decide +kernel), List.mem_of_getElem? (i := 3301) (by decide +kernel), List.mem_of_getElem? (i := 3302) (by decide +kernel)⟩
theorem lw_p335 : lw_okq (⟨"LinkHouseModel", "stands", "(I)Z"⟩, 180) := ⟨⟨by decide +kernel, by decide +kernel⟩, List.mem_of_getElem? (i := 2502) (by decide +kernel), List.mem_of_getElem? (i := 3309) (by decide +kernel), List.mem_of_getElem? (i := 3310) (by decide +kernel)⟩
def lw_privs_21 : List (MethodName × Nat) := [(⟨"LinkHouseModel", "numberWorld", "()V"⟩, 180), (⟨"LinkHouseModel", "intoWorld", "(I)V"⟩, 180), (⟨"LinkHouseModel", "clearSet", "(I)V"⟩, 180), (⟨"LinkHouseModel", "classAt", "(III)I"⟩, 180), (⟨"LinkHouseModel", "memberMany", "(I)I"⟩, 180), (⟨"LinkHouseModel", "memberAt", "(II)I"⟩, 180), (⟨"LinkHouseModel", "outWord", "(Ljava/lang/String;)V"⟩, 180), (⟨"LinkHouseModel", "outByte", "(I)V"⟩, 180), (⟨"LinkHouseModel", "outName", "(J)V"⟩, 180), (⟨"LinkHouseModel", "outList", "(Ljava/lang/String;[JII)V"⟩, 180), (⟨"LinkHouseModel", "outType", "(J)V"⟩, 180), (⟨"LinkHouseModel", "outParams", "(I)V"⟩, 180), (⟨"LinkHouseModel", "outInt", "(J)V"⟩, 180), (⟨"LinkHouseModel", "useAt", "(III)I"⟩, 180), (⟨"LinkHouseModel", "outMember", "(II)V"⟩, 180), (⟨"LinkHouseModel", "stands", "(I)Z"⟩, 180)]
theorem lw_r21 : ∀ q ∈ lw_privs_21, lw_okq q := List.forall_mem_cons.mpr ⟨lw_p320, List.forall_mem_cons.mpr ⟨lw_p321, List.forall_mem_cons.mpr ⟨lw_p322, List.forall_mem_cons.mpr ⟨lw_p323, List.forall_mem_cons.mpr ⟨lw_p324, List.forall_mem_cons.mpr ⟨lw_p325, List.forall_mem_cons.mpr ⟨lw_p326, List.forall_mem_cons.mpr ⟨lw_p327, List.forall_mem_cons.mpr ⟨lw_p328, List.forall_mem_cons.mpr ⟨lw_p329, List.forall_mem_cons.mpr ⟨lw_p330, List.forall_mem_cons.mpr ⟨lw_p331, List.forall_mem_cons.mpr ⟨lw_p332, List.forall_mem_cons.mpr ⟨lw_p333, List.forall_mem_cons.mpr ⟨lw_p334, List.forall_mem_cons.mpr ⟨lw_p335, fun _ h => absurd h List.not_mem_nil⟩⟩⟩⟩⟩⟩⟩⟩⟩⟩⟩⟩⟩⟩⟩⟩
theorem lw_p336 : lw_okq (⟨"LinkHouseModel", "foretell", "(I)I"⟩, 180) := ⟨⟨by decide +kernel, by decide +kernel⟩, List.mem_of_getElem? (i := 2502) (by decide +kernel), List.mem_of_getElem? (i := 3313) (by decide +kernel), List.mem_of_getElem? (i := 3314) (by decide +kernel)⟩
theorem lw_p337 : lw_okq (⟨"LinkHouseModel", "ask", "(IZ)I"⟩, 180) := ⟨⟨by decide +kernel, by decide +kernel⟩, List.mem_of_getElem? (i := 2502) (by decide +kernel), List.mem_of_getElem? (i := 3317) (by decide +kernel), List.mem_of_getElem? (i := 3318) (by decide +kernel)⟩
theorem lw_p338 : lw_okq (⟨"LinkHouseModel", "isStale", "(I)Z"⟩, 180) := ⟨⟨by decide +kernel, by decide +kernel⟩, List.mem_of_getElem? (i := 2502) (by decide +kernel), List.mem_of_getElem? (i := 3321) (by decide +kernel), List.mem_of_getElem? (i := 3322) (by decide +kernel)⟩
theorem lw_p339 : lw_okq (⟨"LinkHouseModel", "askFit", "(I)I"⟩, 180) := ⟨⟨by decide +kernel, by decide +kernel⟩, List.mem_of_getElem? (i := 2502) (by decide +kernel), List.mem_of_getElem? (i := 3325) (by decide +kernel), List.mem_of_getElem? (i := 3326) (by decide +kernel)⟩
theorem lw_p340 : lw_okq (⟨"LinkHouseModel", "askClass", "(IZ)I"⟩, 180) := ⟨⟨by decide +kernel, by decide +kernel⟩, List.mem_of_getElem? (i := 2502) (by decide +kernel), List.mem_of_getElem? (i := 3329) (by decide +kernel), List.mem_of_getElem? (i := 3330) (by decide +kernel)⟩
theorem lw_p341 : lw_okq (⟨"LinkHouseModel", "askMaker", "(II)I"⟩, 180) := ⟨⟨by decide +kernel, by decide +kernel⟩, List.mem_of_getElem? (i := 2502) (by decide +kernel), List.mem_of_getElem? (i := 3333) (by decide +kernel), List.mem_of_getElem? (i := 3334) (by decide +kernel)⟩
theorem lw_p342 : lw_okq (⟨"LinkHouseModel", "see", "(I)V"⟩, 180) := ⟨⟨by decide +kernel, by decide +kernel⟩, List.mem_of_getElem? (i := 2502) (by decide +kernel), List.mem_of_getElem? (i := 3337) (by decide +kernel), List.mem_of_getElem? (i := 3338) (by decide +kernel)⟩
theorem lw_p343 : lw_okq (⟨"LinkHouseModel", "askField", "(III)I"⟩, 180) := ⟨⟨by decide +kernel, by decide +kernel⟩, List.mem_of_getElem? (i := 2502) (by decide +kernel), List.mem_of_getElem? (i := 3341) (by decide +kernel), List.mem_of_getElem? (i := 3342) (by decide +kernel)⟩
theorem lw_p344 : lw_okq (⟨"LinkHouseModel", "askMethod", "(III)I"⟩, 180) := ⟨⟨by decide +kernel, by decide +kernel⟩, List.mem_of_getElem? (i := 2502) (by decide +kernel), List.mem_of_getElem? (i := 3345) (by decide +kernel), List.mem_of_getElem? (i := 3346) (by decide +kernel)⟩
theorem lw_p345 : lw_okq (⟨"LinkHouseModel", "methodOf", "(I)I"⟩, 180) := ⟨⟨by decide +kernel, by decide +kernel⟩, List.mem_of_getElem? (i := 2502) (by decide +kernel), List.mem_of_getElem? (i := 3349) (by decide +kernel), List.mem_of_getElem? (i := 3350) (by decide +kernel)⟩
theorem lw_p346 : lw_okq (⟨"LinkHouseModel", "askSuper", "(I)I"⟩, 180) := ⟨⟨by decide +kernel, by decide +kernel⟩, List.mem_of_getElem? (i := 2502) (by decide +kernel), List.mem_of_getElem? (i := 3353) (by decide +kernel), List.mem_of_getElem? (i := 3354) (by decide +kernel)⟩
theorem lw_p347 : lw_okq (⟨"LinkHouseModel", "askCalled", "(II)I"⟩, 180) := ⟨⟨by decide +kernel, by decide +kernel⟩, List.mem_of_getElem? (i := 2502) (by decide +kernel), List.mem_of_getElem? (i := 3357) (by decide +kernel), List.mem_of_getElem? (i := 3358) (by decide +kernel)⟩
theorem lw_p348 : lw_okq (⟨"LinkHouseModel", "askFaceSuper", "(I)I"⟩, 180) := ⟨⟨by decide +kernel, by decide +kernel⟩, List.mem_of_getElem? (i := 2502) (by decide +kernel), List.mem_of_getElem? (i := 3361) (by decide +kernel), List.mem_of_getElem? (i := 3362) (by decide +kernel)⟩
theorem lw_p349 : lw_okq (⟨"LinkHouseModel", "isBroken", "()Z"⟩, 180) := ⟨⟨by decide +kernel, by decide +kernel⟩, List.mem_of_getElem? (i := 2502) (by decide +kernel), List.mem_of_getElem? (i := 3389) (by decide +kernel), List.mem_of_getElem? (i := 3390) (by decide +kernel)⟩
theorem lw_p350 : lw_okq (⟨"LinkHouseModel", "named", "()I"⟩, 180) := ⟨⟨by decide +kernel, by decide +kernel⟩, List.mem_of_getElem? (i := 2502) (by decide +kernel), List.mem_of_getElem? (i := 3405) (by decide +kernel), List.mem_of_getElem? (i := 3406) (by decide +kernel)⟩
theorem lw_p351 : lw_okq (⟨"LinkHouseModel", "start", "(I)V"⟩, 180) := ⟨⟨by decide +kernel, by decide +kernel⟩, List.mem_of_getElem? (i := 2502) (by decide +kernel), List.mem_of_getElem? (i := 3409) (by decide +kernel), List.mem_of_getElem? (i := 3410) (by decide +kernel)⟩
def lw_privs_22 : List (MethodName × Nat) := [(⟨"LinkHouseModel", "foretell", "(I)I"⟩, 180), (⟨"LinkHouseModel", "ask", "(IZ)I"⟩, 180), (⟨"LinkHouseModel", "isStale", "(I)Z"⟩, 180), (⟨"LinkHouseModel", "askFit", "(I)I"⟩, 180), (⟨"LinkHouseModel", "askClass", "(IZ)I"⟩, 180), (⟨"LinkHouseModel", "askMaker", "(II)I"⟩, 180), (⟨"LinkHouseModel", "see", "(I)V"⟩, 180), (⟨"LinkHouseModel", "askField", "(III)I"⟩, 180), (⟨"LinkHouseModel", "askMethod", "(III)I"⟩, 180), (⟨"LinkHouseModel", "methodOf", "(I)I"⟩, 180), (⟨"LinkHouseModel", "askSuper", "(I)I"⟩, 180), (⟨"LinkHouseModel", "askCalled", "(II)I"⟩, 180), (⟨"LinkHouseModel", "askFaceSuper", "(I)I"⟩, 180), (⟨"LinkHouseModel", "isBroken", "()Z"⟩, 180), (⟨"LinkHouseModel", "named", "()I"⟩, 180), (⟨"LinkHouseModel", "start", "(I)V"⟩, 180)]
theorem lw_r22 : ∀ q ∈ lw_privs_22, lw_okq q := List.forall_mem_cons.mpr ⟨lw_p336, List.forall_mem_cons.mpr ⟨lw_p337, List.forall_mem_cons.mpr ⟨lw_p338, List.forall_mem_cons.mpr ⟨lw_p339, List.forall_mem_cons.mpr ⟨lw_p340, List.forall_mem_cons.mpr ⟨lw_p341, List.forall_mem_cons.mpr ⟨lw_p342, List.forall_mem_cons.mpr ⟨lw_p343, List.forall_mem_cons.mpr ⟨lw_p344, List.forall_mem_cons.mpr ⟨lw_p345, List.forall_mem_cons.mpr ⟨lw_p346, List.forall_mem_cons.mpr ⟨lw_p347, List.forall_mem_cons.mpr ⟨lw_p348, List.forall_mem_cons.mpr ⟨lw_p349, List.forall_mem_cons.mpr ⟨lw_p350, List.forall_mem_cons.mpr ⟨lw_p351, fun _ h => absurd h List.not_mem_nil⟩⟩⟩⟩⟩⟩⟩⟩⟩⟩⟩⟩⟩⟩⟩⟩
theorem lw_p352 : lw_okq (⟨"LinkHouseModel", "fail", "(I)I"⟩, 180) := ⟨⟨by decide +kernel, by decide +kernel⟩, List.mem_of_getElem? (i := 2502) (by decide +kernel), List.mem_of_getElem? (i := 3413) (by decide +kernel), List.mem_of_getElem? (i := 3414) (by decide +kernel)⟩
theorem lw_p353 : lw_okq (⟨"LinkHouseModel", "link", "(I)I"⟩, 180) := ⟨⟨by decide +kernel, by decide +kernel⟩, List.mem_of_getElem? (i := 2502) (by decide +kernel), List.mem_of_getElem? (i := 3417) (by decide +kernel), List.mem_of_getElem? (i := 3418) (by decide +kernel)⟩
theorem lw_p354 : lw_okq (⟨"LinkHouseModel", "linkWith", "(I)I"⟩, 180) := ⟨⟨by decide +kernel, by decide +kernel⟩, List.mem_of_getElem? (i := 2502) (by decide +kernel), List.mem_of_getElem? (i := 3421) (by decide +kernel), List.mem_of_getElem? (i := 3422) (by decide +kernel)⟩
theorem lw_p355 : lw_okq (⟨"LinkHouseModel", "overridesFinal", "(I)Z"⟩, 180) := ⟨⟨by decide +kernel, by decide +kernel⟩, List.mem_of_getElem? (i := 2502) (by decide +kernel), List.mem_of_getElem? (i := 3425) (by decide +kernel), List.mem_of_getElem? (i := 3426) (by decide +kernel)⟩
theorem lw_p356 : lw_okq (⟨"LinkHouseModel", "startFaces", "(I)V"⟩, 180) := ⟨⟨by decide +kernel, by decide +kernel⟩, List.mem_of_getElem? (i := 2502) (by decide +kernel), List.mem_of_getElem? (i := 3429) (by decide +kernel), List.mem_of_getElem? (i := 3430) (by decide +kernel)⟩
theorem lw_p357 : lw_okq (⟨"LinkHouseModel", "pushFaces", "(I)V"⟩, 180) := ⟨⟨by decide +kernel, by decide +kernel⟩, List.mem_of_getElem? (i := 2502) (by decide +kernel), List.mem_of_getElem? (i := 3433) (by decide +kernel), List.mem_of_getElem? (i := 3434) (by decide +kernel)⟩
theorem lw_p358 : lw_okq (⟨"LinkHouseModel", "hasBody", "(I)Z"⟩, 180) := ⟨⟨by decide +kernel, by decide +kernel⟩, List.mem_of_getElem? (i := 2502) (by decide +kernel), List.mem_of_getElem? (i := 3437) (by decide +kernel), List.mem_of_getElem? (i := 3438) (by decide +kernel)⟩
theorem lw_p359 : lw_okq (⟨"LinkHouseModel", "startSelf", "(I)V"⟩, 180) := ⟨⟨by decide +kernel, by decide +kernel⟩, List.mem_of_getElem? (i := 2502) (by decide +kernel), List.mem_of_getElem? (i := 3441) (by decide +kernel), List.mem_of_getElem? (i := 3442) (by decide +kernel)⟩
theorem lw_p360 : lw_okq (⟨"LinkHouseModel", "eval", "(IIII)I"⟩, 180) := ⟨⟨by decide +kernel, by decide +kernel⟩, List.mem_of_getElem? (i := 2502) (by decide +kernel), List.mem_of_getElem? (i := 3445) (by decide +kernel), List.mem_of_getElem? (i := 3446) (by decide +kernel)⟩
theorem lw_p361 : lw_okq (⟨"LinkHouseModel", "push", "(I)V"⟩, 180) := ⟨⟨by decide +kernel, by decide +kernel⟩, List.mem_of_getElem? (i := 2502) (by decide +kernel), List.mem_of_getElem? (i := 3449) (by decide +kernel), List.mem_of_getElem? (i := 3450) (by decide +kernel)⟩
theorem lw_p362 : lw_okq (⟨"LinkHouseModel", "evalNode", "(IIIIII)I"⟩, 180) := ⟨⟨by decide +kernel, by decide +kernel⟩, List.mem_of_getElem? (i := 2502) (by decide +kernel), List.mem_of_getElem? (i := 3453) (by decide +kernel), List.mem_of_getElem? (i := 3454) (by decide +kernel)⟩
theorem lw_p363 : lw_okq (⟨"LinkHouseModel", "getStatic", "(I)I"⟩, 180) := ⟨⟨by decide +kernel, by decide +kernel⟩, List.mem_of_getElem? (i := 2502) (by decide +kernel), List.mem_of_getElem? (i := 3457) (by decide +kernel), List.mem_of_getElem? (i := 3458) (by decide +kernel)⟩
theorem lw_p364 : lw_okq (⟨"LinkHouseModel", "asks", "(I)Z"⟩, 180) := ⟨⟨by decide +kernel, by decide +kernel⟩, List.mem_of_getElem? (i := 2502) (by decide +kernel), List.mem_of_getElem? (i := 3461) (by decide +kernel), List.mem_of_getElem? (i := 3462) (by decide +kernel)⟩
theorem lw_p365 : lw_okq (⟨"LinkHouseModel", "getOf", "(II)I"⟩, 180) := ⟨⟨by decide +kernel, by decide +kernel⟩, List.mem_of_getElem? (i := 2502) (by decide +kernel), List.mem_of_getElem? (i := 3465) (by decide +kernel), List.mem_of_getElem? (i := 3466) (by decide +kernel)⟩
theorem lw_p366 : lw_okq (⟨"LinkHouseModel", "cellOf", "(II)I"⟩, 180) := ⟨⟨by decide +kernel, by decide +kernel⟩, List.mem_of_getElem? (i := 2502) (by decide +kernel), List.mem_of_getElem? (i := 3469) (by decide +kernel), List.mem_of_getElem? (i := 3470) (by decide +kernel)⟩
theorem lw_p367 : lw_okq (⟨"LinkHouseModel", "fieldsOf", "(I)I"⟩, 180) := ⟨⟨by decide +kernel, by decide +kernel⟩, List.mem_of_getElem? (i := 2502) (by decide +kernel), List.mem_of_getElem? (i := 3473) (by decide +kernel), List.mem_of_getElem? (i := 3474) (by decide +kernel)⟩
def lw_privs_23 : List (MethodName × Nat) := [(⟨"LinkHouseModel", "fail", "(I)I"⟩, 180), (⟨"LinkHouseModel", "link", "(I)I"⟩, 180), (⟨"LinkHouseModel", "linkWith", "(I)I"⟩, 180), (⟨"LinkHouseModel", "overridesFinal", "(I)Z"⟩, 180), (⟨"LinkHouseModel", "startFaces", "(I)V"⟩, 180), (⟨"LinkHouseModel", "pushFaces", "(I)V"⟩, 180), (⟨"LinkHouseModel", "hasBody", "(I)Z"⟩, 180), (⟨"LinkHouseModel", "startSelf", "(I)V"⟩, 180), (⟨"LinkHouseModel", "eval", "(IIII)I"⟩, 180), (⟨"LinkHouseModel", "push", "(I)V"⟩, 180), (⟨"LinkHouseModel", "evalNode", "(IIIIII)I"⟩, 180), (⟨"LinkHouseModel", "getStatic", "(I)I"⟩, 180), (⟨"LinkHouseModel", "asks", "(I)Z"⟩, 180), (⟨"LinkHouseModel", "getOf", "(II)I"⟩, 180), (⟨"LinkHouseModel", "cellOf", "(II)I"⟩, 180), (⟨"LinkHouseModel", "fieldsOf", "(I)I"⟩, 180)]
theorem lw_r23 : ∀ q ∈ lw_privs_23, lw_okq q := List.forall_mem_cons.mpr ⟨lw_p352, List.forall_mem_cons.mpr ⟨lw_p353, List.forall_mem_cons.mpr ⟨lw_p354, List.forall_mem_cons.mpr ⟨lw_p355, List.forall_mem_cons.mpr ⟨lw_p356, List.forall_mem_cons.mpr ⟨lw_p357, List.forall_mem_cons.mpr ⟨lw_p358, List.forall_mem_cons.mpr ⟨lw_p359, List.forall_mem_cons.mpr ⟨lw_p360, List.forall_mem_cons.mpr ⟨lw_p361, List.forall_mem_cons.mpr ⟨lw_p362, List.forall_mem_cons.mpr ⟨lw_p363, List.forall_mem_cons.mpr ⟨lw_p364, List.forall_mem_cons.mpr ⟨lw_p365, List.forall_mem_cons.mpr ⟨lw_p366, List.forall_mem_cons.mpr ⟨lw_p367, fun _ h => absurd h List.not_mem_nil⟩⟩⟩⟩⟩⟩⟩⟩⟩⟩⟩⟩⟩⟩⟩⟩
theorem lw_p368 : lw_okq (⟨"LinkHouseModel", "asked", "(II)I"⟩, 180) := ⟨⟨by decide +kernel, by decide +kernel⟩, List.mem_of_getElem? (i := 2502) (by decide +kernel), List.mem_of_getElem? (i := 3477) (by decide +kernel), List.mem_of_getElem? (i := 3478) (by decide +kernel)⟩
theorem lw_p369 : lw_okq (⟨"LinkHouseModel", "isMade", "(II)Z"⟩, 180) := ⟨⟨by decide +kernel, by decide +kernel⟩, List.mem_of_getElem? (i := 2502) (by decide +kernel), List.mem_of_getElem? (i := 3481) (by decide +kernel), List.mem_of_getElem? (i := 3482) (by decide +kernel)⟩
theorem lw_p370 : lw_okq (⟨"LinkHouseModel", "cast", "(II)I"⟩, 180) := ⟨⟨by decide +kernel, by decide +kernel⟩, List.mem_of_getElem? (i := 2502) (by decide +kernel), List.mem_of_getElem? (i := 3485) (by decide +kernel), List.mem_of_getElem? (i := 3486) (by decide +kernel)⟩
theorem lw_p371 : lw_okq (⟨"LinkHouseModel", "beginArgs", "(II)V"⟩, 180) := ⟨⟨by decide +kernel, by decide +kernel⟩, List.mem_of_getElem? (i := 2502) (by decide +kernel), List.mem_of_getElem? (i := 3489) (by decide +kernel), List.mem_of_getElem? (i := 3490) (by decide +kernel)⟩
theorem lw_p372 : lw_okq (⟨"LinkHouseModel", "evalCall", "(IIII)I"⟩, 180) := ⟨⟨by decide +kernel, by decide +kernel⟩, List.mem_of_getElem? (i := 2502) (by decide +kernel), List.mem_of_getElem? (i := 3493) (by decide +kernel), List.mem_of_getElem? (i := 3494) (by decide +kernel)⟩
theorem lw_p373 : lw_okq (⟨"LinkHouseModel", "invoke", "(III)I"⟩, 180) := ⟨⟨by decide +kernel, by decide +kernel⟩, List.mem_of_getElem? (i := 2502) (by decide +kernel), List.mem_of_getElem? (i := 3497) (by decide +kernel), List.mem_of_getElem? (i := 3498) (by decide +kernel)⟩
theorem lw_p374 : lw_okq (⟨"LinkHouseModel", "steps", "()Z"⟩, 180) := ⟨⟨by decide +kernel, by decide +kernel⟩, List.mem_of_getElem? (i := 2502) (by decide +kernel), List.mem_of_getElem? (i := 3501) (by decide +kernel), List.mem_of_getElem? (i := 3502) (by decide +kernel)⟩
theorem lw_p375 : lw_okq (⟨"LinkHouseModel", "alongBridge", "(III)I"⟩, 180) := ⟨⟨by decide +kernel, by decide +kernel⟩, List.mem_of_getElem? (i := 2502) (by decide +kernel), List.mem_of_getElem? (i := 3505) (by decide +kernel), List.mem_of_getElem? (i := 3506) (by decide +kernel)⟩
theorem lw_p376 : lw_okq (⟨"LinkHouseModel", "callBy", "(III)I"⟩, 180) := ⟨⟨by decide +kernel, by decide +kernel⟩, List.mem_of_getElem? (i := 2502) (by decide +kernel), List.mem_of_getElem? (i := 3509) (by decide +kernel), List.mem_of_getElem? (i := 3510) (by decide +kernel)⟩
theorem lw_p377 : lw_okq (⟨"LinkHouseModel", "runMaker", "(III)V"⟩, 180) := ⟨⟨by decide +kernel, by decide +kernel⟩, List.mem_of_getElem? (i := 2502) (by decide +kernel), List.mem_of_getElem? (i := 3513) (by decide +kernel), List.mem_of_getElem? (i := 3514) (by decide +kernel)⟩
theorem lw_p378 : lw_okq (⟨"LinkHouseModel", "exec", "(IIII)V"⟩, 180) := ⟨⟨by decide +kernel, by decide +kernel⟩, List.mem_of_getElem? (i := 2502) (by decide +kernel), List.mem_of_getElem? (i := 3517) (by decide +kernel), List.mem_of_getElem? (i := 3518) (by decide +kernel)⟩
theorem lw_p379 : lw_okq (⟨"LinkHouseModel", "caught", "(IIII)V"⟩, 180) := ⟨⟨by decide +kernel, by decide +kernel⟩, List.mem_of_getElem? (i := 2502) (by decide +kernel), List.mem_of_getElem? (i := 3521) (by decide +kernel), List.mem_of_getElem? (i := 3522) (by decide +kernel)⟩
theorem lw_p380 : lw_okq (⟨"LinkHouseModel", "execOther", "(IIII)V"⟩, 180) := ⟨⟨by decide +kernel, by decide +kernel⟩, List.mem_of_getElem? (i := 2502) (by decide +kernel), List.mem_of_getElem? (i := 3525) (by decide +kernel), List.mem_of_getElem? (i := 3526) (by decide +kernel)⟩
theorem lw_p381 : lw_okq (⟨"LinkHouseModel", "evalArgs", "(IIII)I"⟩, 180) := ⟨⟨by decide +kernel, by decide +kernel⟩, List.mem_of_getElem? (i := 2502) (by decide +kernel), List.mem_of_getElem? (i := 3529) (by decide +kernel), List.mem_of_getElem? (i := 3530) (by decide +kernel)⟩
theorem lw_p382 : lw_okq (⟨"LinkHouseModel", "execPut", "(IIII)V"⟩, 180) := ⟨⟨by decide +kernel, by decide +kernel⟩, List.mem_of_getElem? (i := 2502) (by decide +kernel), List.mem_of_getElem? (i := 3533) (by decide +kernel), List.mem_of_getElem? (i := 3534) (by decide +kernel)⟩
theorem lw_p383 : lw_okq (⟨"LinkHouseModel", "evalNew", "(II)I"⟩, 180) := ⟨⟨by decide +kernel, by decide +kernel⟩, List.mem_of_getElem? (i := 2502) (by decide +kernel), List.mem_of_getElem? (i := 3537) (by decide +kernel), List.mem_of_getElem? (i := 3538) (by decide +kernel)⟩
def lw_privs_24 : List (MethodName × Nat) := [(⟨"LinkHouseModel", "asked", "(II)I"⟩, 180), (⟨"LinkHouseModel", "isMade", "(II)Z"⟩, 180), (⟨"LinkHouseModel", "cast", "(II)I"⟩, 180), (⟨"LinkHouseModel", "beginArgs", "(II)V"⟩, 180), (⟨"LinkHouseModel", "evalCall", "(IIII)I"⟩, 180), (⟨"LinkHouseModel", "invoke", "(III)I"⟩, 180), (⟨"LinkHouseModel", "steps", "()Z"⟩, 180), (⟨"LinkHouseModel", "alongBridge", "(III)I"⟩, 180), (⟨"LinkHouseModel", "callBy", "(III)I"⟩, 180), (⟨"LinkHouseModel", "runMaker", "(III)V"⟩, 180), (⟨"LinkHouseModel", "exec", "(IIII)V"⟩, 180), (⟨"LinkHouseModel", "caught", "(IIII)V"⟩, 180), (⟨"LinkHouseModel", "execOther", "(IIII)V"⟩, 180), (⟨"LinkHouseModel", "evalArgs", "(IIII)I"⟩, 180), (⟨"LinkHouseModel", "execPut", "(IIII)V"⟩, 180), (⟨"LinkHouseModel", "evalNew", "(II)I"⟩, 180)]
theorem lw_r24 : ∀ q ∈ lw_privs_24, lw_okq q := List.forall_mem_cons.mpr ⟨lw_p368, List.forall_mem_cons.mpr ⟨lw_p369, List.forall_mem_cons.mpr ⟨lw_p370, List.forall_mem_cons.mpr ⟨lw_p371, List.forall_mem_cons.mpr ⟨lw_p372, List.forall_mem_cons.mpr ⟨lw_p373, List.forall_mem_cons.mpr ⟨lw_p374, List.forall_mem_cons.mpr ⟨lw_p375, List.forall_mem_cons.mpr ⟨lw_p376, List.forall_mem_cons.mpr ⟨lw_p377, List.forall_mem_cons.mpr ⟨lw_p378, List.forall_mem_cons.mpr ⟨lw_p379, List.forall_mem_cons.mpr ⟨lw_p380, List.forall_mem_cons.mpr ⟨lw_p381, List.forall_mem_cons.mpr ⟨lw_p382, List.forall_mem_cons.mpr ⟨lw_p383, fun _ h => absurd h List.not_mem_nil⟩⟩⟩⟩⟩⟩⟩⟩⟩⟩⟩⟩⟩⟩⟩⟩
theorem lw_p384 : lw_okq (⟨"LinkHouseModel", "newObject", "(I)I"⟩, 180) := ⟨⟨by decide +kernel, by decide +kernel⟩, List.mem_of_getElem? (i := 2502) (by decide +kernel), List.mem_of_getElem? (i := 3541) (by decide +kernel), List.mem_of_getElem? (i := 3542) (by decide +kernel)⟩
theorem lw_p385 : lw_okq (⟨"LinkHouseModel", "evalTwo", "(III)I"⟩, 180) := ⟨⟨by decide +kernel, by decide +kernel⟩, List.mem_of_getElem? (i := 2502) (by decide +kernel), List.mem_of_getElem? (i := 3545) (by decide +kernel), List.mem_of_getElem? (i := 3546) (by decide +kernel)⟩
theorem lw_p386 : lw_okq (⟨"LinkHouseModel", "compare", "(II)V"⟩, 180) := ⟨⟨by decide +kernel, by decide +kernel⟩, List.mem_of_getElem? (i := 2502) (by decide +kernel), List.mem_of_getElem? (i := 3585) (by decide +kernel), List.mem_of_getElem? (i := 3586) (by decide +kernel)⟩
theorem lw_p387 : lw_okq (⟨"LinkHouseModel", "differs", "(IIIII)V"⟩, 180) := ⟨⟨by decide +kernel, by decide +kernel⟩, List.mem_of_getElem? (i := 2502) (by decide +kernel), List.mem_of_getElem? (i := 3589) (by decide +kernel), List.mem_of_getElem? (i := 3590) (by decide +kernel)⟩
theorem lw_p388 : lw_okq (⟨"LinkHouseModel", "toldPlace", "(I)I"⟩, 180) := ⟨⟨by decide +kernel, by decide +kernel⟩, List.mem_of_getElem? (i := 2502) (by decide +kernel), List.mem_of_getElem? (i := 3593) (by decide +kernel), List.mem_of_getElem? (i := 3594) (by decide +kernel)⟩
theorem lw_p389 : lw_okq (⟨"LinkHouseModel", "compareHeads", "(II)V"⟩, 180) := ⟨⟨by decide +kernel, by decide +kernel⟩, List.mem_of_getElem? (i := 2502) (by decide +kernel), List.mem_of_getElem? (i := 3597) (by decide +kernel), List.mem_of_getElem? (i := 3598) (by decide +kernel)⟩
theorem lw_p390 : lw_okq (⟨"LinkHouseModel", "either", "(IZZII)V"⟩, 180) := ⟨⟨by decide +kernel, by decide +kernel⟩, List.mem_of_getElem? (i := 2502) (by decide +kernel), List.mem_of_getElem? (i := 3601) (by decide +kernel), List.mem_of_getElem? (i := 3602) (by decide +kernel)⟩
theorem lw_p391 : lw_okq (⟨"LinkHouseModel", "compareFields", "(II)V"⟩, 180) := ⟨⟨by decide +kernel, by decide +kernel⟩, List.mem_of_getElem? (i := 2502) (by decide +kernel), List.mem_of_getElem? (i := 3605) (by decide +kernel), List.mem_of_getElem? (i := 3606) (by decide +kernel)⟩
theorem lw_p392 : lw_okq (⟨"LinkHouseModel", "eitherOf", "(IZZII)V"⟩, 180) := ⟨⟨by decide +kernel, by decide +kernel⟩, List.mem_of_getElem? (i := 2502) (by decide +kernel), List.mem_of_getElem? (i := 3609) (by decide +kernel), List.mem_of_getElem? (i := 3610) (by decide +kernel)⟩
theorem lw_p393 : lw_okq (⟨"LinkHouseModel", "accessOf", "(III)V"⟩, 180) := ⟨⟨by decide +kernel, by decide +kernel⟩, List.mem_of_getElem? (i := 2502) (by decide +kernel), List.mem_of_getElem? (i := 3613) (by decide +kernel), List.mem_of_getElem? (i := 3614) (by decide +kernel)⟩
theorem lw_p394 : lw_okq (⟨"LinkHouseModel", "compareMethods", "(II)V"⟩, 180) := ⟨⟨by decide +kernel, by decide +kernel⟩, List.mem_of_getElem? (i := 2502) (by decide +kernel), List.mem_of_getElem? (i := 3617) (by decide +kernel), List.mem_of_getElem? (i := 3618) (by decide +kernel)⟩
theorem lw_p395 : lw_okq (⟨"LinkHouseModel", "alike", "(II)I"⟩, 180) := ⟨⟨by decide +kernel, by decide +kernel⟩, List.mem_of_getElem? (i := 2502) (by decide +kernel), List.mem_of_getElem? (i := 3621) (by decide +kernel), List.mem_of_getElem? (i := 3622) (by decide +kernel)⟩
theorem lw_p396 : lw_okq (⟨"LinkHouseModel", "sameTokens", "(II)Z"⟩, 180) := ⟨⟨by decide +kernel, by decide +kernel⟩, List.mem_of_getElem? (i := 2502) (by decide +kernel), List.mem_of_getElem? (i := 3625) (by decide +kernel), List.mem_of_getElem? (i := 3626) (by decide +kernel)⟩
theorem lw_p397 : lw_okq (⟨"LinkHouseModel", "sameToken", "(II)Z"⟩, 180) := ⟨⟨by decide +kernel, by decide +kernel⟩, List.mem_of_getElem? (i := 2502) (by decide +kernel), List.mem_of_getElem? (i := 3629) (by decide +kernel), List.mem_of_getElem? (i := 3630) (by decide +kernel)⟩
theorem lw_p398 : lw_okq (⟨"LinkHouseModel", "compareMakers", "(II)V"⟩, 180) := ⟨⟨by decide +kernel, by decide +kernel⟩, List.mem_of_getElem? (i := 2502) (by decide +kernel), List.mem_of_getElem? (i := 3633) (by decide +kernel), List.mem_of_getElem? (i := 3634) (by decide +kernel)⟩
theorem lw_p399 : lw_okq (⟨"LinkHouseModel", "sameRest", "(II)Z"⟩, 180) := ⟨⟨by decide +kernel, by decide +kernel⟩, List.mem_of_getElem? (i := 2502) (by decide +kernel), List.mem_of_getElem? (i := 3637) (by decide +kernel), List.mem_of_getElem? (i := 3638) (by decide +kernel)⟩
def lw_privs_25 : List (MethodName × Nat) := [(⟨"LinkHouseModel", "newObject", "(I)I"⟩, 180), (⟨"LinkHouseModel", "evalTwo", "(III)I"⟩, 180), (⟨"LinkHouseModel", "compare", "(II)V"⟩, 180), (⟨"LinkHouseModel", "differs", "(IIIII)V"⟩, 180), (⟨"LinkHouseModel", "toldPlace", "(I)I"⟩, 180), (⟨"LinkHouseModel", "compareHeads", "(II)V"⟩, 180), (⟨"LinkHouseModel", "either", "(IZZII)V"⟩, 180), (⟨"LinkHouseModel", "compareFields", "(II)V"⟩, 180), (⟨"LinkHouseModel", "eitherOf", "(IZZII)V"⟩, 180), (⟨"LinkHouseModel", "accessOf", "(III)V"⟩, 180), (⟨"LinkHouseModel", "compareMethods", "(II)V"⟩, 180), (⟨"LinkHouseModel", "alike", "(II)I"⟩, 180), (⟨"LinkHouseModel", "sameTokens", "(II)Z"⟩, 180), (⟨"LinkHouseModel", "sameToken", "(II)Z"⟩, 180), (⟨"LinkHouseModel", "compareMakers", "(II)V"⟩, 180), (⟨"LinkHouseModel", "sameRest", "(II)Z"⟩, 180)]
theorem lw_r25 : ∀ q ∈ lw_privs_25, lw_okq q := List.forall_mem_cons.mpr ⟨lw_p384, List.forall_mem_cons.mpr ⟨lw_p385, List.forall_mem_cons.mpr ⟨lw_p386, List.forall_mem_cons.mpr ⟨lw_p387, List.forall_mem_cons.mpr ⟨lw_p388, List.forall_mem_cons.mpr ⟨lw_p389, List.forall_mem_cons.mpr ⟨lw_p390, List.forall_mem_cons.mpr ⟨lw_p391, List.forall_mem_cons.mpr ⟨lw_p392, List.forall_mem_cons.mpr ⟨lw_p393, List.forall_mem_cons.mpr ⟨lw_p394, List.forall_mem_cons.mpr ⟨lw_p395, List.forall_mem_cons.mpr ⟨lw_p396, List.forall_mem_cons.mpr ⟨lw_p397, List.forall_mem_cons.mpr ⟨lw_p398, List.forall_mem_cons.mpr ⟨lw_p399, fun _ h => absurd h List.not_mem_nil⟩⟩⟩⟩⟩⟩⟩⟩⟩⟩⟩⟩⟩⟩⟩⟩
theorem lw_p400 : lw_okq (⟨"LinkHouseModel", "rest", "(I[I)I"⟩, 180) := ⟨⟨by decide +kernel, by decide +kernel⟩, List.mem_of_getElem? (i := 2502) (by decide +kernel), List.mem_of_getElem? (i := 3641) (by decide +kernel), List.mem_of_getElem? (i := 3642) (by decide +kernel)⟩
theorem lw_p401 : lw_okq (⟨"LinkHouseModel", "isRest", "(I)Z"⟩, 180) := ⟨⟨by decide +kernel, by decide +kernel⟩, List.mem_of_getElem? (i := 2502) (by decide +kernel), List.mem_of_getElem? (i := 3645) (by decide +kernel), List.mem_of_getElem? (i := 3646) (by decide +kernel)⟩
theorem lw_p402 : lw_okq (⟨"LinkHouseModel", "heal", "(III)I"⟩, 180) := ⟨⟨by decide +kernel, by decide +kernel⟩, List.mem_of_getElem? (i := 2502) (by decide +kernel), List.mem_of_getElem? (i := 3667) (by decide +kernel), List.mem_of_getElem? (i := 3668) (by decide +kernel)⟩
theorem lw_p403 : lw_okq (⟨"LinkHouseModel", "bridgesOf", "(I)I"⟩, 180) := ⟨⟨by decide +kernel, by decide +kernel⟩, List.mem_of_getElem? (i := 2502) (by decide +kernel), List.mem_of_getElem? (i := 3671) (by decide +kernel), List.mem_of_getElem? (i := 3672) (by decide +kernel)⟩
theorem lw_p404 : lw_okq (⟨"LinkHouseModel", "copyBuild", "(II)V"⟩, 180) := ⟨⟨by decide +kernel, by decide +kernel⟩, List.mem_of_getElem? (i := 2502) (by decide +kernel), List.mem_of_getElem? (i := 3675) (by decide +kernel), List.mem_of_getElem? (i := 3676) (by decide +kernel)⟩
theorem lw_p405 : lw_okq (⟨"LinkHouseModel", "copyClasses", "(II)V"⟩, 180) := ⟨⟨by decide +kernel, by decide +kernel⟩, List.mem_of_getElem? (i := 2502) (by decide +kernel), List.mem_of_getElem? (i := 3679) (by decide +kernel), List.mem_of_getElem? (i := 3680) (by decide +kernel)⟩
theorem lw_p406 : lw_okq (⟨"LinkHouseModel", "copyMembers", "(II)V"⟩, 180) := ⟨⟨by decide +kernel, by decide +kernel⟩, List.mem_of_getElem? (i := 2502) (by decide +kernel), List.mem_of_getElem? (i := 3683) (by decide +kernel), List.mem_of_getElem? (i := 3684) (by decide +kernel)⟩
theorem lw_p407 : lw_okq (⟨"LinkHouseModel", "copyNodes", "(II)V"⟩, 180) := ⟨⟨by decide +kernel, by decide +kernel⟩, List.mem_of_getElem? (i := 2502) (by decide +kernel), List.mem_of_getElem? (i := 3687) (by decide +kernel), List.mem_of_getElem? (i := 3688) (by decide +kernel)⟩
theorem lw_p408 : lw_okq (⟨"LinkHouseModel", "weaveUses", "(I)V"⟩, 180) := ⟨⟨by decide +kernel, by decide +kernel⟩, List.mem_of_getElem? (i := 2502) (by decide +kernel), List.mem_of_getElem? (i := 3691) (by decide +kernel), List.mem_of_getElem? (i := 3692) (by decide +kernel)⟩
theorem lw_p409 : lw_okq (⟨"LinkHouseModel", "copyUse", "(I)I"⟩, 180) := ⟨⟨by decide +kernel, by decide +kernel⟩, List.mem_of_getElem? (i := 2502) (by decide +kernel), List.mem_of_getElem? (i := 3695) (by decide +kernel), List.mem_of_getElem? (i := 3696) (by decide +kernel)⟩
theorem lw_p410 : lw_okq (⟨"LinkHouseModel", "wordTable", "()V"⟩, 180) := ⟨⟨by decide +kernel, by decide +kernel⟩, List.mem_of_getElem? (i := 2502) (by decide +kernel), List.mem_of_getElem? (i := 3706) (by decide +kernel), List.mem_of_getElem? (i := 3707) (by decide +kernel)⟩
theorem lw_p411 : lw_okq (⟨"LinkHouseModel", "given", "()V"⟩, 180) := ⟨⟨by decide +kernel, by decide +kernel⟩, List.mem_of_getElem? (i := 2502) (by decide +kernel), List.mem_of_getElem? (i := 3711) (by decide +kernel), List.mem_of_getElem? (i := 3712) (by decide +kernel)⟩
def lw_privs_26 : List (MethodName × Nat) := [(⟨"LinkHouseModel", "rest", "(I[I)I"⟩, 180), (⟨"LinkHouseModel", "isRest", "(I)Z"⟩, 180), (⟨"LinkHouseModel", "heal", "(III)I"⟩, 180), (⟨"LinkHouseModel", "bridgesOf", "(I)I"⟩, 180), (⟨"LinkHouseModel", "copyBuild", "(II)V"⟩, 180), (⟨"LinkHouseModel", "copyClasses", "(II)V"⟩, 180), (⟨"LinkHouseModel", "copyMembers", "(II)V"⟩, 180), (⟨"LinkHouseModel", "copyNodes", "(II)V"⟩, 180), (⟨"LinkHouseModel", "weaveUses", "(I)V"⟩, 180), (⟨"LinkHouseModel", "copyUse", "(I)I"⟩, 180), (⟨"LinkHouseModel", "wordTable", "()V"⟩, 180), (⟨"LinkHouseModel", "given", "()V"⟩, 180)]
theorem lw_r26 : ∀ q ∈ lw_privs_26, lw_okq q := List.forall_mem_cons.mpr ⟨lw_p400, List.forall_mem_cons.mpr ⟨lw_p401, List.forall_mem_cons.mpr ⟨lw_p402, List.forall_mem_cons.mpr ⟨lw_p403, List.forall_mem_cons.mpr ⟨lw_p404, List.forall_mem_cons.mpr ⟨lw_p405, List.forall_mem_cons.mpr ⟨lw_p406, List.forall_mem_cons.mpr ⟨lw_p407, List.forall_mem_cons.mpr ⟨lw_p408, List.forall_mem_cons.mpr ⟨lw_p409, List.forall_mem_cons.mpr ⟨lw_p410, List.forall_mem_cons.mpr ⟨lw_p411, fun _ h => absurd h List.not_mem_nil⟩⟩⟩⟩⟩⟩⟩⟩⟩⟩⟩⟩
def lw_privs : List (MethodName × Nat) := lw_privs_1 ++ (lw_privs_2 ++ (lw_privs_3 ++ (lw_privs_4 ++ (lw_privs_5 ++ (lw_privs_6 ++ (lw_privs_7 ++ (lw_privs_8 ++ (lw_privs_9 ++ (lw_privs_10 ++ (lw_privs_11 ++ (lw_privs_12 ++ (lw_privs_13 ++ (lw_privs_14 ++ (lw_privs_15 ++ (lw_privs_16 ++ (lw_privs_17 ++ (lw_privs_18 ++ (lw_privs_19 ++ (lw_privs_20 ++ (lw_privs_21 ++ (lw_privs_22 ++ (lw_privs_23 ++ (lw_privs_24 ++ (lw_privs_25 ++ (lw_privs_26)))))))))))))))))))))))))
def lw_tbl : List Cond := k2_sels lw_privs ++ tables_1
theorem lw_privs_ok : ∀ q ∈ lw_privs, lw_okq q := by
  show ∀ q ∈ lw_privs_1 ++ (lw_privs_2 ++ (lw_privs_3 ++ (lw_privs_4 ++ (lw_privs_5 ++ (lw_privs_6 ++ (lw_privs_7 ++ (lw_privs_8 ++ (lw_privs_9 ++ (lw_privs_10 ++ (lw_privs_11 ++ (lw_privs_12 ++ (lw_privs_13 ++ (lw_privs_14 ++ (lw_privs_15 ++ (lw_privs_16 ++ (lw_privs_17 ++ (lw_privs_18 ++ (lw_privs_19 ++ (lw_privs_20 ++ (lw_privs_21 ++ (lw_privs_22 ++ (lw_privs_23 ++ (lw_privs_24 ++ (lw_privs_25 ++ (lw_privs_26))))))))))))))))))))))))), lw_okq q
  exact List.forall_mem_append.mpr ⟨lw_r1, List.forall_mem_append.mpr ⟨lw_r2, List.forall_mem_append.mpr ⟨lw_r3, List.forall_mem_append.mpr ⟨lw_r4, List.forall_mem_append.mpr ⟨lw_r5, List.forall_mem_append.mpr ⟨lw_r6, List.forall_mem_append.mpr ⟨lw_r7, List.forall_mem_append.mpr ⟨lw_r8, List.forall_mem_append.mpr ⟨lw_r9, List.forall_mem_append.mpr ⟨lw_r10, List.forall_mem_append.mpr ⟨lw_r11, List.forall_mem_append.mpr ⟨lw_r12, List.forall_mem_append.mpr ⟨lw_r13, List.forall_mem_append.mpr ⟨lw_r14, List.forall_mem_append.mpr ⟨lw_r15, List.forall_mem_append.mpr ⟨lw_r16, List.forall_mem_append.mpr ⟨lw_r17, List.forall_mem_append.mpr ⟨lw_r18, List.forall_mem_append.mpr ⟨lw_r19, List.forall_mem_append.mpr ⟨lw_r20, List.forall_mem_append.mpr ⟨lw_r21, List.forall_mem_append.mpr ⟨lw_r22, List.forall_mem_append.mpr ⟨lw_r23, List.forall_mem_append.mpr ⟨lw_r24, List.forall_mem_append.mpr ⟨lw_r25, lw_r26⟩⟩⟩⟩⟩⟩⟩⟩⟩⟩⟩⟩⟩⟩⟩⟩⟩⟩⟩⟩⟩⟩⟩⟩⟩
end
section
-- REFLECTION: a small machine over codes, whose runs the kernel computes; each of its steps is one step of the JVM's (proved below, once for all states)
-- codes of values: 8n int, 8n+1 long, 8k+2 the k-th cell of ours, 3 null, 8k+4 the k-th value from outside, 7 nothing
noncomputable def rx_f {α : Type} (n : Nat) (k : Nat → α) : α := Nat.rec (k 0) (fun m _ => k (Nat.succ m)) n
theorem rx_f_eq {α : Type} (n : Nat) (k : Nat → α) : rx_f n k = k n := by cases n <;> rfl
def rx_ei (x : Int32) : Nat := 8 * x.toBitVec.toNat
def rx_di (c : Nat) : Int32 := Int32.ofNat (c / 8)
def rx_el (x : Int64) : Nat := 8 * x.toBitVec.toNat + 1
def rx_dl (c : Nat) : Int64 := Int64.ofNat (c / 8)
noncomputable def rx_get {α : Type} (d : α) (l : List α) (i : Nat) : α := List.rec (motive := fun _ => Nat → α) (fun _ => d) (fun a _ ih i => Nat.rec (motive := fun _ => α) a (fun j _ => ih j) i) l i
noncomputable def rx_set {α β : Type} (l : List α) (i : Nat) (x : α) (k : List α → Option β) : Option β :=
  List.rec (motive := fun _ => Nat → (List α → Option β) → Option β) (fun _ _ => none) (fun a t ih i k => Nat.rec (motive := fun _ => Option β) (k (x :: t)) (fun j _ => ih j (fun t' => k (a :: t'))) i) l i k
noncomputable def rx_lk (d : Nat) (us : List (Nat × Nat)) (j : Nat) : Nat := List.rec (motive := fun _ => Nat) d (fun q _ ih => bif Nat.beq q.1 j then q.2 else ih) us
theorem rx_get_eq {α : Type} (d : α) (l : List α) (i : Nat) : rx_get d l i = l.getD i d := by
  induction l generalizing i with
  | nil => rfl
  | cons a t ih => cases i with
    | zero => rfl
    | succ j => exact ih j
theorem rx_set_some {α β : Type} {l : List α} {i : Nat} {x : α} {k : List α → Option β} {r : β} (h : rx_set l i x k = some r) : i < l.length ∧ k (l.set i x) = some r := by
  induction l generalizing i k with
  | nil => cases h
  | cons a t ih => cases i with
    | zero => exact ⟨by simp, h⟩
    | succ j =>
      obtain ⟨h1, h2⟩ := ih (i := j) (k := fun t' => k (a :: t')) h
      exact ⟨by simpa using h1, h2⟩
theorem rx_lk_cons (d : Nat) (us : List (Nat × Nat)) (j k v : Nat) : rx_lk d ((k, v) :: us) j = if j = k then v else rx_lk d us j := by
  show (bif Nat.beq k j then v else rx_lk d us j) = _
  by_cases h : j = k
  · subst h; simp
  · have h2 : Nat.beq k j = false := by
      rw [Bool.eq_false_iff]; intro q; exact h (Nat.eq_of_beq_eq_true q).symm
    rw [h2, if_neg h]; rfl
-- an entry: (0, class, number of fields, fields in rows of 16, _) or (1 + type, length, length, [[default]], changes)
abbrev rx_E : Type := Nat × Nat × Nat × List (List Nat) × List (Nat × Nat)
-- (how many cells, how many slots, what is known of the whole numbers from outside, the cells in rows of 8 of 8 of 8 of 8 of 8)
abbrev rx_H : Type := Nat × Nat × List (Int × Int) × List (List (List (List (List rx_E))))
abbrev rx_K : Type := List Nat → List Nat → rx_H → Option (Nat × rx_H)
def rx_e0 : rx_E := (0, 0, 0, [], [])
noncomputable def rx_fg (fs : List (List Nat)) (k : Nat) : Nat := rx_get 7 (rx_get [] fs (Nat.div k 16)) (Nat.mod k 16)
noncomputable def rx_fs {β : Type} (fs : List (List Nat)) (k v : Nat) (kk : List (List Nat) → Option β) : Option β := rx_set (rx_get [] fs (Nat.div k 16)) (Nat.mod k 16) v fun ch => rx_set fs (Nat.div k 16) ch kk
noncomputable def rx_g1 (l : List rx_E) (i : Nat) : rx_E := rx_get rx_e0 l i
noncomputable def rx_g2 (l : List (List rx_E)) (i : Nat) : rx_E := rx_g1 (rx_get [] l (Nat.div i 8)) (Nat.mod i 8)
noncomputable def rx_g3 (l : List (List (List rx_E))) (i : Nat) : rx_E := rx_g2 (rx_get [] l (Nat.div i 64)) (Nat.mod i 64)
noncomputable def rx_g4 (l : List (List (List (List rx_E)))) (i : Nat) : rx_E := rx_g3 (rx_get [] l (Nat.div i 512)) (Nat.mod i 512)
noncomputable def rx_g5 (l : List (List (List (List (List rx_E))))) (i : Nat) : rx_E := rx_g4 (rx_get [] l (Nat.div i 4096)) (Nat.mod i 4096)
noncomputable def rx_s1 {β : Type} (l : List rx_E) (i : Nat) (e : rx_E) (k : List rx_E → Option β) : Option β := rx_set l i e k
noncomputable def rx_s2 {β : Type} (l : List (List rx_E)) (i : Nat) (e : rx_E) (k : List (List rx_E) → Option β) : Option β := rx_s1 (rx_get [] l (Nat.div i 8)) (Nat.mod i 8) e fun x => rx_set l (Nat.div i 8) x k
noncomputable def rx_s3 {β : Type} (l : List (List (List rx_E))) (i : Nat) (e : rx_E) (k : List (List (List rx_E)) → Option β) : Option β := rx_s2 (rx_get [] l (Nat.div i 64)) (Nat.mod i 64) e fun x => rx_set l (Nat.div i 64) x k
noncomputable def rx_s4 {β : Type} (l : List (List (List (List rx_E)))) (i : Nat) (e : rx_E) (k : List (List (List (List rx_E))) → Option β) : Option β := rx_s3 (rx_get [] l (Nat.div i 512)) (Nat.mod i 512) e fun x => rx_set l (Nat.div i 512) x k
noncomputable def rx_s5 {β : Type} (l : List (List (List (List (List rx_E))))) (i : Nat) (e : rx_E) (k : List (List (List (List (List rx_E)))) → Option β) : Option β := rx_s4 (rx_get [] l (Nat.div i 4096)) (Nat.mod i 4096) e fun x => rx_set l (Nat.div i 4096) x k
noncomputable def rx_hg (h : rx_H) (i : Nat) : rx_E := rx_g5 h.2.2.2 i
noncomputable def rx_hs {β : Type} (h : rx_H) (i : Nat) (e : rx_E) (k : rx_H → Option β) : Option β := match h with
  | (n, z, iv, t) => rx_s5 t i e fun t' => k (n, z, iv, t')
noncomputable def rx_hp {β : Type} (h : rx_H) (e : rx_E) (k : rx_H → Option β) : Option β :=
  match h with
  | (n, z, iv, t) => rx_s5 t n e fun t' => rx_f (Nat.succ n) fun n' => rx_f (Nat.add z e.2.2.1) fun z' => k (n', z', iv, t')
theorem rx_getD_set {α : Type} (l : List α) (i j : Nat) (x d : α) (h : i < l.length) : (l.set i x).getD j d = if j = i then x else l.getD j d := by
  by_cases e : j = i
  · subst e; simp [List.getD, h]
  · simp only [List.getD, if_neg e]
    rw [List.getElem?_set_ne (fun q => e q.symm)]
theorem rx_fs_some {β : Type} {fs : List (List Nat)} {k v : Nat} {kk : List (List Nat) → Option β} {r : β} (h : rx_fs fs k v kk = some r) : ∃ fs', kk fs' = some r ∧ ∀ j, rx_fg fs' j = if j = k then v else rx_fg fs j := by
  obtain ⟨h1, h2⟩ := rx_set_some h
  obtain ⟨h3, h4⟩ := rx_set_some h2
  change k % 16 < (rx_get [] fs (k / 16)).length at h1
  change k / 16 < _ at h3
  refine ⟨fs.set (k / 16) ((rx_get [] fs (k / 16)).set (k % 16) v), h4, fun j => ?_⟩
  show rx_get 7 (rx_get [] _ (j / 16)) (j % 16) = if j = k then v else rx_get 7 (rx_get [] fs (j / 16)) (j % 16)
  simp only [rx_get_eq] at h1 h3 ⊢
  rw [rx_getD_set _ _ _ _ _ h3]
  by_cases e : j = k
  · subst e; rw [if_pos rfl, if_pos rfl, rx_getD_set _ _ _ _ _ h1, if_pos rfl]
  · rw [if_neg e]
    by_cases e1 : j / 16 = k / 16
    · rw [if_pos e1, rx_getD_set _ _ _ _ _ h1, if_neg (by omega), e1]
    · rw [if_neg e1]
theorem rx_lev {α E : Type} {d : α} {g : α → Nat → E} {l : List α} {m i : Nat} {e : E} {a : α} (hm : 0 < m) (hl : i / m < l.length) (ha : ∀ j, g a j = if j = i % m then e else g (l.getD (i / m) d) j) (j : Nat) : g ((l.set (i / m) a).getD (j / m) d) (j % m) = if j = i then e else g (l.getD (j / m) d) (j % m) := by
  rw [rx_getD_set _ _ _ _ _ hl]
  by_cases q : j / m = i / m
  · rw [if_pos q, ha (j % m), q]
    by_cases q2 : j % m = i % m
    · have : j = i := by rw [← Nat.div_add_mod j m, ← Nat.div_add_mod i m, q, q2]
      rw [if_pos q2, if_pos this]
    · have : ¬ j = i := fun z => q2 (by rw [z])
      rw [if_neg q2, if_neg this]
  · have : ¬ j = i := fun z => q (by rw [z])
    rw [if_neg q, if_neg this]
theorem rx_s1_some {β : Type} {l : List rx_E} {i : Nat} {e : rx_E} {k : List rx_E → Option β} {r : β} (h : rx_s1 l i e k = some r) : ∃ l', k l' = some r ∧ ∀ j, rx_g1 l' j = if j = i then e else rx_g1 l j := by
  obtain ⟨h1, h2⟩ := rx_set_some h
  refine ⟨_, h2, fun j => ?_⟩
  unfold rx_g1
  rw [rx_get_eq, rx_get_eq, rx_getD_set _ _ _ _ _ h1]
theorem rx_s2_some {β : Type} {l : List (List rx_E)} {i : Nat} {e : rx_E} {k : List (List rx_E) → Option β} {r : β} (h : rx_s2 l i e k = some r) : ∃ l', k l' = some r ∧ ∀ j, rx_g2 l' j = if j = i then e else rx_g2 l j := by
  obtain ⟨a, h1, h2⟩ := rx_s1_some h
  obtain ⟨h3, h4⟩ := rx_set_some h1
  refine ⟨_, h4, fun j => ?_⟩
  show rx_g1 (rx_get [] (l.set (i / 8) a) (j / 8)) (j % 8) = if j = i then e else rx_g1 (rx_get [] l (j / 8)) (j % 8)
  rw [rx_get_eq, rx_get_eq]
  refine rx_lev (g := rx_g1) (by decide) h3 (fun q => ?_) j
  have h5 := h2 q
  rw [rx_get_eq] at h5
  exact h5
theorem rx_s3_some {β : Type} {l : List (List (List rx_E))} {i : Nat} {e : rx_E} {k : List (List (List rx_E)) → Option β} {r : β} (h : rx_s3 l i e k = some r) : ∃ l', k l' = some r ∧ ∀ j, rx_g3 l' j = if j = i then e else rx_g3 l j := by
  obtain ⟨a, h1, h2⟩ := rx_s2_some h
  obtain ⟨h3, h4⟩ := rx_set_some h1
  refine ⟨_, h4, fun j => ?_⟩
  show rx_g2 (rx_get [] (l.set (i / 64) a) (j / 64)) (j % 64) = if j = i then e else rx_g2 (rx_get [] l (j / 64)) (j % 64)
  rw [rx_get_eq, rx_get_eq]
  refine rx_lev (g := rx_g2) (by decide) h3 (fun q => ?_) j
  have h5 := h2 q
  rw [rx_get_eq] at h5
  exact h5
theorem rx_s4_some {β : Type} {l : List (List (List (List rx_E)))} {i : Nat} {e : rx_E} {k : List (List (List (List rx_E))) → Option β} {r : β} (h : rx_s4 l i e k = some r) : ∃ l', k l' = some r ∧ ∀ j, rx_g4 l' j = if j = i then e else rx_g4 l j := by
  obtain ⟨a, h1, h2⟩ := rx_s3_some h
  obtain ⟨h3, h4⟩ := rx_set_some h1
  refine ⟨_, h4, fun j => ?_⟩
  show rx_g3 (rx_get [] (l.set (i / 512) a) (j / 512)) (j % 512) = if j = i then e else rx_g3 (rx_get [] l (j / 512)) (j % 512)
  rw [rx_get_eq, rx_get_eq]
  refine rx_lev (g := rx_g3) (by decide) h3 (fun q => ?_) j
  have h5 := h2 q
  rw [rx_get_eq] at h5
  exact h5
theorem rx_s5_some {β : Type} {l : List (List (List (List (List rx_E))))} {i : Nat} {e : rx_E} {k : List (List (List (List (List rx_E)))) → Option β} {r : β} (h : rx_s5 l i e k = some r) : ∃ l', k l' = some r ∧ ∀ j, rx_g5 l' j = if j = i then e else rx_g5 l j := by
  obtain ⟨a, h1, h2⟩ := rx_s4_some h
  obtain ⟨h3, h4⟩ := rx_set_some h1
  refine ⟨_, h4, fun j => ?_⟩
  show rx_g4 (rx_get [] (l.set (i / 4096) a) (j / 4096)) (j % 4096) = if j = i then e else rx_g4 (rx_get [] l (j / 4096)) (j % 4096)
  rw [rx_get_eq, rx_get_eq]
  refine rx_lev (g := rx_g4) (by decide) h3 (fun q => ?_) j
  have h5 := h2 q
  rw [rx_get_eq] at h5
  exact h5
theorem rx_hs_some {β : Type} {h : rx_H} {i : Nat} {e : rx_E} {k : rx_H → Option β} {r : β} (hh : rx_hs h i e k = some r) : ∃ h', k h' = some r ∧ h'.1 = h.1 ∧ h'.2.1 = h.2.1 ∧ h'.2.2.1 = h.2.2.1 ∧ ∀ j, rx_hg h' j = if j = i then e else rx_hg h j := by
  obtain ⟨n, z, iv, t0⟩ := h
  obtain ⟨t, h1, h2⟩ := rx_s5_some hh
  exact ⟨_, h1, rfl, rfl, rfl, h2⟩
theorem rx_hp_some {β : Type} {h : rx_H} {e : rx_E} {k : rx_H → Option β} {r : β} (hh : rx_hp h e k = some r) : ∃ h', k h' = some r ∧ h'.1 = h.1 + 1 ∧ h'.2.1 = h.2.1 + e.2.2.1 ∧ h'.2.2.1 = h.2.2.1 ∧ ∀ j, rx_hg h' j = if j = h.1 then e else rx_hg h j := by
  obtain ⟨n, z, iv, t0⟩ := h
  simp only [rx_hp, rx_f_eq] at hh
  obtain ⟨t, h1, h2⟩ := rx_s5_some hh
  exact ⟨_, h1, rfl, rfl, rfl, h2⟩
end
section
-- what lies around a run: where our cells begin, the values from outside, the classes and their places, the array classes, what else holds of a state, the tables
abbrev rx_V : Type := Nat × (Nat → Value) × va_G × List vw_C × (Nat → ClassId) × List FieldType × (State → Prop) × List Cond
abbrev eb (V : rx_V) : Nat := V.1
abbrev ex (V : rx_V) : Nat → Value := V.2.1
abbrev eD (V : rx_V) : va_G := V.2.2.1
abbrev eC (V : rx_V) : List vw_C := V.2.2.2.1
abbrev eA (V : rx_V) : Nat → ClassId := V.2.2.2.2.1
abbrev eT (V : rx_V) : List FieldType := V.2.2.2.2.2.1
abbrev eX (V : rx_V) : State → Prop := V.2.2.2.2.2.2.1
abbrev eW (V : rx_V) : List Cond := V.2.2.2.2.2.2.2
def rx_tys (V : rx_V) : List (ClassId × FieldType) := (List.range (eT V).length).map fun t => (eA V t, (eT V).getD t .int)
theorem rx_tys_at {V : rx_V} {t : Nat} {ty : FieldType} (h : (eT V)[t]? = some ty) : (rx_tys V)[t]? = some (eA V t, ty) := by
  have hl : t < (eT V).length := (List.getElem?_eq_some_iff.mp h).1
  simp [rx_tys, List.getElem?_map, List.getElem?_range hl, List.getD, h]
-- the values from outside: five whole numbers (the script's), then references or null, of cells that are not ours
def rx_Ok (V : rx_V) : Prop := (∀ k, k < 5 → ∃ v, ex V k = .int v) ∧ (∀ k, 5 ≤ k → ex V k = .null ∨ ∃ a, a < eb V ∧ ex V k = .ref a) ∧
  (∀ w ∈ eW V, (w.onTables && w.keeps) = true ∨ ∃ ty, w = .arrayClass ty) ∧
  (∀ s U : State, eX V s → s.WarmedH U.vm → eb V ≤ s.heap.size → (∀ q, q < eb V → U.heap[q]? = s.heap[q]?) → eX V U)
def rx_En (V : rx_V) (s : State) : Prop := va_K (eD V) (eC V) (rx_tys V) s ∧ eX V s ∧ eb V ≤ s.heap.size
-- what comes of a whole number from outside by >>> of a constant (kind 0), then (byte) (1) or & 255 (2)
def rx_xi (v : Value) : Int32 := match v with
  | .int x => x
  | _ => 0
def rx_x (f : Nat → Value) (q : Nat) : Int32 :=
  let y := ((rx_xi (f (q % 5))).toUInt32 >>> ((nI (q / 5 % 32)).toUInt32 &&& Int32.toUInt32 31)).toInt32
  if q / 160 = 0 then y else if q / 160 = 1 then y.toInt8.toInt32 else y &&& 255
def rx_v (V : rx_V) (c : Nat) : Value := if c % 8 = 0 then .int (rx_di c) else if c % 8 = 1 then .long (rx_dl c) else if c % 8 = 2 then .ref (eb V + c / 8) else if c % 8 = 4 then ex V (c / 8) else if c % 8 = 5 then .int (rx_x (ex V) (c / 8)) else .null
theorem rx_v_ei (V : rx_V) (x : Int32) : rx_v V (rx_ei x) = .int x := by
  unfold rx_v rx_ei rx_di
  rw [if_pos (by omega), show 8 * x.toBitVec.toNat / 8 = x.toBitVec.toNat by omega]
  congr 1
  apply Int32.toBitVec_inj.mp
  simp
theorem rx_v_el (V : rx_V) (x : Int64) : rx_v V (rx_el x) = .long x := by
  unfold rx_v rx_el rx_dl
  rw [if_neg (by omega), if_pos (by omega), show (8 * x.toBitVec.toNat + 1) / 8 = x.toBitVec.toNat by omega]
  congr 1
  apply Int64.toBitVec_inj.mp
  simp
theorem rx_v_0 {V : rx_V} {c : Nat} (h : c % 8 = 0) : rx_v V c = .int (rx_di c) := if_pos h
theorem rx_v_1 {V : rx_V} {c : Nat} (h : c % 8 = 1) : rx_v V c = .long (rx_dl c) := by unfold rx_v; rw [if_neg (by omega), if_pos h]
theorem rx_v_2 {V : rx_V} {c : Nat} (h : c % 8 = 2) : rx_v V c = .ref (eb V + c / 8) := by unfold rx_v; rw [if_neg (by omega), if_neg (by omega), if_pos h]
theorem rx_v_3 {V : rx_V} {c : Nat} (h : c % 8 = 3) : rx_v V c = .null := by unfold rx_v; rw [if_neg (by omega), if_neg (by omega), if_neg (by omega), if_neg (by omega), if_neg (by omega)]
theorem rx_v_5 {V : rx_V} {c : Nat} (h : c % 8 = 5) : rx_v V c = .int (rx_x (ex V) (c / 8)) := by unfold rx_v; rw [if_neg (by omega), if_neg (by omega), if_neg (by omega), if_neg (by omega), if_pos h]
theorem rx_v_4 {V : rx_V} {c : Nat} (h : c % 8 = 4) : rx_v V c = ex V (c / 8) := by unfold rx_v; rw [if_neg (by omega), if_neg (by omega), if_neg (by omega), if_pos h]
def rx_ct (c : Nat) : Nat := bif Nat.beq (c % 8) 1 then 2 else 1
theorem rx_v_cat {V : rx_V} (hV : rx_Ok V) (c : Nat) : (rx_v V c).category = rx_ct c := by
  have hc : c % 8 = 0 ∨ c % 8 = 1 ∨ c % 8 = 2 ∨ c % 8 = 4 ∨ c % 8 = 5 ∨ (c % 8 = 3 ∨ c % 8 = 6 ∨ c % 8 = 7) := by omega
  unfold rx_ct
  rcases hc with h | h | h | h | h | h
  · rw [rx_v_0 h, h]; rfl
  · rw [rx_v_1 h, h]; rfl
  · rw [rx_v_2 h, h]; rfl
  · rw [rx_v_4 h, h]
    rcases Nat.lt_or_ge (c / 8) 5 with q | q
    · obtain ⟨v, e⟩ := hV.1 _ q; rw [e]; rfl
    · rcases hV.2.1 _ q with e | ⟨a, -, e⟩ <;> rw [e] <;> rfl
  · rw [rx_v_5 h, h]; rfl
  · have e : rx_v V c = .null := by unfold rx_v; rw [if_neg (by omega), if_neg (by omega), if_neg (by omega), if_neg (by omega), if_neg (by omega)]
    rw [e]
    rcases h with h | h | h <;> rw [h] <;> rfl
-- what a cell is
def rx_at (V : rx_V) (i : Nat) (e : rx_E) (H : Heap) : Prop := match e with
  | (0, ci, n, fs, _) => (∃ r, (eC V)[ci]? = some r ∧ r.2.2 = n) ∧ t_OB (eb V + i) ((eD V).1 ci) n ((eD V).2 ci) H (fun k => rx_v V (rx_fg fs k))
  | (t + 1, _, n, fs, us) => H[eb V + i]? = some (arrV (eA V t) n (fun j => rx_v V (rx_lk (rx_fg fs 0) us j)))
def rx_w (V : rx_V) (h : rx_H) (H : Heap) : Prop := H.size = eb V + h.1 ∧ (∀ i, i < h.1 → rx_at V i (rx_hg h i) H) ∧ ∀ (k : Nat) (lo hi : Int), h.2.2.1[k]? = some (lo, hi) → k < 5 ∧ ∃ v, ex V k = .int v ∧ lo ≤ v.toInt ∧ v.toInt ≤ hi
def rx_F (V : rx_V) (s : State) (H : Heap) (locs : List Loc) : Prop := (∀ q, q < eb V → H[q]? = s.heap[q]?) ∧ (∀ l ∈ locs, eb V ≤ l.base) ∧ s.heap.size ≤ H.size
def rx_L (V : rx_V) (ls : Array Slot) (nL : Nat) (lv : List Nat) : Prop := ls.size = nL ∧ lv_wf ls ∧ ∀ (i c : Nat), lv[i]? = some c → c % 8 ≠ 7 → ls[i]? = some (.val (rx_v V c))
-- a method: its class, code, locals, result, whether it is a constructor
abbrev rx_M : Type := String × ByteArray × Nat × Option FieldType × Bool
def rx_Cx (V : rx_V) (M : rx_M) (p : Program) (s : State) (m : MethodId) (args : Array Value) (meth : Method) (c : Code) : Prop :=
  p.tables.exec = Jvm.exec ∧ c.code = M.2.1 ∧ c.maxLocals = M.2.2.1 ∧ meth.sig.returnType = M.2.2.2.1 ∧ meth.locks = false ∧ s.vm.findClass M.1 = some m.cls ∧ (∀ w ∈ eW V, w.before args s = true) ∧ (M.2.2.2.2 = true → meth.name = "<init>")
def rx_r (V : rx_V) (c : Nat) : Option Value := if c % 8 = 7 then none else some (rx_v V c)
def rx_Q (V : rx_V) (r : Nat) (h : rx_H) : Array Value → State → Outcome → State → Prop := fun _ st oc t => oc = .returned (rx_r V r) ∧ rx_w V h t.heap ∧ ∀ q, q < eb V → t.heap[q]? = st.heap[q]?
def rx_OK (V : rx_V) (M : rx_M) (d pc : Nat) (f : rx_K) : Prop :=
  ∀ (lv st : List Nat) (h : rx_H) (r : Nat) (h' : rx_H), f lv st h = some (r, h') → h.1 ≤ h'.1 ∧ h.2.1 ≤ h'.2.1 ∧
    ∀ (p : Program) (l : Launch) (e : Env) (R : Room) (s : State) (m : MethodId) (args : Array Value) (below : List Frame) (meth : Method) (c : Code), rx_Cx V M p s m args meth c → rx_En V s →
      ∀ (n0 z0 : Nat), n0 ≤ h.1 → z0 ≤ h.2.1 → d ≤ R.frames → 100 * d ≤ R.locals → h'.1 - n0 ≤ R.cells → h'.2.1 - z0 ≤ R.slots →
        ∀ (H : Heap) (locs : List Loc) (ls : Array Slot), rx_w V h H → rx_F V s H locs → rx_L V ls M.2.2.1 lv →
          W p l e R s m args below meth c H locs (h.1 - n0) (h.2.1 - z0) (MQ below (rx_Q V r h') args s (h'.1 - n0) (h'.2.1 - z0) (fun q => eb V ≤ q)) (F0 m pc ls (st.map (rx_v V)))
-- one step that leaves the cells as they are
theorem rx_pure {V : rx_V} {M : rx_M} {d pc : Nat} {f : rx_K} (h0 : ∀ (lv st : List Nat) (h : rx_H) (r : Nat) (h' : rx_H), f lv st h = some (r, h') → ∃ (pc' : Nat) (g : rx_K) (lv' st' : List Nat), rx_OK V M d pc' g ∧ g lv' st' h = some (r, h') ∧
    ∀ (p : Program) (l : Launch) (e : Env) (R : Room) (s : State) (m : MethodId) (args : Array Value) (below : List Frame) (meth : Method) (c : Code), rx_Cx V M p s m args meth c → rx_En V s → ∀ (H : Heap) (locs : List Loc) (ls : Array Slot) (cells slots : Nat) (Q : State → Prop), rx_w V h H → rx_F V s H locs → rx_L V ls M.2.2.1 lv →
      (∀ ls' : Array Slot, rx_L V ls' M.2.2.1 lv' → W p l e R s m args below meth c H locs cells slots Q (F0 m pc' ls' (st'.map (rx_v V)))) → W p l e R s m args below meth c H locs cells slots Q (F0 m pc ls (st.map (rx_v V)))) : rx_OK V M d pc f := by
  intro lv st h r h' hf
  obtain ⟨pc', g, lv', st', hg, hgf, hw⟩ := h0 lv st h r h' hf
  obtain ⟨m1, m2, kk⟩ := hg lv' st' h r h' hgf
  refine ⟨m1, m2, fun p l e R s m args below meth c hC hE n0 z0 hn hz hR1 hR2 hR3 hR4 H locs ls hW hF hL => ?_⟩
  exact hw p l e R s m args below meth c hC hE H locs ls _ _ _ hW hF hL (fun ls' hL' => kk p l e R s m args below meth c hC hE n0 z0 hn hz hR1 hR2 hR3 hR4 H locs ls' hW hF hL')
end
section
-- what kind of value a code is
def rx_isI (c : Nat) : Bool := Nat.beq (c % 8) 0 || (Nat.beq (c % 8) 5 || (Nat.beq (c % 8) 4 && Nat.blt (c / 8) 5))
def rx_isR (c : Nat) : Bool := Nat.beq (c % 8) 2 || (Nat.beq (c % 8) 3 || (Nat.beq (c % 8) 4 && Nat.ble 5 (c / 8)))
def rx_isL (c : Nat) : Bool := Nat.beq (c % 8) 1
theorem rx_beq {a b : Nat} (h : Nat.beq a b = true) : a = b := Nat.eq_of_beq_eq_true h
theorem rx_isI_v {V : rx_V} (hV : rx_Ok V) {c : Nat} (h : rx_isI c = true) : c % 8 ≠ 7 ∧ ∃ x, rx_v V c = .int x := by
  unfold rx_isI at h
  rcases Bool.or_eq_true_iff.mp h with h | h
  · have e := rx_beq h
    exact ⟨by omega, _, rx_v_0 e⟩
  · rcases Bool.or_eq_true_iff.mp h with h | h
    · have e := rx_beq h
      exact ⟨by omega, _, rx_v_5 e⟩
    · obtain ⟨h1, h2⟩ := Bool.and_eq_true_iff.mp h
      have e := rx_beq h1
      obtain ⟨v, q⟩ := hV.1 (c / 8) (Nat.le_of_ble_eq_true h2)
      exact ⟨by omega, v, by rw [rx_v_4 e, q]⟩
theorem rx_isR_v {V : rx_V} (hV : rx_Ok V) {c : Nat} (h : rx_isR c = true) : c % 8 ≠ 7 ∧ (rx_v V c = .null ∨ ∃ a, rx_v V c = .ref a) := by
  unfold rx_isR at h
  rcases Bool.or_eq_true_iff.mp h with h | h
  · have e := rx_beq h
    exact ⟨by omega, Or.inr ⟨_, rx_v_2 e⟩⟩
  · rcases Bool.or_eq_true_iff.mp h with h | h
    · have e := rx_beq h
      exact ⟨by omega, Or.inl (rx_v_3 e)⟩
    · obtain ⟨h1, h2⟩ := Bool.and_eq_true_iff.mp h
      have e := rx_beq h1
      refine ⟨by omega, ?_⟩
      rw [rx_v_4 e]
      rcases hV.2.1 (c / 8) (Nat.le_of_ble_eq_true h2) with q | ⟨a, -, q⟩
      · exact Or.inl q
      · exact Or.inr ⟨a, q⟩
theorem rx_isL_v {V : rx_V} {c : Nat} (h : rx_isL c = true) : c % 8 = 1 ∧ rx_v V c = .long (rx_dl c) := ⟨rx_beq h, rx_v_1 (rx_beq h)⟩
theorem rx_bif {α : Type} {b : Bool} {x y : Option α} {r : α} (h : (bif b then x else y) = some r) : (b = true ∧ x = some r) ∨ (b = false ∧ y = some r) := by cases b <;> simp_all
theorem rx_bifn {α : Type} {b : Bool} {x : Option α} {r : α} (h : (bif b then x else none) = some r) : b = true ∧ x = some r := by cases b <;> simp_all
-- locals
noncomputable def o_ld (chk : Nat → Bool) (i : Nat) (k : rx_K) : rx_K := fun lv st h => rx_f (rx_get 7 lv i) fun c => bif chk c then k lv (c :: st) h else none
theorem rx_L_at {V : rx_V} {ls : Array Slot} {nL i : Nat} {lv : List Nat} (hL : rx_L V ls nL lv) (h7 : rx_get 7 lv i % 8 ≠ 7) : ls[i]? = some (.val (rx_v V (rx_get 7 lv i))) := by
  rw [rx_get_eq] at h7 ⊢
  cases e : lv[i]? with
  | none => exfalso; apply h7; simp [List.getD, e]
  | some c =>
    have e2 : lv.getD i 7 = c := by simp [List.getD, e]
    rw [e2] at h7 ⊢
    exact hL.2.2 i c e h7
noncomputable def rx_st1 {β : Type} (lv : List Nat) (i v : Nat) (k : List Nat → Option β) : Option β :=
  rx_set lv i v fun l1 => Nat.rec (motive := fun _ => Option β) (k l1) (fun j _ => bif rx_isL (rx_get 7 lv j) then rx_set l1 j 7 k else k l1) i
noncomputable def rx_st2 {β : Type} (lv : List Nat) (i v : Nat) (k : List Nat → Option β) : Option β :=
  rx_set lv (i + 1) 7 fun l0 => rx_st1 l0 i v k
def rx_as (V : rx_V) (lv : List Nat) : List (Nat × Value) := (List.range lv.length).filterMap fun i => if lv.getD i 7 % 8 = 7 then none else some (i, rx_v V (lv.getD i 7))
theorem rx_as_mem {V : rx_V} {lv : List Nat} {q : Nat × Value} : q ∈ rx_as V lv ↔ ∃ i c, lv[i]? = some c ∧ c % 8 ≠ 7 ∧ q = (i, rx_v V c) := by
  unfold rx_as
  rw [List.mem_filterMap]
  constructor
  · rintro ⟨i, hi, he⟩
    have hl := List.mem_range.mp hi
    have e1 : lv[i]? = some (lv.getD i 7) := by simp [List.getD, List.getElem?_eq_getElem hl]
    by_cases h7 : lv.getD i 7 % 8 = 7
    · rw [if_pos h7] at he; cases he
    · rw [if_neg h7] at he
      exact ⟨i, _, e1, h7, (Option.some.inj he).symm⟩
  · rintro ⟨i, c, e, h7, rfl⟩
    have hl : i < lv.length := (List.getElem?_eq_some_iff.mp e).1
    refine ⟨i, List.mem_range.mpr hl, ?_⟩
    have e2 : lv.getD i 7 = c := by simp [List.getD, e]
    rw [e2, if_neg h7]
theorem rx_L_has {V : rx_V} {ls : Array Slot} {nL : Nat} {lv : List Nat} (hL : rx_L V ls nL lv) : lv_has ls nL (rx_as V lv) := by
  refine ⟨hL.1, hL.2.1, fun q hq => ?_⟩
  obtain ⟨i, c, e, h7, rfl⟩ := rx_as_mem.mp hq
  exact hL.2.2 i c e h7
theorem rx_st1_some {β : Type} {lv : List Nat} {i v : Nat} {k : List Nat → Option β} {r : β} (h : rx_st1 lv i v k = some r) : ∃ lv', k lv' = some r ∧ ∀ (j c : Nat), lv'[j]? = some c → c % 8 ≠ 7 → (j = i ∧ c = v) ∨ (j ≠ i ∧ lv[j]? = some c ∧ ¬ (j + 1 = i ∧ c % 8 = 1)) := by
  obtain ⟨h1, h2⟩ := rx_set_some h
  have key : ∀ (j c : Nat), (lv.set i v)[j]? = some c → (j = i ∧ c = v) ∨ (j ≠ i ∧ lv[j]? = some c) := by
    intro j c hj
    by_cases e : j = i
    · subst e
      rw [List.getElem?_set_self h1] at hj
      exact Or.inl ⟨rfl, (Option.some.inj hj).symm⟩
    · rw [List.getElem?_set_ne (fun q => e q.symm)] at hj
      exact Or.inr ⟨e, hj⟩
  cases i with
  | zero =>
    refine ⟨_, h2, fun j c hj h7 => ?_⟩
    rcases key j c hj with q | ⟨q1, q2⟩
    · exact Or.inl q
    · exact Or.inr ⟨q1, q2, fun z => by omega⟩
  | succ i =>
    rcases rx_bif h2 with ⟨hb, h3⟩ | ⟨hb, h3⟩
    · obtain ⟨h4, h5⟩ := rx_set_some h3
      refine ⟨_, h5, fun j c hj h7 => ?_⟩
      by_cases e : j = i
      · subst e
        rw [List.getElem?_set_self h4] at hj
        have := Option.some.inj hj
        omega
      · rw [List.getElem?_set_ne (fun q => e q.symm)] at hj
        rcases key j c hj with q | ⟨q1, q2⟩
        · exact Or.inl q
        · exact Or.inr ⟨q1, q2, fun z => e (by omega)⟩
    · refine ⟨_, h3, fun j c hj h7 => ?_⟩
      rcases key j c hj with q | ⟨q1, q2⟩
      · exact Or.inl q
      · refine Or.inr ⟨q1, q2, fun z => ?_⟩
        obtain ⟨z1, z2⟩ := z
        have z3 : j = i := by omega
        subst z3
        rw [rx_get_eq] at hb
        have e2 : lv.getD j 7 = c := by simp [List.getD, q2]
        rw [e2] at hb
        unfold rx_isL at hb
        rw [z2] at hb
        cases hb
theorem rx_L_st1 {V : rx_V} (hV : rx_Ok V) {ls' : Array Slot} {nL i v : Nat} {lv lv' : List Nat} (hh : lv_has ls' nL ((i, rx_v V v) :: (rx_as V lv).filter (fun q => !(q.1 == i) && !(q.1 + 1 == i && q.2.category == 2)))) (hk : ∀ (j c : Nat), lv'[j]? = some c → c % 8 ≠ 7 → (j = i ∧ c = v) ∨ (j ≠ i ∧ lv[j]? = some c ∧ ¬ (j + 1 = i ∧ c % 8 = 1))) : rx_L V ls' nL lv' := by
  refine ⟨hh.1, hh.2.1, fun j c hj h7 => ?_⟩
  rcases hk j c hj h7 with ⟨rfl, rfl⟩ | ⟨h1, h2, h3⟩
  · exact hh.2.2 _ List.mem_cons_self
  · refine hh.2.2 (j, rx_v V c) (List.mem_cons_of_mem _ (List.mem_filter.mpr ⟨rx_as_mem.mpr ⟨j, c, h2, h7, rfl⟩, ?_⟩))
    have e1 : (j == i) = false := by simp [h1]
    rw [rx_v_cat hV]
    by_cases e2 : j + 1 = i
    · have e3 : c % 8 ≠ 1 := fun z => h3 ⟨e2, z⟩
      have e4 : Nat.beq (c % 8) 1 = false := by
        rw [Bool.eq_false_iff]; intro q; exact e3 (rx_beq q)
      simp [e1, rx_ct, e4]
    · simp [e1, e2]
theorem rx_st2_some {β : Type} {lv : List Nat} {i v : Nat} {k : List Nat → Option β} {r : β} (h : rx_st2 lv i v k = some r) : ∃ lv', k lv' = some r ∧ ∀ (j c : Nat), lv'[j]? = some c → c % 8 ≠ 7 → (j = i ∧ c = v) ∨ (j ≠ i ∧ j ≠ i + 1 ∧ lv[j]? = some c ∧ ¬ (j + 1 = i ∧ c % 8 = 1)) := by
  obtain ⟨h1, h2⟩ := rx_set_some h
  obtain ⟨lv', h3, h4⟩ := rx_st1_some h2
  refine ⟨lv', h3, fun j c hj h7 => ?_⟩
  rcases h4 j c hj h7 with q | ⟨q1, q2, q3⟩
  · exact Or.inl q
  · by_cases e : j = i + 1
    · subst e
      rw [List.getElem?_set_self h1] at q2
      have := Option.some.inj q2
      omega
    · rw [List.getElem?_set_ne (fun q => e q.symm)] at q2
      exact Or.inr ⟨q1, e, q2, q3⟩
theorem rx_L_st2 {V : rx_V} (hV : rx_Ok V) {ls' : Array Slot} {nL i v : Nat} {lv lv' : List Nat} (hh : lv_has ls' nL ((i, rx_v V v) :: (rx_as V lv).filter (fun q => !(q.1 == i) && (!(q.1 == i + 1) && !(q.1 + 1 == i && q.2.category == 2))))) (hk : ∀ (j c : Nat), lv'[j]? = some c → c % 8 ≠ 7 → (j = i ∧ c = v) ∨ (j ≠ i ∧ j ≠ i + 1 ∧ lv[j]? = some c ∧ ¬ (j + 1 = i ∧ c % 8 = 1))) : rx_L V ls' nL lv' := by
  refine ⟨hh.1, hh.2.1, fun j c hj h7 => ?_⟩
  rcases hk j c hj h7 with ⟨rfl, rfl⟩ | ⟨h1, h1', h2, h3⟩
  · exact hh.2.2 _ List.mem_cons_self
  · refine hh.2.2 (j, rx_v V c) (List.mem_cons_of_mem _ (List.mem_filter.mpr ⟨rx_as_mem.mpr ⟨j, c, h2, h7, rfl⟩, ?_⟩))
    have e1 : (j == i) = false := by simp [h1]
    have e1' : (j == i + 1) = false := by simp [h1']
    rw [rx_v_cat hV]
    by_cases e2 : j + 1 = i
    · have e3 : c % 8 ≠ 1 := fun z => h3 ⟨e2, z⟩
      have e4 : Nat.beq (c % 8) 1 = false := by
        rw [Bool.eq_false_iff]; intro q; exact e3 (rx_beq q)
      simp [e1, e1', rx_ct, e4]
    · simp [e1, e1', e2]
end
section
section RX13
variable {V : rx_V} {M : rx_M} {d pc : Nat} {f t : rx_K}
theorem s_iload_n (hV : rx_Ok V) {k : Fin 4} {i : Nat} (hdg : decode M.2.1 pc = .ok (.iload_n k, 1)) (hi : (k : Nat) = i) (hk : rx_OK V M d (pc + 1) f) : rx_OK V M d pc (o_ld rx_isI i f) := by
  refine rx_pure fun lv st h r h' hf => ?_
  simp only [o_ld, rx_f_eq] at hf
  obtain ⟨hc, hf⟩ := rx_bifn hf
  obtain ⟨h7, x, ex⟩ := rx_isI_v hV hc
  refine ⟨pc + 1, f, lv, _, hk, hf, fun p l e R s m args below meth c hC hE H locs ls cells slots Q hW hF hL kk => ?_⟩
  have h2 := kk ls hL
  have h3 := rx_L_at hL h7
  rw [ex] at h3
  rw [List.map_cons, ex] at h2
  exact lv_iload_n hC.1 hC.2.1 hdg hi h3 h2
theorem s_iload (hV : rx_Ok V) {i : Nat} (hdg : decode M.2.1 pc = .ok (.iload i, 2)) (hk : rx_OK V M d (pc + 2) f) : rx_OK V M d pc (o_ld rx_isI i f) := by
  refine rx_pure fun lv st h r h' hf => ?_
  simp only [o_ld, rx_f_eq] at hf
  obtain ⟨hc, hf⟩ := rx_bifn hf
  obtain ⟨h7, x, ex⟩ := rx_isI_v hV hc
  refine ⟨pc + 2, f, lv, _, hk, hf, fun p l e R s m args below meth c hC hE H locs ls cells slots Q hW hF hL kk => ?_⟩
  have h2 := kk ls hL
  have h3 := rx_L_at hL h7
  rw [ex] at h3
  rw [List.map_cons, ex] at h2
  exact lv_iload hC.1 hC.2.1 hdg h3 h2
theorem s_aload_n (hV : rx_Ok V) {k : Fin 4} {i : Nat} (hdg : decode M.2.1 pc = .ok (.aload_n k, 1)) (hi : (k : Nat) = i) (hk : rx_OK V M d (pc + 1) f) : rx_OK V M d pc (o_ld rx_isR i f) := by
  refine rx_pure fun lv st h r h' hf => ?_
  simp only [o_ld, rx_f_eq] at hf
  obtain ⟨hc, hf⟩ := rx_bifn hf
  obtain ⟨h7, hx⟩ := rx_isR_v hV hc
  refine ⟨pc + 1, f, lv, _, hk, hf, fun p l e R s m args below meth c hC hE H locs ls cells slots Q hW hF hL kk => ?_⟩
  have h2 := kk ls hL
  have h3 := rx_L_at hL h7
  rw [List.map_cons] at h2
  rcases hx with ex | ⟨a, ex⟩
  · rw [ex] at h2 h3
    exact lv_aload_nN hC.1 hC.2.1 hdg hi h3 h2
  · rw [ex] at h2 h3
    exact lv_aload_n hC.1 hC.2.1 hdg hi h3 h2
theorem s_aload (hV : rx_Ok V) {i : Nat} (hdg : decode M.2.1 pc = .ok (.aload i, 2)) (hk : rx_OK V M d (pc + 2) f) : rx_OK V M d pc (o_ld rx_isR i f) := by
  refine rx_pure fun lv st h r h' hf => ?_
  simp only [o_ld, rx_f_eq] at hf
  obtain ⟨hc, hf⟩ := rx_bifn hf
  obtain ⟨h7, hx⟩ := rx_isR_v hV hc
  refine ⟨pc + 2, f, lv, _, hk, hf, fun p l e R s m args below meth c hC hE H locs ls cells slots Q hW hF hL kk => ?_⟩
  have h2 := kk ls hL
  have h3 := rx_L_at hL h7
  rw [List.map_cons] at h2
  rcases hx with ex | ⟨a, ex⟩
  · rw [ex] at h2 h3
    exact lv_aloadN hC.1 hC.2.1 hdg h3 h2
  · rw [ex] at h2 h3
    exact lv_aload hC.1 hC.2.1 hdg h3 h2
theorem s_lload_n (hV : rx_Ok V) {k : Fin 4} {i : Nat} (hdg : decode M.2.1 pc = .ok (.lload_n k, 1)) (hi : (k : Nat) = i) (hk : rx_OK V M d (pc + 1) f) : rx_OK V M d pc (o_ld rx_isL i f) := by
  refine rx_pure fun lv st h r h' hf => ?_
  simp only [o_ld, rx_f_eq] at hf
  obtain ⟨hc, hf⟩ := rx_bifn hf
  obtain ⟨h7, ex⟩ := rx_isL_v (V := V) hc
  refine ⟨pc + 1, f, lv, _, hk, hf, fun p l e R s m args below meth c hC hE H locs ls cells slots Q hW hF hL kk => ?_⟩
  have h2 := kk ls hL
  have h3 := rx_L_at (i := i) hL (by omega)
  rw [ex] at h3
  rw [List.map_cons, ex] at h2
  exact lv_lload_n hC.1 hC.2.1 hdg hi h3 h2
theorem s_lload (hV : rx_Ok V) {i : Nat} (hdg : decode M.2.1 pc = .ok (.lload i, 2)) (hk : rx_OK V M d (pc + 2) f) : rx_OK V M d pc (o_ld rx_isL i f) := by
  refine rx_pure fun lv st h r h' hf => ?_
  simp only [o_ld, rx_f_eq] at hf
  obtain ⟨hc, hf⟩ := rx_bifn hf
  obtain ⟨h7, ex⟩ := rx_isL_v (V := V) hc
  refine ⟨pc + 2, f, lv, _, hk, hf, fun p l e R s m args below meth c hC hE H locs ls cells slots Q hW hF hL kk => ?_⟩
  have h2 := kk ls hL
  have h3 := rx_L_at (i := i) hL (by omega)
  rw [ex] at h3
  rw [List.map_cons, ex] at h2
  exact lv_lload hC.1 hC.2.1 hdg h3 h2
noncomputable def o_st (chk : Nat → Bool) (i : Nat) (k : rx_K) : rx_K := fun lv st h => match st with
  | v :: r => bif chk v then rx_st1 lv i v fun lv' => k lv' r h else none
  | _ => none
noncomputable def o_stL (i : Nat) (k : rx_K) : rx_K := fun lv st h => match st with
  | v :: r => bif rx_isL v then rx_st2 lv i v fun lv' => k lv' r h else none
  | _ => none
theorem s_istore_n (hV : rx_Ok V) {k : Fin 4} {i : Nat} (hdg : decode M.2.1 pc = .ok (.istore_n k, 1)) (hi : (k : Nat) = i) (hn : i < M.2.2.1) (hk : rx_OK V M d (pc + 1) f) : rx_OK V M d pc (o_st rx_isI i f) := by
  refine rx_pure fun lv st h r h' hf => ?_
  match st, hf with
  | [], hf => cases hf
  | v :: st, hf =>
  simp only [o_st] at hf
  obtain ⟨hc, hf⟩ := rx_bifn hf
  obtain ⟨lv', hf, hlv⟩ := rx_st1_some hf
  refine ⟨pc + 1, f, lv', st, hk, hf, fun p l e R s m args below meth c hC hE H locs ls cells slots Q hW hF hL kk => ?_⟩
  rw [List.map_cons]
  obtain ⟨h7, x, ex⟩ := rx_isI_v hV hc
  rw [ex]
  refine lv_istore_n hC.1 hC.2.1 hdg hi (rx_L_has hL) hn rfl fun ls' hh => kk ls' (rx_L_st1 hV (v := v) ?_ hlv)
  rw [ex]
  exact hh
theorem s_istore (hV : rx_Ok V) {i : Nat} (hdg : decode M.2.1 pc = .ok (.istore i, 2)) (hn : i < M.2.2.1) (hk : rx_OK V M d (pc + 2) f) : rx_OK V M d pc (o_st rx_isI i f) := by
  refine rx_pure fun lv st h r h' hf => ?_
  match st, hf with
  | [], hf => cases hf
  | v :: st, hf =>
  simp only [o_st] at hf
  obtain ⟨hc, hf⟩ := rx_bifn hf
  obtain ⟨lv', hf, hlv⟩ := rx_st1_some hf
  refine ⟨pc + 2, f, lv', st, hk, hf, fun p l e R s m args below meth c hC hE H locs ls cells slots Q hW hF hL kk => ?_⟩
  rw [List.map_cons]
  obtain ⟨h7, x, ex⟩ := rx_isI_v hV hc
  rw [ex]
  refine lv_istore hC.1 hC.2.1 hdg (rx_L_has hL) hn rfl fun ls' hh => kk ls' (rx_L_st1 hV (v := v) ?_ hlv)
  rw [ex]
  exact hh
theorem s_astore_n (hV : rx_Ok V) {k : Fin 4} {i : Nat} (hdg : decode M.2.1 pc = .ok (.astore_n k, 1)) (hi : (k : Nat) = i) (hn : i < M.2.2.1) (hk : rx_OK V M d (pc + 1) f) : rx_OK V M d pc (o_st rx_isR i f) := by
  refine rx_pure fun lv st h r h' hf => ?_
  match st, hf with
  | [], hf => cases hf
  | v :: st, hf =>
  simp only [o_st] at hf
  obtain ⟨hc, hf⟩ := rx_bifn hf
  obtain ⟨lv', hf, hlv⟩ := rx_st1_some hf
  refine ⟨pc + 1, f, lv', st, hk, hf, fun p l e R s m args below meth c hC hE H locs ls cells slots Q hW hF hL kk => ?_⟩
  rw [List.map_cons]
  obtain ⟨h7, hx⟩ := rx_isR_v hV hc
  rcases hx with ex | ⟨a, ex⟩
  · rw [ex]
    refine lv_astore_nN hC.1 hC.2.1 hdg hi (rx_L_has hL) hn rfl fun ls' hh => kk ls' (rx_L_st1 hV (v := v) ?_ hlv)
    rw [ex]
    exact hh
  · rw [ex]
    refine lv_astore_n hC.1 hC.2.1 hdg hi (rx_L_has hL) hn rfl fun ls' hh => kk ls' (rx_L_st1 hV (v := v) ?_ hlv)
    rw [ex]
    exact hh
theorem s_astore (hV : rx_Ok V) {i : Nat} (hdg : decode M.2.1 pc = .ok (.astore i, 2)) (hn : i < M.2.2.1) (hk : rx_OK V M d (pc + 2) f) : rx_OK V M d pc (o_st rx_isR i f) := by
  refine rx_pure fun lv st h r h' hf => ?_
  match st, hf with
  | [], hf => cases hf
  | v :: st, hf =>
  simp only [o_st] at hf
  obtain ⟨hc, hf⟩ := rx_bifn hf
  obtain ⟨lv', hf, hlv⟩ := rx_st1_some hf
  refine ⟨pc + 2, f, lv', st, hk, hf, fun p l e R s m args below meth c hC hE H locs ls cells slots Q hW hF hL kk => ?_⟩
  rw [List.map_cons]
  obtain ⟨h7, hx⟩ := rx_isR_v hV hc
  rcases hx with ex | ⟨a, ex⟩
  · rw [ex]
    refine lv_astoreN hC.1 hC.2.1 hdg (rx_L_has hL) hn rfl fun ls' hh => kk ls' (rx_L_st1 hV (v := v) ?_ hlv)
    rw [ex]
    exact hh
  · rw [ex]
    refine lv_astore hC.1 hC.2.1 hdg (rx_L_has hL) hn rfl fun ls' hh => kk ls' (rx_L_st1 hV (v := v) ?_ hlv)
    rw [ex]
    exact hh
theorem s_lstore_n (hV : rx_Ok V) {k : Fin 4} {i : Nat} (hdg : decode M.2.1 pc = .ok (.lstore_n k, 1)) (hi : (k : Nat) = i) (hn : i + 1 < M.2.2.1) (hk : rx_OK V M d (pc + 1) f) : rx_OK V M d pc (o_stL i f) := by
  refine rx_pure fun lv st h r h' hf => ?_
  match st, hf with
  | [], hf => cases hf
  | v :: st, hf =>
  simp only [o_stL] at hf
  obtain ⟨hc, hf⟩ := rx_bifn hf
  obtain ⟨lv', hf, hlv⟩ := rx_st2_some hf
  obtain ⟨h7, ex⟩ := rx_isL_v (V := V) hc
  refine ⟨pc + 1, f, lv', st, hk, hf, fun p l e R s m args below meth c hC hE H locs ls cells slots Q hW hF hL kk => ?_⟩
  rw [List.map_cons, ex]
  refine lv_lstore_n hC.1 hC.2.1 hdg hi (rx_L_has hL) hn rfl fun ls' hh => kk ls' (rx_L_st2 hV (v := v) ?_ hlv)
  rw [ex]
  exact hh
theorem s_lstore (hV : rx_Ok V) {i : Nat} (hdg : decode M.2.1 pc = .ok (.lstore i, 2)) (hn : i + 1 < M.2.2.1) (hk : rx_OK V M d (pc + 2) f) : rx_OK V M d pc (o_stL i f) := by
  refine rx_pure fun lv st h r h' hf => ?_
  match st, hf with
  | [], hf => cases hf
  | v :: st, hf =>
  simp only [o_stL] at hf
  obtain ⟨hc, hf⟩ := rx_bifn hf
  obtain ⟨lv', hf, hlv⟩ := rx_st2_some hf
  obtain ⟨h7, ex⟩ := rx_isL_v (V := V) hc
  refine ⟨pc + 2, f, lv', st, hk, hf, fun p l e R s m args below meth c hC hE H locs ls cells slots Q hW hF hL kk => ?_⟩
  rw [List.map_cons, ex]
  refine lv_lstore hC.1 hC.2.1 hdg (rx_L_has hL) hn rfl fun ls' hh => kk ls' (rx_L_st2 hV (v := v) ?_ hlv)
  rw [ex]
  exact hh
noncomputable def o_inc (i : Nat) (n : Int) (k : rx_K) : rx_K := fun lv st h => rx_f (rx_get 7 lv i) fun c => bif Nat.beq (c % 8) 0 then rx_f (rx_ei (rx_di c + Int32.ofInt n)) fun v => rx_st1 lv i v fun lv' => k lv' st h else none
theorem s_iinc (hV : rx_Ok V) {i : Nat} {n : Int} (hdg : decode M.2.1 pc = .ok (.iinc i n, 3)) (hn : i < M.2.2.1) (hk : rx_OK V M d (pc + 3) f) : rx_OK V M d pc (o_inc i n f) := by
  refine rx_pure fun lv st h r h' hf => ?_
  simp only [o_inc, rx_f_eq] at hf
  obtain ⟨hc, hf⟩ := rx_bifn hf
  have h0 := rx_beq hc
  obtain ⟨lv', hf, hlv⟩ := rx_st1_some hf
  refine ⟨pc + 3, f, lv', st, hk, hf, fun p l e R s m args below meth c hC hE H locs ls cells slots Q hW hF hL kk => ?_⟩
  have ev := rx_v_0 (V := V) h0
  have hmem : (i, Value.int (rx_di (rx_get 7 lv i))) ∈ rx_as V lv := by
    rw [← ev]
    rw [rx_get_eq] at h0 ⊢
    cases q : lv[i]? with
    | none => rw [show lv.getD i 7 = 7 by simp [List.getD, q]] at h0; omega
    | some c0 =>
      have q2 : lv.getD i 7 = c0 := by simp [List.getD, q]
      rw [q2] at h0 ⊢
      exact rx_as_mem.mpr ⟨i, c0, q, by omega, rfl⟩
  obtain ⟨k0, hk0⟩ := List.mem_iff_getElem?.mp hmem
  refine lv_iinc hC.1 hC.2.1 hdg (rx_L_has hL) hk0 rfl hn rfl fun ls' hh => kk ls' (rx_L_st1 hV (v := rx_ei (rx_di (rx_get 7 lv i) + Int32.ofInt n)) ?_ hlv)
  rw [rx_v_ei]
  exact hh
noncomputable def o_const (c : Nat) (k : rx_K) : rx_K := fun lv st h => k lv (c :: st) h
theorem s_iconst {n : Int} {v : Nat} (hdg : decode M.2.1 pc = .ok (.iconst n, 1)) (hv : rx_ei (Int32.ofInt n) = v) (hk : rx_OK V M d (pc + 1) f) : rx_OK V M d pc (o_const v f) := by
  subst hv
  refine rx_pure fun lv st h r h' hf => ?_
  refine ⟨pc + 1, f, lv, _, hk, hf, fun p l e R s m args below meth c hC hE H locs ls cells slots Q hW hF hL kk => ?_⟩
  have h2 := kk ls hL
  rw [List.map_cons, rx_v_ei] at h2
  exact lv_iconst hC.1 hC.2.1 hdg rfl h2
theorem s_bipush {n : Int} {v : Nat} (hdg : decode M.2.1 pc = .ok (.bipush n, 2)) (hv : rx_ei (Int8.ofInt n).toInt32 = v) (hk : rx_OK V M d (pc + 2) f) : rx_OK V M d pc (o_const v f) := by
  subst hv
  refine rx_pure fun lv st h r h' hf => ?_
  refine ⟨pc + 2, f, lv, _, hk, hf, fun p l e R s m args below meth c hC hE H locs ls cells slots Q hW hF hL kk => ?_⟩
  have h2 := kk ls hL
  rw [List.map_cons, rx_v_ei] at h2
  exact lv_bipush hC.1 hC.2.1 hdg rfl h2
theorem s_sipush {n : Int} {v : Nat} (hdg : decode M.2.1 pc = .ok (.sipush n, 3)) (hv : rx_ei (Int16.ofInt n).toInt32 = v) (hk : rx_OK V M d (pc + 3) f) : rx_OK V M d pc (o_const v f) := by
  subst hv
  refine rx_pure fun lv st h r h' hf => ?_
  refine ⟨pc + 3, f, lv, _, hk, hf, fun p l e R s m args below meth c hC hE H locs ls cells slots Q hW hF hL kk => ?_⟩
  have h2 := kk ls hL
  rw [List.map_cons, rx_v_ei] at h2
  exact lv_sipush hC.1 hC.2.1 hdg rfl h2
theorem s_lconst {n : Fin 2} {v : Nat} (hdg : decode M.2.1 pc = .ok (.lconst n, 1)) (hv : rx_el (Int64.ofNat (n : Nat)) = v) (hk : rx_OK V M d (pc + 1) f) : rx_OK V M d pc (o_const v f) := by
  subst hv
  refine rx_pure fun lv st h r h' hf => ?_
  refine ⟨pc + 1, f, lv, _, hk, hf, fun p l e R s m args below meth c hC hE H locs ls cells slots Q hW hF hL kk => ?_⟩
  have h2 := kk ls hL
  rw [List.map_cons, rx_v_el] at h2
  exact lv_lconst hC.1 hC.2.1 hdg rfl h2
theorem s_null (hdg : decode M.2.1 pc = .ok (.aconst_null, 1)) (hk : rx_OK V M d (pc + 1) f) : rx_OK V M d pc (o_const 3 f) := by
  refine rx_pure fun lv st h r h' hf => ?_
  refine ⟨pc + 1, f, lv, _, hk, hf, fun p l e R s m args below meth c hC hE H locs ls cells slots Q hW hF hL kk => ?_⟩
  have h2 := kk ls hL
  rw [List.map_cons, rx_v_3 rfl] at h2
  exact lv_null hC.1 hC.2.1 hdg h2
theorem s_ldc {index v : Nat} {x : Int32} (hdg : decode M.2.1 pc = .ok (.ldc index, 2)) (hw : Cond.constant M.1 index x ∈ eW V) (hv : rx_ei x = v) (hk : rx_OK V M d (pc + 2) f) : rx_OK V M d pc (o_const v f) := by
  subst hv
  refine rx_pure fun lv st h r h' hf => ?_
  refine ⟨pc + 2, f, lv, _, hk, hf, fun p l e R s m args below meth c hC hE H locs ls cells slots Q hW hF hL kk => ?_⟩
  have h2 := kk ls hL
  rw [List.map_cons, rx_v_ei] at h2
  exact lv_ldc hC.1 hC.2.1 hC.2.2.2.2.2.1 (hC.2.2.2.2.2.2.1 _ hw) hdg h2
theorem s_ldcw {index v : Nat} {x : Int32} (hdg : decode M.2.1 pc = .ok (.ldc_w index, 3)) (hw : Cond.constant M.1 index x ∈ eW V) (hv : rx_ei x = v) (hk : rx_OK V M d (pc + 3) f) : rx_OK V M d pc (o_const v f) := by
  subst hv
  refine rx_pure fun lv st h r h' hf => ?_
  refine ⟨pc + 3, f, lv, _, hk, hf, fun p l e R s m args below meth c hC hE H locs ls cells slots Q hW hF hL kk => ?_⟩
  have h2 := kk ls hL
  rw [List.map_cons, rx_v_ei] at h2
  exact lv_ldcw hC.1 hC.2.1 hC.2.2.2.2.2.1 (hC.2.2.2.2.2.2.1 _ hw) hdg h2
theorem s_ldc2 {index v : Nat} {x : Int64} (hdg : decode M.2.1 pc = .ok (.ldc2_w index, 3)) (hw : Cond.constantLong M.1 index x ∈ eW V) (hv : rx_el x = v) (hk : rx_OK V M d (pc + 3) f) : rx_OK V M d pc (o_const v f) := by
  subst hv
  refine rx_pure fun lv st h r h' hf => ?_
  refine ⟨pc + 3, f, lv, _, hk, hf, fun p l e R s m args below meth c hC hE H locs ls cells slots Q hW hF hL kk => ?_⟩
  have h2 := kk ls hL
  rw [List.map_cons, rx_v_el] at h2
  exact lv_ldc2 hC.1 hC.2.1 hC.2.2.2.2.2.1 (hC.2.2.2.2.2.2.1 _ hw) hdg h2
noncomputable def o_bi (g : Int32 → Int32 → Int32) (k : rx_K) : rx_K := fun lv st h => match st with
  | y :: x :: r => bif Nat.beq (y % 8) 0 && Nat.beq (x % 8) 0 then rx_f (rx_ei (g (rx_di x) (rx_di y))) fun v => k lv (v :: r) h else none
  | _ => none
noncomputable def o_bl (g : Int64 → Int64 → Int64) (k : rx_K) : rx_K := fun lv st h => match st with
  | y :: x :: r => bif Nat.beq (y % 8) 1 && Nat.beq (x % 8) 1 then rx_f (rx_el (g (rx_dl x) (rx_dl y))) fun v => k lv (v :: r) h else none
  | _ => none
noncomputable def o_bs (g : Int64 → Int32 → Int64) (k : rx_K) : rx_K := fun lv st h => match st with
  | y :: x :: r => bif Nat.beq (y % 8) 0 && Nat.beq (x % 8) 1 then rx_f (rx_el (g (rx_dl x) (rx_di y))) fun v => k lv (v :: r) h else none
  | _ => none
noncomputable def o_bc (g : Int64 → Int64 → Int32) (k : rx_K) : rx_K := fun lv st h => match st with
  | y :: x :: r => bif Nat.beq (y % 8) 1 && Nat.beq (x % 8) 1 then rx_f (rx_ei (g (rx_dl x) (rx_dl y))) fun v => k lv (v :: r) h else none
  | _ => none
noncomputable def o_ui (g : Int32 → Int32) (k : rx_K) : rx_K := fun lv st h => match st with
  | x :: r => bif Nat.beq (x % 8) 0 then rx_f (rx_ei (g (rx_di x))) fun v => k lv (v :: r) h else none
  | _ => none
noncomputable def o_il (g : Int32 → Int64) (k : rx_K) : rx_K := fun lv st h => match st with
  | x :: r => bif Nat.beq (x % 8) 0 then rx_f (rx_el (g (rx_di x))) fun v => k lv (v :: r) h else none
  | _ => none
noncomputable def o_ul (g : Int64 → Int64) (k : rx_K) : rx_K := fun lv st h => match st with
  | x :: r => bif Nat.beq (x % 8) 1 then rx_f (rx_el (g (rx_dl x))) fun v => k lv (v :: r) h else none
  | _ => none
noncomputable def o_li (g : Int64 → Int32) (k : rx_K) : rx_K := fun lv st h => match st with
  | x :: r => bif Nat.beq (x % 8) 1 then rx_f (rx_ei (g (rx_dl x))) fun v => k lv (v :: r) h else none
  | _ => none
theorem s_iadd (hdg : decode M.2.1 pc = .ok (.iadd, 1)) (hk : rx_OK V M d (pc + 1) f) : rx_OK V M d pc (o_bi (fun x y => x + y) f) := by
  refine rx_pure fun lv st h r h' hf => ?_
  match st, hf with
  | [], hf => cases hf
  | [_], hf => cases hf
  | y :: x :: st, hf =>
  simp only [o_bi, rx_f_eq] at hf
  obtain ⟨hc, hf⟩ := rx_bifn hf
  obtain ⟨hy, hx⟩ := Bool.and_eq_true_iff.mp hc
  refine ⟨pc + 1, f, lv, _, hk, hf, fun p l e R s m args below meth c hC hE H locs ls cells slots Q hW hF hL kk => ?_⟩
  have h2 := kk ls hL
  rw [List.map_cons, rx_v_ei] at h2
  rw [List.map_cons, List.map_cons, rx_v_0 (rx_beq hy), rx_v_0 (rx_beq hx)]
  exact lv_iadd hC.1 hC.2.1 hdg h2
theorem s_isub (hdg : decode M.2.1 pc = .ok (.isub, 1)) (hk : rx_OK V M d (pc + 1) f) : rx_OK V M d pc (o_bi (fun x y => x - y) f) := by
  refine rx_pure fun lv st h r h' hf => ?_
  match st, hf with
  | [], hf => cases hf
  | [_], hf => cases hf
  | y :: x :: st, hf =>
  simp only [o_bi, rx_f_eq] at hf
  obtain ⟨hc, hf⟩ := rx_bifn hf
  obtain ⟨hy, hx⟩ := Bool.and_eq_true_iff.mp hc
  refine ⟨pc + 1, f, lv, _, hk, hf, fun p l e R s m args below meth c hC hE H locs ls cells slots Q hW hF hL kk => ?_⟩
  have h2 := kk ls hL
  rw [List.map_cons, rx_v_ei] at h2
  rw [List.map_cons, List.map_cons, rx_v_0 (rx_beq hy), rx_v_0 (rx_beq hx)]
  exact lv_isub hC.1 hC.2.1 hdg h2
theorem s_imul (hdg : decode M.2.1 pc = .ok (.imul, 1)) (hk : rx_OK V M d (pc + 1) f) : rx_OK V M d pc (o_bi (fun x y => x * y) f) := by
  refine rx_pure fun lv st h r h' hf => ?_
  match st, hf with
  | [], hf => cases hf
  | [_], hf => cases hf
  | y :: x :: st, hf =>
  simp only [o_bi, rx_f_eq] at hf
  obtain ⟨hc, hf⟩ := rx_bifn hf
  obtain ⟨hy, hx⟩ := Bool.and_eq_true_iff.mp hc
  refine ⟨pc + 1, f, lv, _, hk, hf, fun p l e R s m args below meth c hC hE H locs ls cells slots Q hW hF hL kk => ?_⟩
  have h2 := kk ls hL
  rw [List.map_cons, rx_v_ei] at h2
  rw [List.map_cons, List.map_cons, rx_v_0 (rx_beq hy), rx_v_0 (rx_beq hx)]
  exact lv_imul hC.1 hC.2.1 hdg h2
theorem s_iand (hdg : decode M.2.1 pc = .ok (.iand, 1)) (hk : rx_OK V M d (pc + 1) f) : rx_OK V M d pc (o_bi (fun x y => x &&& y) f) := by
  refine rx_pure fun lv st h r h' hf => ?_
  match st, hf with
  | [], hf => cases hf
  | [_], hf => cases hf
  | y :: x :: st, hf =>
  simp only [o_bi, rx_f_eq] at hf
  obtain ⟨hc, hf⟩ := rx_bifn hf
  obtain ⟨hy, hx⟩ := Bool.and_eq_true_iff.mp hc
  refine ⟨pc + 1, f, lv, _, hk, hf, fun p l e R s m args below meth c hC hE H locs ls cells slots Q hW hF hL kk => ?_⟩
  have h2 := kk ls hL
  rw [List.map_cons, rx_v_ei] at h2
  rw [List.map_cons, List.map_cons, rx_v_0 (rx_beq hy), rx_v_0 (rx_beq hx)]
  exact lv_iand hC.1 hC.2.1 hdg h2
theorem s_ior (hdg : decode M.2.1 pc = .ok (.ior, 1)) (hk : rx_OK V M d (pc + 1) f) : rx_OK V M d pc (o_bi (fun x y => x ||| y) f) := by
  refine rx_pure fun lv st h r h' hf => ?_
  match st, hf with
  | [], hf => cases hf
  | [_], hf => cases hf
  | y :: x :: st, hf =>
  simp only [o_bi, rx_f_eq] at hf
  obtain ⟨hc, hf⟩ := rx_bifn hf
  obtain ⟨hy, hx⟩ := Bool.and_eq_true_iff.mp hc
  refine ⟨pc + 1, f, lv, _, hk, hf, fun p l e R s m args below meth c hC hE H locs ls cells slots Q hW hF hL kk => ?_⟩
  have h2 := kk ls hL
  rw [List.map_cons, rx_v_ei] at h2
  rw [List.map_cons, List.map_cons, rx_v_0 (rx_beq hy), rx_v_0 (rx_beq hx)]
  exact lv_ior hC.1 hC.2.1 hdg h2
theorem s_ixor (hdg : decode M.2.1 pc = .ok (.ixor, 1)) (hk : rx_OK V M d (pc + 1) f) : rx_OK V M d pc (o_bi (fun x y => x ^^^ y) f) := by
  refine rx_pure fun lv st h r h' hf => ?_
  match st, hf with
  | [], hf => cases hf
  | [_], hf => cases hf
  | y :: x :: st, hf =>
  simp only [o_bi, rx_f_eq] at hf
  obtain ⟨hc, hf⟩ := rx_bifn hf
  obtain ⟨hy, hx⟩ := Bool.and_eq_true_iff.mp hc
  refine ⟨pc + 1, f, lv, _, hk, hf, fun p l e R s m args below meth c hC hE H locs ls cells slots Q hW hF hL kk => ?_⟩
  have h2 := kk ls hL
  rw [List.map_cons, rx_v_ei] at h2
  rw [List.map_cons, List.map_cons, rx_v_0 (rx_beq hy), rx_v_0 (rx_beq hx)]
  exact lv_ixor hC.1 hC.2.1 hdg h2
theorem s_ishl (hdg : decode M.2.1 pc = .ok (.ishl, 1)) (hk : rx_OK V M d (pc + 1) f) : rx_OK V M d pc (o_bi (fun x y => x <<< (y &&& 31)) f) := by
  refine rx_pure fun lv st h r h' hf => ?_
  match st, hf with
  | [], hf => cases hf
  | [_], hf => cases hf
  | y :: x :: st, hf =>
  simp only [o_bi, rx_f_eq] at hf
  obtain ⟨hc, hf⟩ := rx_bifn hf
  obtain ⟨hy, hx⟩ := Bool.and_eq_true_iff.mp hc
  refine ⟨pc + 1, f, lv, _, hk, hf, fun p l e R s m args below meth c hC hE H locs ls cells slots Q hW hF hL kk => ?_⟩
  have h2 := kk ls hL
  rw [List.map_cons, rx_v_ei] at h2
  rw [List.map_cons, List.map_cons, rx_v_0 (rx_beq hy), rx_v_0 (rx_beq hx)]
  exact lv_ishl hC.1 hC.2.1 hdg h2
theorem s_ishr (hdg : decode M.2.1 pc = .ok (.ishr, 1)) (hk : rx_OK V M d (pc + 1) f) : rx_OK V M d pc (o_bi (fun x y => x >>> (y &&& 31)) f) := by
  refine rx_pure fun lv st h r h' hf => ?_
  match st, hf with
  | [], hf => cases hf
  | [_], hf => cases hf
  | y :: x :: st, hf =>
  simp only [o_bi, rx_f_eq] at hf
  obtain ⟨hc, hf⟩ := rx_bifn hf
  obtain ⟨hy, hx⟩ := Bool.and_eq_true_iff.mp hc
  refine ⟨pc + 1, f, lv, _, hk, hf, fun p l e R s m args below meth c hC hE H locs ls cells slots Q hW hF hL kk => ?_⟩
  have h2 := kk ls hL
  rw [List.map_cons, rx_v_ei] at h2
  rw [List.map_cons, List.map_cons, rx_v_0 (rx_beq hy), rx_v_0 (rx_beq hx)]
  exact lv_ishr hC.1 hC.2.1 hdg h2
theorem s_iushr (hdg : decode M.2.1 pc = .ok (.iushr, 1)) (hk : rx_OK V M d (pc + 1) f) : rx_OK V M d pc (o_bi (fun x y => (x.toUInt32 >>> (y.toUInt32 &&& Int32.toUInt32 31)).toInt32) f) := by
  refine rx_pure fun lv st h r h' hf => ?_
  match st, hf with
  | [], hf => cases hf
  | [_], hf => cases hf
  | y :: x :: st, hf =>
  simp only [o_bi, rx_f_eq] at hf
  obtain ⟨hc, hf⟩ := rx_bifn hf
  obtain ⟨hy, hx⟩ := Bool.and_eq_true_iff.mp hc
  refine ⟨pc + 1, f, lv, _, hk, hf, fun p l e R s m args below meth c hC hE H locs ls cells slots Q hW hF hL kk => ?_⟩
  have h2 := kk ls hL
  rw [List.map_cons, rx_v_ei] at h2
  rw [List.map_cons, List.map_cons, rx_v_0 (rx_beq hy), rx_v_0 (rx_beq hx)]
  exact lv_iushr hC.1 hC.2.1 hdg rfl h2
theorem s_ladd (hdg : decode M.2.1 pc = .ok (.ladd, 1)) (hk : rx_OK V M d (pc + 1) f) : rx_OK V M d pc (o_bl (fun x y => x + y) f) := by
  refine rx_pure fun lv st h r h' hf => ?_
  match st, hf with
  | [], hf => cases hf
  | [_], hf => cases hf
  | y :: x :: st, hf =>
  simp only [o_bl, rx_f_eq] at hf
  obtain ⟨hc, hf⟩ := rx_bifn hf
  obtain ⟨hy, hx⟩ := Bool.and_eq_true_iff.mp hc
  refine ⟨pc + 1, f, lv, _, hk, hf, fun p l e R s m args below meth c hC hE H locs ls cells slots Q hW hF hL kk => ?_⟩
  have h2 := kk ls hL
  rw [List.map_cons, rx_v_el] at h2
  rw [List.map_cons, List.map_cons, rx_v_1 (rx_beq hy), rx_v_1 (rx_beq hx)]
  exact lv_ladd hC.1 hC.2.1 hdg h2
theorem s_lsub (hdg : decode M.2.1 pc = .ok (.lsub, 1)) (hk : rx_OK V M d (pc + 1) f) : rx_OK V M d pc (o_bl (fun x y => x - y) f) := by
  refine rx_pure fun lv st h r h' hf => ?_
  match st, hf with
  | [], hf => cases hf
  | [_], hf => cases hf
  | y :: x :: st, hf =>
  simp only [o_bl, rx_f_eq] at hf
  obtain ⟨hc, hf⟩ := rx_bifn hf
  obtain ⟨hy, hx⟩ := Bool.and_eq_true_iff.mp hc
  refine ⟨pc + 1, f, lv, _, hk, hf, fun p l e R s m args below meth c hC hE H locs ls cells slots Q hW hF hL kk => ?_⟩
  have h2 := kk ls hL
  rw [List.map_cons, rx_v_el] at h2
  rw [List.map_cons, List.map_cons, rx_v_1 (rx_beq hy), rx_v_1 (rx_beq hx)]
  exact lv_lsub hC.1 hC.2.1 hdg h2
theorem s_lmul (hdg : decode M.2.1 pc = .ok (.lmul, 1)) (hk : rx_OK V M d (pc + 1) f) : rx_OK V M d pc (o_bl (fun x y => x * y) f) := by
  refine rx_pure fun lv st h r h' hf => ?_
  match st, hf with
  | [], hf => cases hf
  | [_], hf => cases hf
  | y :: x :: st, hf =>
  simp only [o_bl, rx_f_eq] at hf
  obtain ⟨hc, hf⟩ := rx_bifn hf
  obtain ⟨hy, hx⟩ := Bool.and_eq_true_iff.mp hc
  refine ⟨pc + 1, f, lv, _, hk, hf, fun p l e R s m args below meth c hC hE H locs ls cells slots Q hW hF hL kk => ?_⟩
  have h2 := kk ls hL
  rw [List.map_cons, rx_v_el] at h2
  rw [List.map_cons, List.map_cons, rx_v_1 (rx_beq hy), rx_v_1 (rx_beq hx)]
  exact lv_lmul hC.1 hC.2.1 hdg h2
theorem s_land (hdg : decode M.2.1 pc = .ok (.land, 1)) (hk : rx_OK V M d (pc + 1) f) : rx_OK V M d pc (o_bl (fun x y => x &&& y) f) := by
  refine rx_pure fun lv st h r h' hf => ?_
  match st, hf with
  | [], hf => cases hf
  | [_], hf => cases hf
  | y :: x :: st, hf =>
  simp only [o_bl, rx_f_eq] at hf
  obtain ⟨hc, hf⟩ := rx_bifn hf
  obtain ⟨hy, hx⟩ := Bool.and_eq_true_iff.mp hc
  refine ⟨pc + 1, f, lv, _, hk, hf, fun p l e R s m args below meth c hC hE H locs ls cells slots Q hW hF hL kk => ?_⟩
  have h2 := kk ls hL
  rw [List.map_cons, rx_v_el] at h2
  rw [List.map_cons, List.map_cons, rx_v_1 (rx_beq hy), rx_v_1 (rx_beq hx)]
  exact lv_land hC.1 hC.2.1 hdg h2
theorem s_lor (hdg : decode M.2.1 pc = .ok (.lor, 1)) (hk : rx_OK V M d (pc + 1) f) : rx_OK V M d pc (o_bl (fun x y => x ||| y) f) := by
  refine rx_pure fun lv st h r h' hf => ?_
  match st, hf with
  | [], hf => cases hf
  | [_], hf => cases hf
  | y :: x :: st, hf =>
  simp only [o_bl, rx_f_eq] at hf
  obtain ⟨hc, hf⟩ := rx_bifn hf
  obtain ⟨hy, hx⟩ := Bool.and_eq_true_iff.mp hc
  refine ⟨pc + 1, f, lv, _, hk, hf, fun p l e R s m args below meth c hC hE H locs ls cells slots Q hW hF hL kk => ?_⟩
  have h2 := kk ls hL
  rw [List.map_cons, rx_v_el] at h2
  rw [List.map_cons, List.map_cons, rx_v_1 (rx_beq hy), rx_v_1 (rx_beq hx)]
  exact lv_lor hC.1 hC.2.1 hdg h2
theorem s_lxor (hdg : decode M.2.1 pc = .ok (.lxor, 1)) (hk : rx_OK V M d (pc + 1) f) : rx_OK V M d pc (o_bl (fun x y => x ^^^ y) f) := by
  refine rx_pure fun lv st h r h' hf => ?_
  match st, hf with
  | [], hf => cases hf
  | [_], hf => cases hf
  | y :: x :: st, hf =>
  simp only [o_bl, rx_f_eq] at hf
  obtain ⟨hc, hf⟩ := rx_bifn hf
  obtain ⟨hy, hx⟩ := Bool.and_eq_true_iff.mp hc
  refine ⟨pc + 1, f, lv, _, hk, hf, fun p l e R s m args below meth c hC hE H locs ls cells slots Q hW hF hL kk => ?_⟩
  have h2 := kk ls hL
  rw [List.map_cons, rx_v_el] at h2
  rw [List.map_cons, List.map_cons, rx_v_1 (rx_beq hy), rx_v_1 (rx_beq hx)]
  exact lv_lxor hC.1 hC.2.1 hdg h2
theorem s_lshl (hdg : decode M.2.1 pc = .ok (.lshl, 1)) (hk : rx_OK V M d (pc + 1) f) : rx_OK V M d pc (o_bs (fun x y => x <<< (y.toInt64 &&& 63)) f) := by
  refine rx_pure fun lv st h r h' hf => ?_
  match st, hf with
  | [], hf => cases hf
  | [_], hf => cases hf
  | y :: x :: st, hf =>
  simp only [o_bs, rx_f_eq] at hf
  obtain ⟨hc, hf⟩ := rx_bifn hf
  obtain ⟨hy, hx⟩ := Bool.and_eq_true_iff.mp hc
  refine ⟨pc + 1, f, lv, _, hk, hf, fun p l e R s m args below meth c hC hE H locs ls cells slots Q hW hF hL kk => ?_⟩
  have h2 := kk ls hL
  rw [List.map_cons, rx_v_el] at h2
  rw [List.map_cons, List.map_cons, rx_v_0 (rx_beq hy), rx_v_1 (rx_beq hx)]
  exact lv_lshl hC.1 hC.2.1 hdg rfl h2
theorem s_lshr (hdg : decode M.2.1 pc = .ok (.lshr, 1)) (hk : rx_OK V M d (pc + 1) f) : rx_OK V M d pc (o_bs (fun x y => x >>> (y.toInt64 &&& 63)) f) := by
  refine rx_pure fun lv st h r h' hf => ?_
  match st, hf with
  | [], hf => cases hf
  | [_], hf => cases hf
  | y :: x :: st, hf =>
  simp only [o_bs, rx_f_eq] at hf
  obtain ⟨hc, hf⟩ := rx_bifn hf
  obtain ⟨hy, hx⟩ := Bool.and_eq_true_iff.mp hc
  refine ⟨pc + 1, f, lv, _, hk, hf, fun p l e R s m args below meth c hC hE H locs ls cells slots Q hW hF hL kk => ?_⟩
  have h2 := kk ls hL
  rw [List.map_cons, rx_v_el] at h2
  rw [List.map_cons, List.map_cons, rx_v_0 (rx_beq hy), rx_v_1 (rx_beq hx)]
  exact lv_lshr hC.1 hC.2.1 hdg rfl h2
theorem s_lushr (hdg : decode M.2.1 pc = .ok (.lushr, 1)) (hk : rx_OK V M d (pc + 1) f) : rx_OK V M d pc (o_bs (fun x y => (x.toUInt64 >>> (y.toInt64.toUInt64 &&& Int64.toUInt64 63)).toInt64) f) := by
  refine rx_pure fun lv st h r h' hf => ?_
  match st, hf with
  | [], hf => cases hf
  | [_], hf => cases hf
  | y :: x :: st, hf =>
  simp only [o_bs, rx_f_eq] at hf
  obtain ⟨hc, hf⟩ := rx_bifn hf
  obtain ⟨hy, hx⟩ := Bool.and_eq_true_iff.mp hc
  refine ⟨pc + 1, f, lv, _, hk, hf, fun p l e R s m args below meth c hC hE H locs ls cells slots Q hW hF hL kk => ?_⟩
  have h2 := kk ls hL
  rw [List.map_cons, rx_v_el] at h2
  rw [List.map_cons, List.map_cons, rx_v_0 (rx_beq hy), rx_v_1 (rx_beq hx)]
  exact lv_lushr hC.1 hC.2.1 hdg rfl h2
theorem s_lcmp (hdg : decode M.2.1 pc = .ok (.lcmp, 1)) (hk : rx_OK V M d (pc + 1) f) : rx_OK V M d pc (o_bc (fun x y => lg_cmp x y) f) := by
  refine rx_pure fun lv st h r h' hf => ?_
  match st, hf with
  | [], hf => cases hf
  | [_], hf => cases hf
  | y :: x :: st, hf =>
  simp only [o_bc, rx_f_eq] at hf
  obtain ⟨hc, hf⟩ := rx_bifn hf
  obtain ⟨hy, hx⟩ := Bool.and_eq_true_iff.mp hc
  refine ⟨pc + 1, f, lv, _, hk, hf, fun p l e R s m args below meth c hC hE H locs ls cells slots Q hW hF hL kk => ?_⟩
  have h2 := kk ls hL
  rw [List.map_cons, rx_v_ei] at h2
  rw [List.map_cons, List.map_cons, rx_v_1 (rx_beq hy), rx_v_1 (rx_beq hx)]
  exact W.lcmp hC.1 hC.2.1 hdg h2
theorem s_ineg (hdg : decode M.2.1 pc = .ok (.ineg, 1)) (hk : rx_OK V M d (pc + 1) f) : rx_OK V M d pc (o_ui (fun x => -x) f) := by
  refine rx_pure fun lv st h r h' hf => ?_
  match st, hf with
  | [], hf => cases hf
  | x :: st, hf =>
  simp only [o_ui, rx_f_eq] at hf
  obtain ⟨hc, hf⟩ := rx_bifn hf
  refine ⟨pc + 1, f, lv, _, hk, hf, fun p l e R s m args below meth c hC hE H locs ls cells slots Q hW hF hL kk => ?_⟩
  have h2 := kk ls hL
  rw [List.map_cons, rx_v_ei] at h2
  rw [List.map_cons, rx_v_0 (rx_beq hc)]
  exact lv_ineg hC.1 hC.2.1 hdg h2
theorem s_i2b (hdg : decode M.2.1 pc = .ok (.i2b, 1)) (hk : rx_OK V M d (pc + 1) f) : rx_OK V M d pc (o_ui (fun x => x.toInt8.toInt32) f) := by
  refine rx_pure fun lv st h r h' hf => ?_
  match st, hf with
  | [], hf => cases hf
  | x :: st, hf =>
  simp only [o_ui, rx_f_eq] at hf
  obtain ⟨hc, hf⟩ := rx_bifn hf
  refine ⟨pc + 1, f, lv, _, hk, hf, fun p l e R s m args below meth c hC hE H locs ls cells slots Q hW hF hL kk => ?_⟩
  have h2 := kk ls hL
  rw [List.map_cons, rx_v_ei] at h2
  rw [List.map_cons, rx_v_0 (rx_beq hc)]
  exact lv_i2b hC.1 hC.2.1 hdg rfl h2
theorem s_i2c (hdg : decode M.2.1 pc = .ok (.i2c, 1)) (hk : rx_OK V M d (pc + 1) f) : rx_OK V M d pc (o_ui (fun x => (x.toUInt32 % 65536).toInt32) f) := by
  refine rx_pure fun lv st h r h' hf => ?_
  match st, hf with
  | [], hf => cases hf
  | x :: st, hf =>
  simp only [o_ui, rx_f_eq] at hf
  obtain ⟨hc, hf⟩ := rx_bifn hf
  refine ⟨pc + 1, f, lv, _, hk, hf, fun p l e R s m args below meth c hC hE H locs ls cells slots Q hW hF hL kk => ?_⟩
  have h2 := kk ls hL
  rw [List.map_cons, rx_v_ei] at h2
  rw [List.map_cons, rx_v_0 (rx_beq hc)]
  exact lv_i2c hC.1 hC.2.1 hdg rfl h2
theorem s_i2s (hdg : decode M.2.1 pc = .ok (.i2s, 1)) (hk : rx_OK V M d (pc + 1) f) : rx_OK V M d pc (o_ui (fun x => x.toInt16.toInt32) f) := by
  refine rx_pure fun lv st h r h' hf => ?_
  match st, hf with
  | [], hf => cases hf
  | x :: st, hf =>
  simp only [o_ui, rx_f_eq] at hf
  obtain ⟨hc, hf⟩ := rx_bifn hf
  refine ⟨pc + 1, f, lv, _, hk, hf, fun p l e R s m args below meth c hC hE H locs ls cells slots Q hW hF hL kk => ?_⟩
  have h2 := kk ls hL
  rw [List.map_cons, rx_v_ei] at h2
  rw [List.map_cons, rx_v_0 (rx_beq hc)]
  exact lv_i2s hC.1 hC.2.1 hdg rfl h2
theorem s_i2l (hdg : decode M.2.1 pc = .ok (.i2l, 1)) (hk : rx_OK V M d (pc + 1) f) : rx_OK V M d pc (o_il (fun x => x.toInt64) f) := by
  refine rx_pure fun lv st h r h' hf => ?_
  match st, hf with
  | [], hf => cases hf
  | x :: st, hf =>
  simp only [o_il, rx_f_eq] at hf
  obtain ⟨hc, hf⟩ := rx_bifn hf
  refine ⟨pc + 1, f, lv, _, hk, hf, fun p l e R s m args below meth c hC hE H locs ls cells slots Q hW hF hL kk => ?_⟩
  have h2 := kk ls hL
  rw [List.map_cons, rx_v_el] at h2
  rw [List.map_cons, rx_v_0 (rx_beq hc)]
  exact lv_i2l hC.1 hC.2.1 hdg rfl h2
theorem s_lneg (hdg : decode M.2.1 pc = .ok (.lneg, 1)) (hk : rx_OK V M d (pc + 1) f) : rx_OK V M d pc (o_ul (fun x => -x) f) := by
  refine rx_pure fun lv st h r h' hf => ?_
  match st, hf with
  | [], hf => cases hf
  | x :: st, hf =>
  simp only [o_ul, rx_f_eq] at hf
  obtain ⟨hc, hf⟩ := rx_bifn hf
  refine ⟨pc + 1, f, lv, _, hk, hf, fun p l e R s m args below meth c hC hE H locs ls cells slots Q hW hF hL kk => ?_⟩
  have h2 := kk ls hL
  rw [List.map_cons, rx_v_el] at h2
  rw [List.map_cons, rx_v_1 (rx_beq hc)]
  exact lv_lneg hC.1 hC.2.1 hdg h2
theorem s_l2i (hdg : decode M.2.1 pc = .ok (.l2i, 1)) (hk : rx_OK V M d (pc + 1) f) : rx_OK V M d pc (o_li (fun x => x.toInt32) f) := by
  refine rx_pure fun lv st h r h' hf => ?_
  match st, hf with
  | [], hf => cases hf
  | x :: st, hf =>
  simp only [o_li, rx_f_eq] at hf
  obtain ⟨hc, hf⟩ := rx_bifn hf
  refine ⟨pc + 1, f, lv, _, hk, hf, fun p l e R s m args below meth c hC hE H locs ls cells slots Q hW hF hL kk => ?_⟩
  have h2 := kk ls hL
  rw [List.map_cons, rx_v_ei] at h2
  rw [List.map_cons, rx_v_1 (rx_beq hc)]
  exact lv_l2i hC.1 hC.2.1 hdg rfl h2
-- >>> of a whole number from outside by a constant; then (byte), or & 255
noncomputable def o_iushrX (k : rx_K) : rx_K := fun lv st h => match st with
  | y :: x :: r => bif Nat.beq (x % 8) 4 && Nat.blt (x / 8) 5 then (bif Nat.beq (y % 8) 0 && Nat.blt (y / 8) 32 then rx_f (8 * (x / 8 + 5 * (y / 8)) + 5) fun v => k lv (v :: r) h else none) else o_bi (fun x y => (x.toUInt32 >>> (y.toUInt32 &&& Int32.toUInt32 31)).toInt32) k lv st h
  | _ => none
noncomputable def o_i2bX (k : rx_K) : rx_K := fun lv st h => match st with
  | x :: r => bif Nat.beq (x % 8) 5 && Nat.blt (x / 8) 160 then rx_f (x + 8 * 160) fun v => k lv (v :: r) h else o_ui (fun x => x.toInt8.toInt32) k lv st h
  | _ => none
noncomputable def o_iandX (k : rx_K) : rx_K := fun lv st h => match st with
  | y :: x :: r => bif Nat.beq y 2040 && (Nat.beq (x % 8) 5 && Nat.blt (x / 8) 160) then rx_f (x + 16 * 160) fun v => k lv (v :: r) h else o_bi (fun x y => x &&& y) k lv st h
  | _ => none
theorem s_iushrX (hV : rx_Ok V) (hdg : decode M.2.1 pc = .ok (.iushr, 1)) (hk : rx_OK V M d (pc + 1) f) : rx_OK V M d pc (o_iushrX f) := by
  refine rx_pure fun lv st h r h' hf => ?_
  match st, hf with
  | [], hf => cases hf
  | [_], hf => cases hf
  | y :: x :: st, hf =>
  simp only [o_iushrX, o_bi, rx_f_eq] at hf
  rcases rx_bif hf with ⟨hc, hf⟩ | ⟨-, hf⟩
  · obtain ⟨hx, hx5⟩ := Bool.and_eq_true_iff.mp hc
    obtain ⟨hd, hf⟩ := rx_bifn hf
    obtain ⟨hy, hy5⟩ := Bool.and_eq_true_iff.mp hd
    have h5 : x / 8 < 5 := Nat.le_of_ble_eq_true hx5
    have h32 : y / 8 < 32 := Nat.le_of_ble_eq_true hy5
    refine ⟨pc + 1, f, lv, _, hk, hf, fun p l e R s m args below meth c hC hE H locs ls cells slots Q hW hF hL kk => ?_⟩
    have h2 := kk ls hL
    obtain ⟨X, eX⟩ := hV.1 _ h5
    rw [List.map_cons, rx_v_5 (by omega), show (8 * (x / 8 + 5 * (y / 8)) + 5) / 8 = x / 8 + 5 * (y / 8) by omega] at h2
    have e1 : (x / 8 + 5 * (y / 8)) % 5 = x / 8 := by omega
    have e2 : (x / 8 + 5 * (y / 8)) / 5 % 32 = y / 8 := by omega
    have e3 : (x / 8 + 5 * (y / 8)) / 160 = 0 := by omega
    unfold rx_x at h2
    rw [e1, e2, if_pos e3, eX] at h2
    rw [List.map_cons, List.map_cons, rx_v_0 (rx_beq hy), rx_v_4 (rx_beq hx), eX]
    exact lv_iushr hC.1 hC.2.1 hdg rfl h2
  · obtain ⟨hc, hf⟩ := rx_bifn hf
    obtain ⟨hy, hx⟩ := Bool.and_eq_true_iff.mp hc
    refine ⟨pc + 1, f, lv, _, hk, hf, fun p l e R s m args below meth c hC hE H locs ls cells slots Q hW hF hL kk => ?_⟩
    have h2 := kk ls hL
    rw [List.map_cons, rx_v_ei] at h2
    rw [List.map_cons, List.map_cons, rx_v_0 (rx_beq hy), rx_v_0 (rx_beq hx)]
    exact lv_iushr hC.1 hC.2.1 hdg rfl h2
theorem s_i2bX (hdg : decode M.2.1 pc = .ok (.i2b, 1)) (hk : rx_OK V M d (pc + 1) f) : rx_OK V M d pc (o_i2bX f) := by
  refine rx_pure fun lv st h r h' hf => ?_
  match st, hf with
  | [], hf => cases hf
  | x :: st, hf =>
  simp only [o_i2bX, o_ui, rx_f_eq] at hf
  rcases rx_bif hf with ⟨hc, hf⟩ | ⟨-, hf⟩
  · obtain ⟨hx, hx5⟩ := Bool.and_eq_true_iff.mp hc
    have h5 : x / 8 < 160 := Nat.le_of_ble_eq_true hx5
    have e5 := rx_beq hx
    refine ⟨pc + 1, f, lv, _, hk, hf, fun p l e R s m args below meth c hC hE H locs ls cells slots Q hW hF hL kk => ?_⟩
    have h2 := kk ls hL
    rw [List.map_cons, rx_v_5 (by omega), show (x + 8 * 160) / 8 = x / 8 + 160 by omega] at h2
    unfold rx_x at h2
    rw [show (x / 8 + 160) % 5 = x / 8 % 5 by omega, show (x / 8 + 160) / 5 % 32 = x / 8 / 5 % 32 by omega, if_neg (by omega), if_pos (by omega)] at h2
    rw [List.map_cons, rx_v_5 e5]
    unfold rx_x
    rw [if_pos (by omega)]
    exact lv_i2b hC.1 hC.2.1 hdg rfl h2
  · obtain ⟨hc, hf⟩ := rx_bifn hf
    refine ⟨pc + 1, f, lv, _, hk, hf, fun p l e R s m args below meth c hC hE H locs ls cells slots Q hW hF hL kk => ?_⟩
    have h2 := kk ls hL
    rw [List.map_cons, rx_v_ei] at h2
    rw [List.map_cons, rx_v_0 (rx_beq hc)]
    exact lv_i2b hC.1 hC.2.1 hdg rfl h2
theorem s_iandX (hdg : decode M.2.1 pc = .ok (.iand, 1)) (hk : rx_OK V M d (pc + 1) f) : rx_OK V M d pc (o_iandX f) := by
  refine rx_pure fun lv st h r h' hf => ?_
  match st, hf with
  | [], hf => cases hf
  | [_], hf => cases hf
  | y :: x :: st, hf =>
  simp only [o_iandX, o_bi, rx_f_eq] at hf
  rcases rx_bif hf with ⟨hc, hf⟩ | ⟨-, hf⟩
  · obtain ⟨hy, hx⟩ := Bool.and_eq_true_iff.mp hc
    obtain ⟨hx, hx5⟩ := Bool.and_eq_true_iff.mp hx
    have h5 : x / 8 < 160 := Nat.le_of_ble_eq_true hx5
    have e5 := rx_beq hx
    have ey := rx_beq hy
    refine ⟨pc + 1, f, lv, _, hk, hf, fun p l e R s m args below meth c hC hE H locs ls cells slots Q hW hF hL kk => ?_⟩
    have h2 := kk ls hL
    rw [List.map_cons, rx_v_5 (by omega), show (x + 16 * 160) / 8 = x / 8 + 320 by omega] at h2
    unfold rx_x at h2
    rw [show (x / 8 + 320) % 5 = x / 8 % 5 by omega, show (x / 8 + 320) / 5 % 32 = x / 8 / 5 % 32 by omega, if_neg (by omega), if_neg (by omega)] at h2
    rw [List.map_cons, List.map_cons, ey, rx_v_5 e5, rx_v_0 (c := 2040) rfl]
    unfold rx_x
    rw [if_pos (by omega)]
    exact lv_iand hC.1 hC.2.1 hdg h2
  · obtain ⟨hc, hf⟩ := rx_bifn hf
    obtain ⟨hy, hx⟩ := Bool.and_eq_true_iff.mp hc
    refine ⟨pc + 1, f, lv, _, hk, hf, fun p l e R s m args below meth c hC hE H locs ls cells slots Q hW hF hL kk => ?_⟩
    have h2 := kk ls hL
    rw [List.map_cons, rx_v_ei] at h2
    rw [List.map_cons, List.map_cons, rx_v_0 (rx_beq hy), rx_v_0 (rx_beq hx)]
    exact lv_iand hC.1 hC.2.1 hdg h2
end RX13
end
section
section RX14
variable {V : rx_V} {M : rx_M} {d pc : Nat} {f t : rx_K}
noncomputable def o_dup (k : rx_K) : rx_K := fun lv st h => match st with
  | v :: r => bif Nat.beq (rx_ct v) 1 then k lv (v :: v :: r) h else none
  | _ => none
noncomputable def o_pop (k : rx_K) : rx_K := fun lv st h => match st with
  | v :: r => bif Nat.beq (rx_ct v) 1 then k lv r h else none
  | _ => none
noncomputable def o_pop2 (k : rx_K) : rx_K := fun lv st h => match st with
  | v :: r => bif Nat.beq (rx_ct v) 2 then k lv r h else none
  | _ => none
noncomputable def o_dupx1 (k : rx_K) : rx_K := fun lv st h => match st with
  | v :: u :: r => bif Nat.beq (rx_ct v) 1 && Nat.beq (rx_ct u) 1 then k lv (v :: u :: v :: r) h else none
  | _ => none
noncomputable def o_dupx2 (k : rx_K) : rx_K := fun lv st h => match st with
  | v :: u :: q :: r => bif Nat.beq (rx_ct v) 1 && (Nat.beq (rx_ct u) 1 && Nat.beq (rx_ct q) 1) then k lv (v :: u :: q :: v :: r) h else none
  | _ => none
noncomputable def o_dup2 (k : rx_K) : rx_K := fun lv st h => match st with
  | v :: u :: r => bif Nat.beq (rx_ct v) 1 && Nat.beq (rx_ct u) 1 then k lv (v :: u :: v :: u :: r) h else none
  | _ => none
noncomputable def o_dup2L (k : rx_K) : rx_K := fun lv st h => match st with
  | v :: r => bif Nat.beq (rx_ct v) 2 then k lv (v :: v :: r) h else none
  | _ => none
noncomputable def o_dup2x1L (k : rx_K) : rx_K := fun lv st h => match st with
  | v :: u :: r => bif Nat.beq (rx_ct v) 2 && Nat.beq (rx_ct u) 1 then k lv (v :: u :: v :: r) h else none
  | _ => none
noncomputable def o_dup2x2L (k : rx_K) : rx_K := fun lv st h => match st with
  | v :: u :: q :: r => bif Nat.beq (rx_ct v) 2 && (Nat.beq (rx_ct u) 1 && Nat.beq (rx_ct q) 1) then k lv (v :: u :: q :: v :: r) h else none
  | _ => none
theorem s_dup (hV : rx_Ok V) (hdg : decode M.2.1 pc = .ok (.dup, 1)) (hk : rx_OK V M d (pc + 1) f) : rx_OK V M d pc (o_dup f) := by
  refine rx_pure fun lv st h r h' hf => ?_
  match st, hf with
  | [], hf => cases hf
  | v :: st, hf =>
  simp only [o_dup] at hf
  obtain ⟨hc, hf⟩ := rx_bifn hf
  have e1 : (rx_v V v).category = 1 := (rx_v_cat hV v).trans (rx_beq hc)
  refine ⟨pc + 1, f, lv, _, hk, hf, fun p l e R s m args below meth c hC hE H locs ls cells slots Q hW hF hL kk => ?_⟩
  exact lv_dup hC.1 hC.2.1 hdg e1 (kk ls hL)
theorem s_pop (hV : rx_Ok V) (hdg : decode M.2.1 pc = .ok (.pop, 1)) (hk : rx_OK V M d (pc + 1) f) : rx_OK V M d pc (o_pop f) := by
  refine rx_pure fun lv st h r h' hf => ?_
  match st, hf with
  | [], hf => cases hf
  | v :: st, hf =>
  simp only [o_pop] at hf
  obtain ⟨hc, hf⟩ := rx_bifn hf
  have e1 : (rx_v V v).category = 1 := (rx_v_cat hV v).trans (rx_beq hc)
  refine ⟨pc + 1, f, lv, _, hk, hf, fun p l e R s m args below meth c hC hE H locs ls cells slots Q hW hF hL kk => ?_⟩
  exact lv_pop hC.1 hC.2.1 hdg e1 (kk ls hL)
theorem s_pop2L (hV : rx_Ok V) (hdg : decode M.2.1 pc = .ok (.pop2, 1)) (hk : rx_OK V M d (pc + 1) f) : rx_OK V M d pc (o_pop2 f) := by
  refine rx_pure fun lv st h r h' hf => ?_
  match st, hf with
  | [], hf => cases hf
  | v :: st, hf =>
  simp only [o_pop2] at hf
  obtain ⟨hc, hf⟩ := rx_bifn hf
  have e1 : (rx_v V v).category = 2 := (rx_v_cat hV v).trans (rx_beq hc)
  refine ⟨pc + 1, f, lv, _, hk, hf, fun p l e R s m args below meth c hC hE H locs ls cells slots Q hW hF hL kk => ?_⟩
  exact lv_pop2_2 hC.1 hC.2.1 hdg e1 (kk ls hL)
theorem s_dup2L (hV : rx_Ok V) (hdg : decode M.2.1 pc = .ok (.dup2, 1)) (hk : rx_OK V M d (pc + 1) f) : rx_OK V M d pc (o_dup2L f) := by
  refine rx_pure fun lv st h r h' hf => ?_
  match st, hf with
  | [], hf => cases hf
  | v :: st, hf =>
  simp only [o_dup2L] at hf
  obtain ⟨hc, hf⟩ := rx_bifn hf
  have e1 : (rx_v V v).category = 2 := (rx_v_cat hV v).trans (rx_beq hc)
  refine ⟨pc + 1, f, lv, _, hk, hf, fun p l e R s m args below meth c hC hE H locs ls cells slots Q hW hF hL kk => ?_⟩
  exact lv_dup2_2 hC.1 hC.2.1 hdg e1 (kk ls hL)
theorem s_dup_x1 (hV : rx_Ok V) (hdg : decode M.2.1 pc = .ok (.dup_x1, 1)) (hk : rx_OK V M d (pc + 1) f) : rx_OK V M d pc (o_dupx1 f) := by
  refine rx_pure fun lv st h r h' hf => ?_
  match st, hf with
  | [], hf => cases hf
  | [_], hf => cases hf
  | v :: u :: st, hf =>
  simp only [o_dupx1] at hf
  obtain ⟨hc, hf⟩ := rx_bifn hf
  obtain ⟨hc1, hc2⟩ := Bool.and_eq_true_iff.mp hc
  have e1 : (rx_v V v).category = 1 := (rx_v_cat hV v).trans (rx_beq hc1)
  have e2 : (rx_v V u).category = 1 := (rx_v_cat hV u).trans (rx_beq hc2)
  refine ⟨pc + 1, f, lv, _, hk, hf, fun p l e R s m args below meth c hC hE H locs ls cells slots Q hW hF hL kk => ?_⟩
  exact lv_dup_x1 hC.1 hC.2.1 hdg e1 e2 (kk ls hL)
theorem s_dup2 (hV : rx_Ok V) (hdg : decode M.2.1 pc = .ok (.dup2, 1)) (hk : rx_OK V M d (pc + 1) f) : rx_OK V M d pc (o_dup2 f) := by
  refine rx_pure fun lv st h r h' hf => ?_
  match st, hf with
  | [], hf => cases hf
  | [_], hf => cases hf
  | v :: u :: st, hf =>
  simp only [o_dup2] at hf
  obtain ⟨hc, hf⟩ := rx_bifn hf
  obtain ⟨hc1, hc2⟩ := Bool.and_eq_true_iff.mp hc
  have e1 : (rx_v V v).category = 1 := (rx_v_cat hV v).trans (rx_beq hc1)
  have e2 : (rx_v V u).category = 1 := (rx_v_cat hV u).trans (rx_beq hc2)
  refine ⟨pc + 1, f, lv, _, hk, hf, fun p l e R s m args below meth c hC hE H locs ls cells slots Q hW hF hL kk => ?_⟩
  exact lv_dup2_11 hC.1 hC.2.1 hdg e1 e2 (kk ls hL)
theorem s_dup2_x1L (hV : rx_Ok V) (hdg : decode M.2.1 pc = .ok (.dup2_x1, 1)) (hk : rx_OK V M d (pc + 1) f) : rx_OK V M d pc (o_dup2x1L f) := by
  refine rx_pure fun lv st h r h' hf => ?_
  match st, hf with
  | [], hf => cases hf
  | [_], hf => cases hf
  | v :: u :: st, hf =>
  simp only [o_dup2x1L] at hf
  obtain ⟨hc, hf⟩ := rx_bifn hf
  obtain ⟨hc1, hc2⟩ := Bool.and_eq_true_iff.mp hc
  have e1 : (rx_v V v).category = 2 := (rx_v_cat hV v).trans (rx_beq hc1)
  have e2 : (rx_v V u).category = 1 := (rx_v_cat hV u).trans (rx_beq hc2)
  refine ⟨pc + 1, f, lv, _, hk, hf, fun p l e R s m args below meth c hC hE H locs ls cells slots Q hW hF hL kk => ?_⟩
  exact lv_dup2_x1_2 hC.1 hC.2.1 hdg e1 e2 (kk ls hL)
theorem s_dup_x2 (hV : rx_Ok V) (hdg : decode M.2.1 pc = .ok (.dup_x2, 1)) (hk : rx_OK V M d (pc + 1) f) : rx_OK V M d pc (o_dupx2 f) := by
  refine rx_pure fun lv st h r h' hf => ?_
  match st, hf with
  | [], hf => cases hf
  | [_], hf => cases hf
  | [_, _], hf => cases hf
  | v :: u :: q :: st, hf =>
  simp only [o_dupx2] at hf
  obtain ⟨hc, hf⟩ := rx_bifn hf
  obtain ⟨hc1, hc2⟩ := Bool.and_eq_true_iff.mp hc
  obtain ⟨hc2, hc3⟩ := Bool.and_eq_true_iff.mp hc2
  have e1 : (rx_v V v).category = 1 := (rx_v_cat hV v).trans (rx_beq hc1)
  have e2 : (rx_v V u).category = 1 := (rx_v_cat hV u).trans (rx_beq hc2)
  have e3 : (rx_v V q).category = 1 := (rx_v_cat hV q).trans (rx_beq hc3)
  refine ⟨pc + 1, f, lv, _, hk, hf, fun p l e R s m args below meth c hC hE H locs ls cells slots Q hW hF hL kk => ?_⟩
  exact lv_dup_x2 hC.1 hC.2.1 hdg e1 e2 e3 (kk ls hL)
theorem s_dup2_x2L (hV : rx_Ok V) (hdg : decode M.2.1 pc = .ok (.dup2_x2, 1)) (hk : rx_OK V M d (pc + 1) f) : rx_OK V M d pc (o_dup2x2L f) := by
  refine rx_pure fun lv st h r h' hf => ?_
  match st, hf with
  | [], hf => cases hf
  | [_], hf => cases hf
  | [_, _], hf => cases hf
  | v :: u :: q :: st, hf =>
  simp only [o_dup2x2L] at hf
  obtain ⟨hc, hf⟩ := rx_bifn hf
  obtain ⟨hc1, hc2⟩ := Bool.and_eq_true_iff.mp hc
  obtain ⟨hc2, hc3⟩ := Bool.and_eq_true_iff.mp hc2
  have e1 : (rx_v V v).category = 2 := (rx_v_cat hV v).trans (rx_beq hc1)
  have e2 : (rx_v V u).category = 1 := (rx_v_cat hV u).trans (rx_beq hc2)
  have e3 : (rx_v V q).category = 1 := (rx_v_cat hV q).trans (rx_beq hc3)
  refine ⟨pc + 1, f, lv, _, hk, hf, fun p l e R s m args below meth c hC hE H locs ls cells slots Q hW hF hL kk => ?_⟩
  exact lv_dup2_x2_2 hC.1 hC.2.1 hdg e1 e2 e3 (kk ls hL)
noncomputable def rx_b (h : rx_H) (c : Nat) : Option (Int × Int) := bif Nat.beq (c % 8) 0 then some ((rx_di c).toInt, (rx_di c).toInt) else bif Nat.beq (c % 8) 4 then rx_get none (h.2.2.1.map some) (c / 8) else none
theorem rx_b_ok {V : rx_V} {h : rx_H} {H : Heap} (hW : rx_w V h H) {c : Nat} {lo hi : Int} (hb : rx_b h c = some (lo, hi)) : ∃ x : Int32, rx_v V c = .int x ∧ lo ≤ x.toInt ∧ x.toInt ≤ hi := by
  unfold rx_b at hb
  rcases rx_bif hb with ⟨h1, h2⟩ | ⟨-, h2⟩
  · have e := Option.some.inj h2
    have e1 := congrArg Prod.fst e
    have e2 := congrArg Prod.snd e
    dsimp only at e1 e2
    exact ⟨_, rx_v_0 (rx_beq h1), by omega, by omega⟩
  · obtain ⟨h3, h4⟩ := rx_bifn h2
    rw [rx_get_eq] at h4
    have h5 : h.2.2.1[c / 8]? = some (lo, hi) := by
      cases q : h.2.2.1[c / 8]? with
      | none => simp [List.getD, q] at h4
      | some z => simp [List.getD, q] at h4; rw [h4]
    obtain ⟨-, v, e, l1, l2⟩ := hW.2.2 _ _ _ h5
    exact ⟨v, by rw [rx_v_4 (rx_beq h3), e], l1, l2⟩
noncomputable def rx_lt (h : rx_H) (x y : Nat) : Option Bool := bif Nat.beq (x % 8) 0 && Nat.beq (y % 8) 0 then some (decide (rx_di x < rx_di y)) else
  match rx_b h x, rx_b h y with
  | some (a, b), some (u, v) => bif decide (b < u) then some true else bif decide (v ≤ a) then some false else none
  | _, _ => none
noncomputable def rx_eq (h : rx_H) (x y : Nat) : Option Bool := bif Nat.beq (x % 8) 0 && Nat.beq (y % 8) 0 then some (decide (rx_di x = rx_di y)) else
  match rx_b h x, rx_b h y with
  | some (a, b), some (u, v) => bif decide (b < u) || decide (v < a) then some false else bif decide (a = b) && (decide (u = v) && decide (a = u)) then some true else none
  | _, _ => none
theorem rx_lt_ok {V : rx_V} {h : rx_H} {H : Heap} (hW : rx_w V h H) {x y : Nat} {b : Bool} (hb : rx_lt h x y = some b) : ∃ X Y : Int32, rx_v V x = .int X ∧ rx_v V y = .int Y ∧ (b = true ↔ X < Y) := by
  unfold rx_lt at hb
  rcases rx_bif hb with ⟨h1, h2⟩ | ⟨-, h2⟩
  · obtain ⟨hx, hy⟩ := Bool.and_eq_true_iff.mp h1
    refine ⟨_, _, rx_v_0 (rx_beq hx), rx_v_0 (rx_beq hy), ?_⟩
    rw [← Option.some.inj h2]
    exact decide_eq_true_iff
  · cases q1 : rx_b h x with
    | none => rw [q1] at h2; cases h2
    | some z1 => cases q2 : rx_b h y with
      | none => rw [q1, q2] at h2; cases h2
      | some z2 =>
        rw [q1, q2] at h2
        obtain ⟨X, ex, l1, l2⟩ := rx_b_ok hW (lo := z1.1) (hi := z1.2) q1
        obtain ⟨Y, ey, l3, l4⟩ := rx_b_ok hW (lo := z2.1) (hi := z2.2) q2
        refine ⟨X, Y, ex, ey, ?_⟩
        rw [Int32.lt_iff_toInt_lt]
        rcases rx_bif h2 with ⟨g1, g2⟩ | ⟨g1, g2⟩
        · have := of_decide_eq_true g1
          have e := Option.some.inj g2
          subst e
          simp only [true_iff]
          omega
        · obtain ⟨g3, g4⟩ := rx_bifn g2
          have := of_decide_eq_true g3
          have e := Option.some.inj g4
          subst e
          simp only [Bool.false_eq_true, false_iff]
          omega
theorem rx_eq_ok {V : rx_V} {h : rx_H} {H : Heap} (hW : rx_w V h H) {x y : Nat} {b : Bool} (hb : rx_eq h x y = some b) : ∃ X Y : Int32, rx_v V x = .int X ∧ rx_v V y = .int Y ∧ (b = true ↔ X = Y) := by
  unfold rx_eq at hb
  rcases rx_bif hb with ⟨h1, h2⟩ | ⟨-, h2⟩
  · obtain ⟨hx, hy⟩ := Bool.and_eq_true_iff.mp h1
    refine ⟨_, _, rx_v_0 (rx_beq hx), rx_v_0 (rx_beq hy), ?_⟩
    rw [← Option.some.inj h2]
    exact decide_eq_true_iff
  · cases q1 : rx_b h x with
    | none => rw [q1] at h2; cases h2
    | some z1 => cases q2 : rx_b h y with
      | none => rw [q1, q2] at h2; cases h2
      | some z2 =>
        rw [q1, q2] at h2
        obtain ⟨X, ex, l1, l2⟩ := rx_b_ok hW (lo := z1.1) (hi := z1.2) q1
        obtain ⟨Y, ey, l3, l4⟩ := rx_b_ok hW (lo := z2.1) (hi := z2.2) q2
        refine ⟨X, Y, ex, ey, ?_⟩
        rw [← Int32.toInt_inj]
        rcases rx_bif h2 with ⟨g1, g2⟩ | ⟨g1, g2⟩
        · have e := Option.some.inj g2
          subst e
          simp only [Bool.false_eq_true, false_iff]
          rcases Bool.or_eq_true_iff.mp g1 with g | g
          · have := of_decide_eq_true g
            omega
          · have := of_decide_eq_true g
            omega
        · obtain ⟨g3, g4⟩ := rx_bifn g2
          have e := Option.some.inj g4
          subst e
          obtain ⟨a1, a2⟩ := Bool.and_eq_true_iff.mp g3
          obtain ⟨a2, a3⟩ := Bool.and_eq_true_iff.mp a2
          have b1 := of_decide_eq_true a1
          have b2 := of_decide_eq_true a2
          have b3 := of_decide_eq_true a3
          simp only [true_iff]
          omega
-- two ways: t is gone where q says true, f where it says false
noncomputable def o_c2 (q : rx_H → Nat → Nat → Option Bool) (t f : rx_K) : rx_K := fun lv st h => match st with
  | y :: x :: r => match q h x y with
    | some b => bif b then t lv r h else f lv r h
    | none => none
  | _ => none
noncomputable def o_c1 (q : rx_H → Nat → Nat → Option Bool) (t f : rx_K) : rx_K := fun lv st h => match st with
  | x :: r => match q h x 0 with
    | some b => bif b then t lv r h else f lv r h
    | none => none
  | _ => none
theorem s_icmp_lt {off : Int} {tgt : Nat} (hdg : decode M.2.1 pc = .ok (.if_icmp .lt off, 3)) (ht : (pc : Int) + off = (tgt : Int)) (h1 : rx_OK V M d tgt t) (h2 : rx_OK V M d (pc + 3) f) : rx_OK V M d pc (o_c2 (rx_lt) t f) := by
  refine rx_pure fun lv st h r h' hf => ?_
  match st, hf with
  | [], hf => cases hf
  | [_], hf => cases hf
  | y :: x :: st, hf =>
  simp only [o_c2] at hf
  cases q : rx_lt h x y with
  | none => simp only [q] at hf; cases hf
  | some b =>
  simp only [q] at hf
  cases b with
  | true =>
    refine ⟨tgt, t, lv, st, h1, hf, fun p l e R s m args below meth c hC hE H locs ls cells slots Q hW hF hL kk => ?_⟩
    obtain ⟨X, Y, ex, ey, hb⟩ := rx_lt_ok hW q
    have hxy := hb.mp rfl
    have h3 := kk ls hL
    rw [List.map_cons, List.map_cons, ex, ey]
    exact lv_icmp_lt hC.1 hC.2.1 hdg ht (fun _ => h3) (fun z => absurd z (by first | exact hxy | exact Int32.not_le.mpr hxy | exact Int32.not_lt.mpr hxy | exact fun q => hxy q | (rw [Int32.not_le]; exact hxy) | (rw [Int32.not_lt]; exact hxy) | (intro q; exact hxy q) | (intro q; exact q hxy) | (rw [Int32.not_lt] at hxy; intro q; exact q hxy) | (rw [Int32.not_le]; first | exact hxy | exact Int32.not_le.mp hxy)))
  | false =>
    refine ⟨pc + 3, f, lv, st, h2, hf, fun p l e R s m args below meth c hC hE H locs ls cells slots Q hW hF hL kk => ?_⟩
    obtain ⟨X, Y, ex, ey, hb⟩ := rx_lt_ok hW q
    have hxy := (fun z => absurd (hb.mpr z) (by decide) : ¬ _)
    have h3 := kk ls hL
    rw [List.map_cons, List.map_cons, ex, ey]
    exact lv_icmp_lt hC.1 hC.2.1 hdg ht (fun z => absurd z (by first | exact hxy | exact Int32.not_le.mpr hxy | exact Int32.not_lt.mpr hxy | exact fun q => hxy q | (rw [Int32.not_le]; exact hxy) | (rw [Int32.not_lt]; exact hxy) | (intro q; exact hxy q) | (intro q; exact q hxy) | (rw [Int32.not_lt] at hxy; intro q; exact q hxy) | (rw [Int32.not_le]; first | exact hxy | exact Int32.not_le.mp hxy))) (fun _ => h3)
theorem s_if_lt {off : Int} {tgt : Nat} (hdg : decode M.2.1 pc = .ok (.ifCond .lt off, 3)) (ht : (pc : Int) + off = (tgt : Int)) (h1 : rx_OK V M d tgt t) (h2 : rx_OK V M d (pc + 3) f) : rx_OK V M d pc (o_c1 (rx_lt) t f) := by
  refine rx_pure fun lv st h r h' hf => ?_
  match st, hf with
  | [], hf => cases hf
  | x :: st, hf =>
  simp only [o_c1] at hf
  cases q : rx_lt h x 0 with
  | none => simp only [q] at hf; cases hf
  | some b =>
  simp only [q] at hf
  cases b with
  | true =>
    refine ⟨tgt, t, lv, st, h1, hf, fun p l e R s m args below meth c hC hE H locs ls cells slots Q hW hF hL kk => ?_⟩
    obtain ⟨X, Y, ex, ey, hb⟩ := rx_lt_ok hW q
    have hxy := hb.mp rfl
    have h3 := kk ls hL
    rw [List.map_cons, ex]
    rw [rx_v_0 (V := V) (c := 0) rfl] at ey
    have e0 := Value.int.inj ey
    rw [show rx_di 0 = 0 from rfl] at e0
    subst e0
    exact lv_if_lt hC.1 hC.2.1 hdg ht (fun _ => h3) (fun z => absurd z (by first | exact hxy | exact Int32.not_le.mpr hxy | exact Int32.not_lt.mpr hxy | exact fun q => hxy q | (rw [Int32.not_le]; exact hxy) | (rw [Int32.not_lt]; exact hxy) | (intro q; exact hxy q) | (intro q; exact q hxy) | (rw [Int32.not_lt] at hxy; intro q; exact q hxy) | (rw [Int32.not_le]; first | exact hxy | exact Int32.not_le.mp hxy)))
  | false =>
    refine ⟨pc + 3, f, lv, st, h2, hf, fun p l e R s m args below meth c hC hE H locs ls cells slots Q hW hF hL kk => ?_⟩
    obtain ⟨X, Y, ex, ey, hb⟩ := rx_lt_ok hW q
    have hxy := (fun z => absurd (hb.mpr z) (by decide) : ¬ _)
    have h3 := kk ls hL
    rw [List.map_cons, ex]
    rw [rx_v_0 (V := V) (c := 0) rfl] at ey
    have e0 := Value.int.inj ey
    rw [show rx_di 0 = 0 from rfl] at e0
    subst e0
    exact lv_if_lt hC.1 hC.2.1 hdg ht (fun z => absurd z (by first | exact hxy | exact Int32.not_le.mpr hxy | exact Int32.not_lt.mpr hxy | exact fun q => hxy q | (rw [Int32.not_le]; exact hxy) | (rw [Int32.not_lt]; exact hxy) | (intro q; exact hxy q) | (intro q; exact q hxy) | (rw [Int32.not_lt] at hxy; intro q; exact q hxy) | (rw [Int32.not_le]; first | exact hxy | exact Int32.not_le.mp hxy))) (fun _ => h3)
theorem s_icmp_ge {off : Int} {tgt : Nat} (hdg : decode M.2.1 pc = .ok (.if_icmp .ge off, 3)) (ht : (pc : Int) + off = (tgt : Int)) (h1 : rx_OK V M d tgt t) (h2 : rx_OK V M d (pc + 3) f) : rx_OK V M d pc (o_c2 (rx_lt) f t) := by
  refine rx_pure fun lv st h r h' hf => ?_
  match st, hf with
  | [], hf => cases hf
  | [_], hf => cases hf
  | y :: x :: st, hf =>
  simp only [o_c2] at hf
  cases q : rx_lt h x y with
  | none => simp only [q] at hf; cases hf
  | some b =>
  simp only [q] at hf
  cases b with
  | true =>
    refine ⟨pc + 3, f, lv, st, h2, hf, fun p l e R s m args below meth c hC hE H locs ls cells slots Q hW hF hL kk => ?_⟩
    obtain ⟨X, Y, ex, ey, hb⟩ := rx_lt_ok hW q
    have hxy := hb.mp rfl
    have h3 := kk ls hL
    rw [List.map_cons, List.map_cons, ex, ey]
    exact lv_icmp_ge hC.1 hC.2.1 hdg ht (fun z => absurd z (by first | exact hxy | exact Int32.not_le.mpr hxy | exact Int32.not_lt.mpr hxy | exact fun q => hxy q | (rw [Int32.not_le]; exact hxy) | (rw [Int32.not_lt]; exact hxy) | (intro q; exact hxy q) | (intro q; exact q hxy) | (rw [Int32.not_lt] at hxy; intro q; exact q hxy) | (rw [Int32.not_le]; first | exact hxy | exact Int32.not_le.mp hxy))) (fun _ => h3)
  | false =>
    refine ⟨tgt, t, lv, st, h1, hf, fun p l e R s m args below meth c hC hE H locs ls cells slots Q hW hF hL kk => ?_⟩
    obtain ⟨X, Y, ex, ey, hb⟩ := rx_lt_ok hW q
    have hxy := (fun z => absurd (hb.mpr z) (by decide) : ¬ _)
    have h3 := kk ls hL
    rw [List.map_cons, List.map_cons, ex, ey]
    exact lv_icmp_ge hC.1 hC.2.1 hdg ht (fun _ => h3) (fun z => absurd z (by first | exact hxy | exact Int32.not_le.mpr hxy | exact Int32.not_lt.mpr hxy | exact fun q => hxy q | (rw [Int32.not_le]; exact hxy) | (rw [Int32.not_lt]; exact hxy) | (intro q; exact hxy q) | (intro q; exact q hxy) | (rw [Int32.not_lt] at hxy; intro q; exact q hxy) | (rw [Int32.not_le]; first | exact hxy | exact Int32.not_le.mp hxy)))
theorem s_if_ge {off : Int} {tgt : Nat} (hdg : decode M.2.1 pc = .ok (.ifCond .ge off, 3)) (ht : (pc : Int) + off = (tgt : Int)) (h1 : rx_OK V M d tgt t) (h2 : rx_OK V M d (pc + 3) f) : rx_OK V M d pc (o_c1 (rx_lt) f t) := by
  refine rx_pure fun lv st h r h' hf => ?_
  match st, hf with
  | [], hf => cases hf
  | x :: st, hf =>
  simp only [o_c1] at hf
  cases q : rx_lt h x 0 with
  | none => simp only [q] at hf; cases hf
  | some b =>
  simp only [q] at hf
  cases b with
  | true =>
    refine ⟨pc + 3, f, lv, st, h2, hf, fun p l e R s m args below meth c hC hE H locs ls cells slots Q hW hF hL kk => ?_⟩
    obtain ⟨X, Y, ex, ey, hb⟩ := rx_lt_ok hW q
    have hxy := hb.mp rfl
    have h3 := kk ls hL
    rw [List.map_cons, ex]
    rw [rx_v_0 (V := V) (c := 0) rfl] at ey
    have e0 := Value.int.inj ey
    rw [show rx_di 0 = 0 from rfl] at e0
    subst e0
    exact lv_if_ge hC.1 hC.2.1 hdg ht (fun z => absurd z (by first | exact hxy | exact Int32.not_le.mpr hxy | exact Int32.not_lt.mpr hxy | exact fun q => hxy q | (rw [Int32.not_le]; exact hxy) | (rw [Int32.not_lt]; exact hxy) | (intro q; exact hxy q) | (intro q; exact q hxy) | (rw [Int32.not_lt] at hxy; intro q; exact q hxy) | (rw [Int32.not_le]; first | exact hxy | exact Int32.not_le.mp hxy))) (fun _ => h3)
  | false =>
    refine ⟨tgt, t, lv, st, h1, hf, fun p l e R s m args below meth c hC hE H locs ls cells slots Q hW hF hL kk => ?_⟩
    obtain ⟨X, Y, ex, ey, hb⟩ := rx_lt_ok hW q
    have hxy := (fun z => absurd (hb.mpr z) (by decide) : ¬ _)
    have h3 := kk ls hL
    rw [List.map_cons, ex]
    rw [rx_v_0 (V := V) (c := 0) rfl] at ey
    have e0 := Value.int.inj ey
    rw [show rx_di 0 = 0 from rfl] at e0
    subst e0
    exact lv_if_ge hC.1 hC.2.1 hdg ht (fun _ => h3) (fun z => absurd z (by first | exact hxy | exact Int32.not_le.mpr hxy | exact Int32.not_lt.mpr hxy | exact fun q => hxy q | (rw [Int32.not_le]; exact hxy) | (rw [Int32.not_lt]; exact hxy) | (intro q; exact hxy q) | (intro q; exact q hxy) | (rw [Int32.not_lt] at hxy; intro q; exact q hxy) | (rw [Int32.not_le]; first | exact hxy | exact Int32.not_le.mp hxy)))
theorem s_icmp_gt {off : Int} {tgt : Nat} (hdg : decode M.2.1 pc = .ok (.if_icmp .gt off, 3)) (ht : (pc : Int) + off = (tgt : Int)) (h1 : rx_OK V M d tgt t) (h2 : rx_OK V M d (pc + 3) f) : rx_OK V M d pc (o_c2 (fun h x y => rx_lt h y x) t f) := by
  refine rx_pure fun lv st h r h' hf => ?_
  match st, hf with
  | [], hf => cases hf
  | [_], hf => cases hf
  | y :: x :: st, hf =>
  simp only [o_c2] at hf
  cases q : rx_lt h y x with
  | none => simp only [q] at hf; cases hf
  | some b =>
  simp only [q] at hf
  cases b with
  | true =>
    refine ⟨tgt, t, lv, st, h1, hf, fun p l e R s m args below meth c hC hE H locs ls cells slots Q hW hF hL kk => ?_⟩
    obtain ⟨X, Y, ex, ey, hb⟩ := rx_lt_ok hW q
    have hxy := hb.mp rfl
    have h3 := kk ls hL
    rw [List.map_cons, List.map_cons, ex, ey]
    exact lv_icmp_gt hC.1 hC.2.1 hdg ht (fun _ => h3) (fun z => absurd z (by first | exact hxy | exact Int32.not_le.mpr hxy | exact Int32.not_lt.mpr hxy | exact fun q => hxy q | (rw [Int32.not_le]; exact hxy) | (rw [Int32.not_lt]; exact hxy) | (intro q; exact hxy q) | (intro q; exact q hxy) | (rw [Int32.not_lt] at hxy; intro q; exact q hxy) | (rw [Int32.not_le]; first | exact hxy | exact Int32.not_le.mp hxy)))
  | false =>
    refine ⟨pc + 3, f, lv, st, h2, hf, fun p l e R s m args below meth c hC hE H locs ls cells slots Q hW hF hL kk => ?_⟩
    obtain ⟨X, Y, ex, ey, hb⟩ := rx_lt_ok hW q
    have hxy := (fun z => absurd (hb.mpr z) (by decide) : ¬ _)
    have h3 := kk ls hL
    rw [List.map_cons, List.map_cons, ex, ey]
    exact lv_icmp_gt hC.1 hC.2.1 hdg ht (fun z => absurd z (by first | exact hxy | exact Int32.not_le.mpr hxy | exact Int32.not_lt.mpr hxy | exact fun q => hxy q | (rw [Int32.not_le]; exact hxy) | (rw [Int32.not_lt]; exact hxy) | (intro q; exact hxy q) | (intro q; exact q hxy) | (rw [Int32.not_lt] at hxy; intro q; exact q hxy) | (rw [Int32.not_le]; first | exact hxy | exact Int32.not_le.mp hxy))) (fun _ => h3)
theorem s_if_gt {off : Int} {tgt : Nat} (hdg : decode M.2.1 pc = .ok (.ifCond .gt off, 3)) (ht : (pc : Int) + off = (tgt : Int)) (h1 : rx_OK V M d tgt t) (h2 : rx_OK V M d (pc + 3) f) : rx_OK V M d pc (o_c1 (fun h x y => rx_lt h y x) t f) := by
  refine rx_pure fun lv st h r h' hf => ?_
  match st, hf with
  | [], hf => cases hf
  | x :: st, hf =>
  simp only [o_c1] at hf
  cases q : rx_lt h 0 x with
  | none => simp only [q] at hf; cases hf
  | some b =>
  simp only [q] at hf
  cases b with
  | true =>
    refine ⟨tgt, t, lv, st, h1, hf, fun p l e R s m args below meth c hC hE H locs ls cells slots Q hW hF hL kk => ?_⟩
    obtain ⟨X, Y, ex, ey, hb⟩ := rx_lt_ok hW q
    have hxy := hb.mp rfl
    have h3 := kk ls hL
    rw [List.map_cons, ey]
    rw [rx_v_0 (V := V) (c := 0) rfl] at ex
    have e0 := Value.int.inj ex
    rw [show rx_di 0 = 0 from rfl] at e0
    subst e0
    exact lv_if_gt hC.1 hC.2.1 hdg ht (fun _ => h3) (fun z => absurd z (by first | exact hxy | exact Int32.not_le.mpr hxy | exact Int32.not_lt.mpr hxy | exact fun q => hxy q | (rw [Int32.not_le]; exact hxy) | (rw [Int32.not_lt]; exact hxy) | (intro q; exact hxy q) | (intro q; exact q hxy) | (rw [Int32.not_lt] at hxy; intro q; exact q hxy) | (rw [Int32.not_le]; first | exact hxy | exact Int32.not_le.mp hxy)))
  | false =>
    refine ⟨pc + 3, f, lv, st, h2, hf, fun p l e R s m args below meth c hC hE H locs ls cells slots Q hW hF hL kk => ?_⟩
    obtain ⟨X, Y, ex, ey, hb⟩ := rx_lt_ok hW q
    have hxy := (fun z => absurd (hb.mpr z) (by decide) : ¬ _)
    have h3 := kk ls hL
    rw [List.map_cons, ey]
    rw [rx_v_0 (V := V) (c := 0) rfl] at ex
    have e0 := Value.int.inj ex
    rw [show rx_di 0 = 0 from rfl] at e0
    subst e0
    exact lv_if_gt hC.1 hC.2.1 hdg ht (fun z => absurd z (by first | exact hxy | exact Int32.not_le.mpr hxy | exact Int32.not_lt.mpr hxy | exact fun q => hxy q | (rw [Int32.not_le]; exact hxy) | (rw [Int32.not_lt]; exact hxy) | (intro q; exact hxy q) | (intro q; exact q hxy) | (rw [Int32.not_lt] at hxy; intro q; exact q hxy) | (rw [Int32.not_le]; first | exact hxy | exact Int32.not_le.mp hxy))) (fun _ => h3)
theorem s_icmp_le {off : Int} {tgt : Nat} (hdg : decode M.2.1 pc = .ok (.if_icmp .le off, 3)) (ht : (pc : Int) + off = (tgt : Int)) (h1 : rx_OK V M d tgt t) (h2 : rx_OK V M d (pc + 3) f) : rx_OK V M d pc (o_c2 (fun h x y => rx_lt h y x) f t) := by
  refine rx_pure fun lv st h r h' hf => ?_
  match st, hf with
  | [], hf => cases hf
  | [_], hf => cases hf
  | y :: x :: st, hf =>
  simp only [o_c2] at hf
  cases q : rx_lt h y x with
  | none => simp only [q] at hf; cases hf
  | some b =>
  simp only [q] at hf
  cases b with
  | true =>
    refine ⟨pc + 3, f, lv, st, h2, hf, fun p l e R s m args below meth c hC hE H locs ls cells slots Q hW hF hL kk => ?_⟩
    obtain ⟨X, Y, ex, ey, hb⟩ := rx_lt_ok hW q
    have hxy := hb.mp rfl
    have h3 := kk ls hL
    rw [List.map_cons, List.map_cons, ex, ey]
    exact lv_icmp_le hC.1 hC.2.1 hdg ht (fun z => absurd z (by first | exact hxy | exact Int32.not_le.mpr hxy | exact Int32.not_lt.mpr hxy | exact fun q => hxy q | (rw [Int32.not_le]; exact hxy) | (rw [Int32.not_lt]; exact hxy) | (intro q; exact hxy q) | (intro q; exact q hxy) | (rw [Int32.not_lt] at hxy; intro q; exact q hxy) | (rw [Int32.not_le]; first | exact hxy | exact Int32.not_le.mp hxy))) (fun _ => h3)
  | false =>
    refine ⟨tgt, t, lv, st, h1, hf, fun p l e R s m args below meth c hC hE H locs ls cells slots Q hW hF hL kk => ?_⟩
    obtain ⟨X, Y, ex, ey, hb⟩ := rx_lt_ok hW q
    have hxy := (fun z => absurd (hb.mpr z) (by decide) : ¬ _)
    have h3 := kk ls hL
    rw [List.map_cons, List.map_cons, ex, ey]
    exact lv_icmp_le hC.1 hC.2.1 hdg ht (fun _ => h3) (fun z => absurd z (by first | exact hxy | exact Int32.not_le.mpr hxy | exact Int32.not_lt.mpr hxy | exact fun q => hxy q | (rw [Int32.not_le]; exact hxy) | (rw [Int32.not_lt]; exact hxy) | (intro q; exact hxy q) | (intro q; exact q hxy) | (rw [Int32.not_lt] at hxy; intro q; exact q hxy) | (rw [Int32.not_le]; first | exact hxy | exact Int32.not_le.mp hxy)))
theorem s_if_le {off : Int} {tgt : Nat} (hdg : decode M.2.1 pc = .ok (.ifCond .le off, 3)) (ht : (pc : Int) + off = (tgt : Int)) (h1 : rx_OK V M d tgt t) (h2 : rx_OK V M d (pc + 3) f) : rx_OK V M d pc (o_c1 (fun h x y => rx_lt h y x) f t) := by
  refine rx_pure fun lv st h r h' hf => ?_
  match st, hf with
  | [], hf => cases hf
  | x :: st, hf =>
  simp only [o_c1] at hf
  cases q : rx_lt h 0 x with
  | none => simp only [q] at hf; cases hf
  | some b =>
  simp only [q] at hf
  cases b with
  | true =>
    refine ⟨pc + 3, f, lv, st, h2, hf, fun p l e R s m args below meth c hC hE H locs ls cells slots Q hW hF hL kk => ?_⟩
    obtain ⟨X, Y, ex, ey, hb⟩ := rx_lt_ok hW q
    have hxy := hb.mp rfl
    have h3 := kk ls hL
    rw [List.map_cons, ey]
    rw [rx_v_0 (V := V) (c := 0) rfl] at ex
    have e0 := Value.int.inj ex
    rw [show rx_di 0 = 0 from rfl] at e0
    subst e0
    exact lv_if_le hC.1 hC.2.1 hdg ht (fun z => absurd z (by first | exact hxy | exact Int32.not_le.mpr hxy | exact Int32.not_lt.mpr hxy | exact fun q => hxy q | (rw [Int32.not_le]; exact hxy) | (rw [Int32.not_lt]; exact hxy) | (intro q; exact hxy q) | (intro q; exact q hxy) | (rw [Int32.not_lt] at hxy; intro q; exact q hxy) | (rw [Int32.not_le]; first | exact hxy | exact Int32.not_le.mp hxy))) (fun _ => h3)
  | false =>
    refine ⟨tgt, t, lv, st, h1, hf, fun p l e R s m args below meth c hC hE H locs ls cells slots Q hW hF hL kk => ?_⟩
    obtain ⟨X, Y, ex, ey, hb⟩ := rx_lt_ok hW q
    have hxy := (fun z => absurd (hb.mpr z) (by decide) : ¬ _)
    have h3 := kk ls hL
    rw [List.map_cons, ey]
    rw [rx_v_0 (V := V) (c := 0) rfl] at ex
    have e0 := Value.int.inj ex
    rw [show rx_di 0 = 0 from rfl] at e0
    subst e0
    exact lv_if_le hC.1 hC.2.1 hdg ht (fun _ => h3) (fun z => absurd z (by first | exact hxy | exact Int32.not_le.mpr hxy | exact Int32.not_lt.mpr hxy | exact fun q => hxy q | (rw [Int32.not_le]; exact hxy) | (rw [Int32.not_lt]; exact hxy) | (intro q; exact hxy q) | (intro q; exact q hxy) | (rw [Int32.not_lt] at hxy; intro q; exact q hxy) | (rw [Int32.not_le]; first | exact hxy | exact Int32.not_le.mp hxy)))
theorem s_icmp_eq {off : Int} {tgt : Nat} (hdg : decode M.2.1 pc = .ok (.if_icmp .eq off, 3)) (ht : (pc : Int) + off = (tgt : Int)) (h1 : rx_OK V M d tgt t) (h2 : rx_OK V M d (pc + 3) f) : rx_OK V M d pc (o_c2 (rx_eq) t f) := by
  refine rx_pure fun lv st h r h' hf => ?_
  match st, hf with
  | [], hf => cases hf
  | [_], hf => cases hf
  | y :: x :: st, hf =>
  simp only [o_c2] at hf
  cases q : rx_eq h x y with
  | none => simp only [q] at hf; cases hf
  | some b =>
  simp only [q] at hf
  cases b with
  | true =>
    refine ⟨tgt, t, lv, st, h1, hf, fun p l e R s m args below meth c hC hE H locs ls cells slots Q hW hF hL kk => ?_⟩
    obtain ⟨X, Y, ex, ey, hb⟩ := rx_eq_ok hW q
    have hxy := hb.mp rfl
    have h3 := kk ls hL
    rw [List.map_cons, List.map_cons, ex, ey]
    exact lv_icmp_eq hC.1 hC.2.1 hdg ht (fun _ => h3) (fun z => absurd z (by first | exact hxy | exact Int32.not_le.mpr hxy | exact Int32.not_lt.mpr hxy | exact fun q => hxy q | (rw [Int32.not_le]; exact hxy) | (rw [Int32.not_lt]; exact hxy) | (intro q; exact hxy q) | (intro q; exact q hxy) | (rw [Int32.not_lt] at hxy; intro q; exact q hxy) | (rw [Int32.not_le]; first | exact hxy | exact Int32.not_le.mp hxy)))
  | false =>
    refine ⟨pc + 3, f, lv, st, h2, hf, fun p l e R s m args below meth c hC hE H locs ls cells slots Q hW hF hL kk => ?_⟩
    obtain ⟨X, Y, ex, ey, hb⟩ := rx_eq_ok hW q
    have hxy := (fun z => absurd (hb.mpr z) (by decide) : ¬ _)
    have h3 := kk ls hL
    rw [List.map_cons, List.map_cons, ex, ey]
    exact lv_icmp_eq hC.1 hC.2.1 hdg ht (fun z => absurd z (by first | exact hxy | exact Int32.not_le.mpr hxy | exact Int32.not_lt.mpr hxy | exact fun q => hxy q | (rw [Int32.not_le]; exact hxy) | (rw [Int32.not_lt]; exact hxy) | (intro q; exact hxy q) | (intro q; exact q hxy) | (rw [Int32.not_lt] at hxy; intro q; exact q hxy) | (rw [Int32.not_le]; first | exact hxy | exact Int32.not_le.mp hxy))) (fun _ => h3)
theorem s_if_eq {off : Int} {tgt : Nat} (hdg : decode M.2.1 pc = .ok (.ifCond .eq off, 3)) (ht : (pc : Int) + off = (tgt : Int)) (h1 : rx_OK V M d tgt t) (h2 : rx_OK V M d (pc + 3) f) : rx_OK V M d pc (o_c1 (rx_eq) t f) := by
  refine rx_pure fun lv st h r h' hf => ?_
  match st, hf with
  | [], hf => cases hf
  | x :: st, hf =>
  simp only [o_c1] at hf
  cases q : rx_eq h x 0 with
  | none => simp only [q] at hf; cases hf
  | some b =>
  simp only [q] at hf
  cases b with
  | true =>
    refine ⟨tgt, t, lv, st, h1, hf, fun p l e R s m args below meth c hC hE H locs ls cells slots Q hW hF hL kk => ?_⟩
    obtain ⟨X, Y, ex, ey, hb⟩ := rx_eq_ok hW q
    have hxy := hb.mp rfl
    have h3 := kk ls hL
    rw [List.map_cons, ex]
    rw [rx_v_0 (V := V) (c := 0) rfl] at ey
    have e0 := Value.int.inj ey
    rw [show rx_di 0 = 0 from rfl] at e0
    subst e0
    exact lv_if_eq hC.1 hC.2.1 hdg ht (fun _ => h3) (fun z => absurd z (by first | exact hxy | exact Int32.not_le.mpr hxy | exact Int32.not_lt.mpr hxy | exact fun q => hxy q | (rw [Int32.not_le]; exact hxy) | (rw [Int32.not_lt]; exact hxy) | (intro q; exact hxy q) | (intro q; exact q hxy) | (rw [Int32.not_lt] at hxy; intro q; exact q hxy) | (rw [Int32.not_le]; first | exact hxy | exact Int32.not_le.mp hxy)))
  | false =>
    refine ⟨pc + 3, f, lv, st, h2, hf, fun p l e R s m args below meth c hC hE H locs ls cells slots Q hW hF hL kk => ?_⟩
    obtain ⟨X, Y, ex, ey, hb⟩ := rx_eq_ok hW q
    have hxy := (fun z => absurd (hb.mpr z) (by decide) : ¬ _)
    have h3 := kk ls hL
    rw [List.map_cons, ex]
    rw [rx_v_0 (V := V) (c := 0) rfl] at ey
    have e0 := Value.int.inj ey
    rw [show rx_di 0 = 0 from rfl] at e0
    subst e0
    exact lv_if_eq hC.1 hC.2.1 hdg ht (fun z => absurd z (by first | exact hxy | exact Int32.not_le.mpr hxy | exact Int32.not_lt.mpr hxy | exact fun q => hxy q | (rw [Int32.not_le]; exact hxy) | (rw [Int32.not_lt]; exact hxy) | (intro q; exact hxy q) | (intro q; exact q hxy) | (rw [Int32.not_lt] at hxy; intro q; exact q hxy) | (rw [Int32.not_le]; first | exact hxy | exact Int32.not_le.mp hxy))) (fun _ => h3)
theorem s_icmp_ne {off : Int} {tgt : Nat} (hdg : decode M.2.1 pc = .ok (.if_icmp .ne off, 3)) (ht : (pc : Int) + off = (tgt : Int)) (h1 : rx_OK V M d tgt t) (h2 : rx_OK V M d (pc + 3) f) : rx_OK V M d pc (o_c2 (rx_eq) f t) := by
  refine rx_pure fun lv st h r h' hf => ?_
  match st, hf with
  | [], hf => cases hf
  | [_], hf => cases hf
  | y :: x :: st, hf =>
  simp only [o_c2] at hf
  cases q : rx_eq h x y with
  | none => simp only [q] at hf; cases hf
  | some b =>
  simp only [q] at hf
  cases b with
  | true =>
    refine ⟨pc + 3, f, lv, st, h2, hf, fun p l e R s m args below meth c hC hE H locs ls cells slots Q hW hF hL kk => ?_⟩
    obtain ⟨X, Y, ex, ey, hb⟩ := rx_eq_ok hW q
    have hxy := hb.mp rfl
    have h3 := kk ls hL
    rw [List.map_cons, List.map_cons, ex, ey]
    exact lv_icmp_ne hC.1 hC.2.1 hdg ht (fun z => absurd z (by first | exact hxy | exact Int32.not_le.mpr hxy | exact Int32.not_lt.mpr hxy | exact fun q => hxy q | (rw [Int32.not_le]; exact hxy) | (rw [Int32.not_lt]; exact hxy) | (intro q; exact hxy q) | (intro q; exact q hxy) | (rw [Int32.not_lt] at hxy; intro q; exact q hxy) | (rw [Int32.not_le]; first | exact hxy | exact Int32.not_le.mp hxy))) (fun _ => h3)
  | false =>
    refine ⟨tgt, t, lv, st, h1, hf, fun p l e R s m args below meth c hC hE H locs ls cells slots Q hW hF hL kk => ?_⟩
    obtain ⟨X, Y, ex, ey, hb⟩ := rx_eq_ok hW q
    have hxy := (fun z => absurd (hb.mpr z) (by decide) : ¬ _)
    have h3 := kk ls hL
    rw [List.map_cons, List.map_cons, ex, ey]
    exact lv_icmp_ne hC.1 hC.2.1 hdg ht (fun _ => h3) (fun z => absurd z (by first | exact hxy | exact Int32.not_le.mpr hxy | exact Int32.not_lt.mpr hxy | exact fun q => hxy q | (rw [Int32.not_le]; exact hxy) | (rw [Int32.not_lt]; exact hxy) | (intro q; exact hxy q) | (intro q; exact q hxy) | (rw [Int32.not_lt] at hxy; intro q; exact q hxy) | (rw [Int32.not_le]; first | exact hxy | exact Int32.not_le.mp hxy)))
theorem s_if_ne {off : Int} {tgt : Nat} (hdg : decode M.2.1 pc = .ok (.ifCond .ne off, 3)) (ht : (pc : Int) + off = (tgt : Int)) (h1 : rx_OK V M d tgt t) (h2 : rx_OK V M d (pc + 3) f) : rx_OK V M d pc (o_c1 (rx_eq) f t) := by
  refine rx_pure fun lv st h r h' hf => ?_
  match st, hf with
  | [], hf => cases hf
  | x :: st, hf =>
  simp only [o_c1] at hf
  cases q : rx_eq h x 0 with
  | none => simp only [q] at hf; cases hf
  | some b =>
  simp only [q] at hf
  cases b with
  | true =>
    refine ⟨pc + 3, f, lv, st, h2, hf, fun p l e R s m args below meth c hC hE H locs ls cells slots Q hW hF hL kk => ?_⟩
    obtain ⟨X, Y, ex, ey, hb⟩ := rx_eq_ok hW q
    have hxy := hb.mp rfl
    have h3 := kk ls hL
    rw [List.map_cons, ex]
    rw [rx_v_0 (V := V) (c := 0) rfl] at ey
    have e0 := Value.int.inj ey
    rw [show rx_di 0 = 0 from rfl] at e0
    subst e0
    exact lv_if_ne hC.1 hC.2.1 hdg ht (fun z => absurd z (by first | exact hxy | exact Int32.not_le.mpr hxy | exact Int32.not_lt.mpr hxy | exact fun q => hxy q | (rw [Int32.not_le]; exact hxy) | (rw [Int32.not_lt]; exact hxy) | (intro q; exact hxy q) | (intro q; exact q hxy) | (rw [Int32.not_lt] at hxy; intro q; exact q hxy) | (rw [Int32.not_le]; first | exact hxy | exact Int32.not_le.mp hxy))) (fun _ => h3)
  | false =>
    refine ⟨tgt, t, lv, st, h1, hf, fun p l e R s m args below meth c hC hE H locs ls cells slots Q hW hF hL kk => ?_⟩
    obtain ⟨X, Y, ex, ey, hb⟩ := rx_eq_ok hW q
    have hxy := (fun z => absurd (hb.mpr z) (by decide) : ¬ _)
    have h3 := kk ls hL
    rw [List.map_cons, ex]
    rw [rx_v_0 (V := V) (c := 0) rfl] at ey
    have e0 := Value.int.inj ey
    rw [show rx_di 0 = 0 from rfl] at e0
    subst e0
    exact lv_if_ne hC.1 hC.2.1 hdg ht (fun _ => h3) (fun z => absurd z (by first | exact hxy | exact Int32.not_le.mpr hxy | exact Int32.not_lt.mpr hxy | exact fun q => hxy q | (rw [Int32.not_le]; exact hxy) | (rw [Int32.not_lt]; exact hxy) | (intro q; exact hxy q) | (intro q; exact q hxy) | (rw [Int32.not_lt] at hxy; intro q; exact q hxy) | (rw [Int32.not_le]; first | exact hxy | exact Int32.not_le.mp hxy)))
theorem s_goto {off : Int} {tgt : Nat} (hdg : decode M.2.1 pc = .ok (.goto off, 3)) (ht : (pc : Int) + off = (tgt : Int)) (hk : rx_OK V M d tgt f) : rx_OK V M d pc f := by
  refine rx_pure fun lv st h r h' hf => ?_
  exact ⟨tgt, f, lv, st, hk, hf, fun p l e R s m args below meth c hC hE H locs ls cells slots Q hW hF hL kk => lv_goto hC.1 hC.2.1 hdg ht (kk ls hL)⟩
end RX14
end
section
section RX15
variable {V : rx_V} {M : rx_M} {d pc : Nat} {f t : rx_K}
-- one step that may change the cells
theorem rx_heap (h0 : ∀ (lv st : List Nat) (h : rx_H) (r : Nat) (h' : rx_H), f lv st h = some (r, h') → ∃ (pc' : Nat) (g : rx_K) (lv' st' : List Nat) (h1 : rx_H), rx_OK V M d pc' g ∧ g lv' st' h1 = some (r, h') ∧ h.1 ≤ h1.1 ∧ h.2.1 ≤ h1.2.1 ∧
    ∀ (p : Program) (l : Launch) (e : Env) (R : Room) (s : State) (m : MethodId) (args : Array Value) (below : List Frame) (meth : Method) (c : Code), rx_Cx V M p s m args meth c → rx_En V s → ∀ (n0 z0 : Nat), n0 ≤ h.1 → z0 ≤ h.2.1 → d ≤ R.frames → 100 * d ≤ R.locals → h1.1 - n0 ≤ R.cells → h1.2.1 - z0 ≤ R.slots →
      ∀ (H : Heap) (locs : List Loc) (ls : Array Slot) (Q : State → Prop), rx_w V h H → rx_F V s H locs → rx_L V ls M.2.2.1 lv →
      (∀ (H1 : Heap) (locs1 : List Loc) (ls' : Array Slot), rx_w V h1 H1 → rx_F V s H1 locs1 → rx_L V ls' M.2.2.1 lv' → W p l e R s m args below meth c H1 locs1 (h1.1 - n0) (h1.2.1 - z0) Q (F0 m pc' ls' (st'.map (rx_v V)))) → W p l e R s m args below meth c H locs (h.1 - n0) (h.2.1 - z0) Q (F0 m pc ls (st.map (rx_v V)))) : rx_OK V M d pc f := by
  intro lv st h r h' hf
  obtain ⟨pc', g, lv', st', h1, hg, hgf, i1, i2, hw⟩ := h0 lv st h r h' hf
  obtain ⟨m1, m2, kk⟩ := hg lv' st' h1 r h' hgf
  refine ⟨Nat.le_trans i1 m1, Nat.le_trans i2 m2, fun p l e R s m args below meth c hC hE n0 z0 hn hz hR1 hR2 hR3 hR4 H locs ls hW hF hL => ?_⟩
  exact hw p l e R s m args below meth c hC hE n0 z0 hn hz hR1 hR2 (by omega) (by omega) H locs ls _ hW hF hL (fun H1 locs1 ls' hW' hF' hL' => kk p l e R s m args below meth c hC hE n0 z0 (by omega) (by omega) hR1 hR2 hR3 hR4 H1 locs1 ls' hW' hF' hL')
theorem rx_at.kept {i : Nat} {e : rx_E} {H H1 : Heap} (h : rx_at V i e H) (q : H1[eb V + i]? = H[eb V + i]?) : rx_at V i e H1 := by
  obtain ⟨k, a, n, fs, us⟩ := e
  cases k with
  | zero => exact ⟨h.1, h.2.kept q⟩
  | succ t =>
    show H1[eb V + i]? = _
    rw [q]
    exact h
theorem rx_w_set {h h' : rx_H} {H H1 : Heap} {i : Nat} {e : rx_E} (hW : rx_w V h H) (hi : i < h.1) (e1 : h'.1 = h.1) (e2 : h'.2.2.1 = h.2.2.1) (eg : ∀ j, rx_hg h' j = if j = i then e else rx_hg h j) (z : H1.size = H.size) (oq : ∀ q, q ≠ eb V + i → H1[q]? = H[q]?) (he : rx_at V i e H1) : rx_w V h' H1 := by
  refine ⟨by rw [z, e1]; exact hW.1, fun j hj => ?_, by rw [e2]; exact hW.2.2⟩
  rw [eg j]
  by_cases q : j = i
  · rw [if_pos q, q]; exact he
  · rw [if_neg q]
    exact (hW.2.1 j (by omega)).kept (oq _ (by omega))
theorem rx_w_push {h h' : rx_H} {H H1 : Heap} {e : rx_E} (hW : rx_w V h H) (e1 : h'.1 = h.1 + 1) (e2 : h'.2.2.1 = h.2.2.1) (eg : ∀ j, rx_hg h' j = if j = h.1 then e else rx_hg h j) (z : H1.size = H.size + 1) (oq : ∀ q, q < H.size → H1[q]? = H[q]?) (he : rx_at V h.1 e H1) : rx_w V h' H1 := by
  refine ⟨by rw [z, e1, hW.1]; omega, fun j hj => ?_, by rw [e2]; exact hW.2.2⟩
  rw [eg j]
  by_cases q : j = h.1
  · rw [if_pos q, q]; exact he
  · rw [if_neg q]
    exact (hW.2.1 j (by omega)).kept (oq _ (by rw [hW.1]; omega))
theorem rx_F_set {s : State} {H H1 : Heap} {locs : List Loc} {a k : Nat} (hF : rx_F V s H locs) (z : H1.size = H.size) (oq : ∀ q, q ≠ a → H1[q]? = H[q]?) (ha : eb V ≤ a) : rx_F V s H1 (locs ++ [⟨a, k⟩]) := by
  refine ⟨fun q hq => (oq q (by omega)).trans (hF.1 q hq), fun l hl => ?_, by rw [z]; exact hF.2.2⟩
  rcases List.mem_append.mp hl with h | h
  · exact hF.2.1 l h
  · rw [List.mem_singleton.mp h]; exact ha
theorem rx_F_push {s : State} {H H1 : Heap} {locs : List Loc} (hF : rx_F V s H locs) (z : H1.size = H.size + 1) (oq : ∀ q, q < H.size → H1[q]? = H[q]?) (hb : eb V ≤ H.size) : rx_F V s H1 locs :=
  ⟨fun q hq => (oq q (by omega)).trans (hF.1 q hq), hF.2.1, by rw [z]; have := hF.2.2; omega⟩
-- a class: its place, name, fields, their types
def rx_Cl (V : rx_V) (ci : Nat) (C : String) (T : u_T) (N : Nat) (ty : Nat → FieldType) : Prop := (eC V)[ci]? = some (C, T, N) ∧ (∀ w ∈ u_ws C T N, w ∈ eW V) ∧ (∀ k, k < N → parseFieldDescriptor (T k).2.2.1 = some (ty k)) ∧ (∀ a, a < N → ∀ b, b < N → a ≠ b → (T a).2.1 ≠ (T b).2.1)
-- what an entry of ours is
noncomputable def rx_ob {β : Type} (h : rx_H) (o ci : Nat) (k : List (List Nat) → Option β) : Option β := bif Nat.beq (o % 8) 2 && Nat.blt (o / 8) h.1 then (match rx_hg h (o / 8) with
  | (z, c, _, fs, _) => bif Nat.beq z 0 && Nat.beq c ci then k fs else none) else none
theorem rx_ob_some {β : Type} {h : rx_H} {o ci : Nat} {k : List (List Nat) → Option β} {r : β} (hf : rx_ob h o ci k = some r) : o % 8 = 2 ∧ o / 8 < h.1 ∧ ∃ n fs us, rx_hg h (o / 8) = (0, ci, n, fs, us) ∧ k fs = some r := by
  unfold rx_ob at hf
  obtain ⟨hc, hf⟩ := rx_bifn hf
  obtain ⟨h1, h2⟩ := Bool.and_eq_true_iff.mp hc
  refine ⟨rx_beq h1, Nat.le_of_ble_eq_true h2, ?_⟩
  generalize rx_hg h (o / 8) = e at hf
  obtain ⟨z, c, n, fs, us⟩ := e
  dsimp only at hf
  obtain ⟨hc, hf⟩ := rx_bifn hf
  obtain ⟨h3, h4⟩ := Bool.and_eq_true_iff.mp hc
  rw [rx_beq h3, rx_beq h4]
  exact ⟨n, fs, us, rfl, hf⟩
theorem rx_ob_at {h : rx_H} {H : Heap} {o ci n N : Nat} {fs : List (List Nat)} {us : List (Nat × Nat)} {C : String} {T : u_T} {ty : Nat → FieldType} (hW : rx_w V h H) (hcl : rx_Cl V ci C T N ty) (ho : o / 8 < h.1) (he : rx_hg h (o / 8) = (0, ci, n, fs, us)) : n = N ∧ t_OB (eb V + o / 8) ((eD V).1 ci) N ((eD V).2 ci) H (fun k => rx_v V (rx_fg fs k)) := by
  have h1 := hW.2.1 _ ho
  rw [he] at h1
  obtain ⟨⟨r, h2, h3⟩, h4⟩ := h1
  have h5 := Option.some.inj (h2.symm.trans hcl.1)
  rw [h5] at h3
  dsimp only at h3
  rw [← h3] at h4
  exact ⟨h3.symm, h4⟩
noncomputable def o_getf (ci k0 : Nat) (k : rx_K) : rx_K := fun lv st h => match st with
  | o :: r => rx_ob h o ci fun fs => rx_f (rx_fg fs k0) fun v => k lv (v :: r) h
  | _ => none
theorem rx_getfield {ci k0 index N : Nat} {C ref : String} {T : u_T} {ty : Nat → FieldType} (hcl : rx_Cl V ci C T N ty) (hk0 : k0 < N) (hsame : ∀ (args : Array Value) (s : State), (∀ w ∈ eW V, w.before args s = true) → ∀ x, s.fieldFound? (T k0).1 (T k0).2.1 (T k0).2.2.1 = some x → s.fieldFound? ref (T k0).2.1 (T k0).2.2.1 = some x) (hdg : decode M.2.1 pc = .ok (.getfield index, 3)) (hw : Cond.fieldLink M.1 index ref (T k0).2.1 (T k0).2.2.1 ∈ eW V) (hk : rx_OK V M d (pc + 3) f) : rx_OK V M d pc (o_getf ci k0 f) := by
  refine rx_pure fun lv st h r h' hf => ?_
  match st, hf with
  | [], hf => cases hf
  | o :: st, hf =>
  simp only [o_getf, rx_f_eq] at hf
  obtain ⟨ho, hlt, n, fs, us, he, hf⟩ := rx_ob_some hf
  refine ⟨pc + 3, f, lv, _, hk, hf, fun p l e R s m args below meth c hC hE H locs ls cells slots Q hW hF hL kk => ?_⟩
  obtain ⟨-, cell, q1, q2, q3, q4⟩ := rx_ob_at hW hcl hlt he
  obtain ⟨hS, hfc, kC, hkC, hkind⟩ := hE.1.1 ci _ hcl.1
  obtain ⟨cf, kf, fi, fd, hi, hsl⟩ := hS k0 hk0
  have hts := hC.2.2.2.2.2.2.1
  rw [List.map_cons, rx_v_2 ho]
  refine W.getf hC.1 hC.2.1 hC.2.2.2.2.2.1 (hts _ hw) (hsame args s hts _ hi) (u_facts hfc hkC (u_lays hts hcl.2.1 hk0) hi).1 q1 (by rw [q3]; exact fun h => by cases h) (v := rx_v V (rx_fg fs k0)) ?_ rfl rfl hdg (kk ls hL)
  rw [hsl]
  exact q4 k0 hk0
theorem s_getf {ci k0 index N : Nat} {C : String} {T : u_T} {ty : Nat → FieldType} (hcl : rx_Cl V ci C T N ty) (hk0 : k0 < N) (hdg : decode M.2.1 pc = .ok (.getfield index, 3)) (hw : Cond.fieldLink M.1 index (T k0).1 (T k0).2.1 (T k0).2.2.1 ∈ eW V) (hk : rx_OK V M d (pc + 3) f) : rx_OK V M d pc (o_getf ci k0 f) := rx_getfield hcl hk0 (fun _ _ _ _ h => h) hdg hw hk
theorem s_getfS {ci k0 index N : Nat} {C ref : String} {T : u_T} {ty : Nat → FieldType} (hcl : rx_Cl V ci C T N ty) (hk0 : k0 < N) (hs : Cond.sameField ref (T k0).1 (T k0).2.1 (T k0).2.2.1 ∈ eW V) (hdg : decode M.2.1 pc = .ok (.getfield index, 3)) (hw : Cond.fieldLink M.1 index ref (T k0).2.1 (T k0).2.2.1 ∈ eW V) (hk : rx_OK V M d (pc + 3) f) : rx_OK V M d pc (o_getf ci k0 f) := rx_getfield hcl hk0 (fun args s hts x h => u_same (args := args) (hts _ hs) x h) hdg hw hk
-- what may lie in a field of a type
def rx_chk (ty : FieldType) : Nat → Bool := match ty with
  | .int => rx_isI
  | .long => rx_isL
  | .boolean => fun c => Nat.beq c 0 || Nat.beq c 8
  | .object _ => rx_isR
  | .array _ => rx_isR
  | _ => fun _ => false
theorem rx_chk_ok (hV : rx_Ok V) {ty : FieldType} {c : Nat} (h : rx_chk ty c = true) : narrow ty (rx_v V c) = rx_v V c ∧ fits ty (rx_v V c) = true := by
  cases ty with
  | int => obtain ⟨-, x, e⟩ := rx_isI_v hV h; rw [e]; exact ⟨rfl, rfl⟩
  | long => obtain ⟨-, e⟩ := rx_isL_v (V := V) h; rw [e]; exact ⟨rfl, rfl⟩
  | boolean =>
    rcases Bool.or_eq_true_iff.mp h with h | h
    · rw [rx_beq h, rx_v_0 rfl]; exact ⟨by decide +kernel, by decide +kernel⟩
    · rw [rx_beq h, rx_v_0 rfl]; exact ⟨by decide +kernel, by decide +kernel⟩
  | object n => obtain ⟨-, e | ⟨a, e⟩⟩ := rx_isR_v hV h <;> rw [e] <;> exact ⟨rfl, rfl⟩
  | array n => obtain ⟨-, e | ⟨a, e⟩⟩ := rx_isR_v hV h <;> rw [e] <;> exact ⟨rfl, rfl⟩
  | _ => cases h
noncomputable def o_putf (chk : Nat → Bool) (ci k0 : Nat) (k : rx_K) : rx_K := fun lv st h => match st with
  | v :: o :: r => bif chk v then rx_ob h o ci fun fs => rx_fs fs k0 v fun fs' => match rx_hg h (o / 8) with
    | (z, c, n, _, us) => rx_hs h (o / 8) (z, c, n, fs', us) fun h' => k lv r h'
    else none
  | _ => none
theorem rx_putfield (hV : rx_Ok V) {ci k0 index N : Nat} {C ref : String} {T : u_T} {ty : Nat → FieldType} (hcl : rx_Cl V ci C T N ty) (hk0 : k0 < N) (hsame : ∀ (args : Array Value) (s : State), (∀ w ∈ eW V, w.before args s = true) → ∀ x, s.fieldFound? (T k0).1 (T k0).2.1 (T k0).2.2.1 = some x → s.fieldFound? ref (T k0).2.1 (T k0).2.2.1 = some x) (hfin : (T k0).2.2.2 = false ∨ (M.2.2.2.2 = true ∧ (T k0).1 = M.1)) (hdg : decode M.2.1 pc = .ok (.putfield index, 3)) (hw : Cond.fieldLink M.1 index ref (T k0).2.1 (T k0).2.2.1 ∈ eW V) (hk : rx_OK V M d (pc + 3) f) : rx_OK V M d pc (o_putf (rx_chk (ty k0)) ci k0 f) := by
  refine rx_heap fun lv st h r h' hf => ?_
  match st, hf with
  | [], hf => cases hf
  | [_], hf => cases hf
  | v :: o :: st, hf =>
  simp only [o_putf] at hf
  obtain ⟨hv, hf⟩ := rx_bifn hf
  obtain ⟨ho, hlt, n, fs, us, he, hf⟩ := rx_ob_some hf
  obtain ⟨fs', hf, hfs⟩ := rx_fs_some hf
  rw [he] at hf
  obtain ⟨h1, hf, e1, e2, e3, eg⟩ := rx_hs_some hf
  obtain ⟨hn, hfit⟩ := rx_chk_ok hV hv
  refine ⟨pc + 3, f, lv, st, h1, hk, hf, by omega, by omega, fun p l e R s m args below meth c hC hE n0 z0 hn0 hz0 hR1 hR2 hR3 hR4 H locs ls Q hW hF hL kk => ?_⟩
  have hob := rx_ob_at hW hcl hlt he
  obtain ⟨hnN, cell, q1, q2, q3, q4⟩ := hob
  obtain ⟨hS, hfc, kC, hkC, hkind⟩ := hE.1.1 ci _ hcl.1
  obtain ⟨cf, kf, fi, fd, hi, hsl⟩ := hS k0 hk0
  have hts := hC.2.2.2.2.2.2.1
  have hap := va_apart (own := M.1) (tys := rx_tys V) hts hcl.2.1 ty hcl.2.2.1 hcl.2.2.2 hE.1 hcl.1
  have hlay := hts _ (hcl.2.1 _ (u_in_lay hk0))
  have hst := (u_facts hfc hkC (u_lays hts hcl.2.1 hk0) hi).1
  rw [List.map_cons, List.map_cons, rx_v_2 ho]
  have key : ∀ (H' : Heap), H'[eb V + o / 8]? = some (cell.setSlot fd.slot (rx_v V v)) → H'.size = H.size → (∀ q, q ≠ eb V + o / 8 → H'[q]? = H[q]?) → W p l e R s m args below meth c H' (locs ++ [⟨eb V + o / 8, fd.slot⟩]) (h.1 - n0) (h.2.1 - z0) Q (F0 m (pc + 3) ls (st.map (rx_v V))) := by
    intro H' x1 x2 x3
    have hkk := kk H' (locs ++ [⟨eb V + o / 8, fd.slot⟩]) ls ?_ (rx_F_set hF x2 x3 (by omega)) hL
    · rw [e1, e2] at hkk; exact hkk
    · refine rx_w_set hW hlt e1 e3 eg x2 x3 ⟨⟨_, hcl.1, hnN.symm⟩, ?_⟩
      rw [hsl] at x1
      rw [hnN]
      refine t_OB.to (V := updV (fun k => rx_v V (rx_fg fs k)) k0 (rx_v V v)) ⟨_, x1, q2, q3, t_set q4 hap hk0 (rx_v V v)⟩ (fun j _ => ?_)
      show updV _ _ _ _ = rx_v V (rx_fg fs' j)
      rw [hfs j]
      by_cases e : j = k0 <;> simp [updV, e]
  unfold u_lay at hlay
  rcases hfin with hfin | ⟨hini, hdecl⟩
  · rw [if_neg (by rw [hfin]; decide)] at hlay
    have h6 := u_store hfc hkC hkind hlay hi (hcl.2.2.1 k0 hk0) hn hfit
    exact W.putK hC.1 hC.2.1 (f := fd) ⟨hC.2.2.2.2.2.1, hts _ hw, ⟨_, _, _, hsame args s hts _ hi⟩, hst⟩ (by rw [q2]; exact h6) q1 q3 (by rw [hsl]; exact k2_hasslot (q4 k0 hk0)) rfl rfl hdg key
  · by_cases hff : (T k0).2.2.2 = true
    · rw [if_pos hff] at hlay
      have hcf : m.cls = cf := by
        obtain ⟨_, _, c', _, _, _, -, -, hf', -, -, -, hown2, -⟩ := Cond.laysFinal_spec hlay
        have e1 : c' = cf := by have := hi.symm.trans hf'; simp at this; exact this.1.symm
        rw [hdecl] at hown2
        rw [← e1]; exact Option.some.inj (hC.2.2.2.2.2.1.symm.trans hown2)
      have h6 := u_fits hfc hkC hkind (Or.inr hlay) hi (hcl.2.2.1 k0 hk0) hn hfit
      exact W.putFinK hC.1 hC.2.1 hC.2.2.2.2.2.1 (hts _ hw) (hsame args s hts _ hi) hst hcf (hC.2.2.2.2.2.2.2 hini) (by rw [q2]; exact h6) q1 q3 (by rw [hsl]; exact k2_hasslot (q4 k0 hk0)) rfl rfl hdg key
    · rw [if_neg hff] at hlay
      have h6 := u_store hfc hkC hkind hlay hi (hcl.2.2.1 k0 hk0) hn hfit
      exact W.putK hC.1 hC.2.1 (f := fd) ⟨hC.2.2.2.2.2.1, hts _ hw, ⟨_, _, _, hsame args s hts _ hi⟩, hst⟩ (by rw [q2]; exact h6) q1 q3 (by rw [hsl]; exact k2_hasslot (q4 k0 hk0)) rfl rfl hdg key
theorem s_putf (hV : rx_Ok V) {ci k0 index N : Nat} {C : String} {T : u_T} {ty : Nat → FieldType} (hcl : rx_Cl V ci C T N ty) (hk0 : k0 < N) (hfin : (T k0).2.2.2 = false ∨ (M.2.2.2.2 = true ∧ (T k0).1 = M.1)) (hdg : decode M.2.1 pc = .ok (.putfield index, 3)) (hw : Cond.fieldLink M.1 index (T k0).1 (T k0).2.1 (T k0).2.2.1 ∈ eW V) {chk : Nat → Bool} (hc : rx_chk (ty k0) = chk) (hk : rx_OK V M d (pc + 3) f) : rx_OK V M d pc (o_putf chk ci k0 f) := hc ▸ rx_putfield hV hcl hk0 (fun _ _ _ _ h => h) hfin hdg hw hk
theorem s_putfS (hV : rx_Ok V) {ci k0 index N : Nat} {C ref : String} {T : u_T} {ty : Nat → FieldType} (hcl : rx_Cl V ci C T N ty) (hk0 : k0 < N) (hs : Cond.sameField ref (T k0).1 (T k0).2.1 (T k0).2.2.1 ∈ eW V) (hfin : (T k0).2.2.2 = false ∨ (M.2.2.2.2 = true ∧ (T k0).1 = M.1)) (hdg : decode M.2.1 pc = .ok (.putfield index, 3)) (hw : Cond.fieldLink M.1 index ref (T k0).2.1 (T k0).2.2.1 ∈ eW V) {chk : Nat → Bool} (hc : rx_chk (ty k0) = chk) (hk : rx_OK V M d (pc + 3) f) : rx_OK V M d pc (o_putf chk ci k0 f) := hc ▸ rx_putfield hV hcl hk0 (fun args s hts x h => u_same (args := args) (hts _ hs) x h) hfin hdg hw hk
end RX15
end
section
section RX16
variable {V : rx_V} {M : rx_M} {d pc : Nat} {f t : rx_K}
-- an object is made: its fields' first values are codes 0, 1 (a long), 3 (a reference)
def rx_df (ty : FieldType) : Nat := match ty with
  | .long => 1
  | .object _ => 3
  | .array _ => 3
  | _ => 0
def rx_dfok (ty : FieldType) : Bool := match ty with
  | .float => false
  | .double => false
  | _ => true
theorem rx_df_v {ty : FieldType} (h : rx_dfok ty = true) : rx_v V (rx_df ty) = defaultValue ty := by
  cases ty with
  | float => cases h
  | double => cases h
  | _ => rfl
noncomputable def o_new (ci n : Nat) (fs : List (List Nat)) (k : rx_K) : rx_K := fun lv st h => rx_hp h (0, ci, n, fs, []) fun h1 => rx_f (8 * h.1 + 2) fun v => k lv (v :: st) h1
theorem s_new {ci index N : Nat} {C : String} {T : u_T} {ty : Nat → FieldType} {fs : List (List Nat)} (hcl : rx_Cl V ci C T N ty) (hfs : ∀ k, k < N → rx_dfok (ty k) = true ∧ rx_fg fs k = rx_df (ty k)) (hdg : decode M.2.1 pc = .ok (.new index, 3)) (hw1 : Cond.classLink M.1 index C ∈ eW V) (hw2 : Cond.instantiable C N ∈ eW V) (hw3 : Cond.initialized C ∈ eW V) (hk : rx_OK V M d (pc + 3) f) : rx_OK V M d pc (o_new ci N fs f) := by
  refine rx_heap fun lv st h r h' hf => ?_
  simp only [o_new, rx_f_eq] at hf
  obtain ⟨h1, hf, e1, e2, e3, eg⟩ := rx_hp_some hf
  dsimp only at e2
  refine ⟨pc + 3, f, lv, _, h1, hk, hf, by omega, by omega, fun p l e R s m args below meth c hC hE n0 z0 hn0 hz0 hR1 hR2 hR3 hR4 H locs ls Q hW hF hL kk => ?_⟩
  have hts := hC.2.2.2.2.2.2.1
  have hKn := hE.1.1 ci _ hcl.1
  refine W.newcK hC.1 hC.2.1 hC.2.2.2.2.2.1 (hts _ hw1) (hts _ hw2) (hts _ hw3) rfl hdg (by omega) (by omega) hKn.2.1 rfl fun H1 kC hkC x1 z1 o1 => ?_
  have hb : eb V ≤ H.size := by rw [hW.1]; omega
  have hk2 := kk H1 locs ls (rx_w_push hW e1 e3 eg z1 o1 ⟨⟨_, hcl.1, rfl⟩, ?_⟩) (rx_F_push hF z1 o1 hb) hL
  · rw [List.map_cons, rx_v_2 (by omega), show (8 * h.1 + 2) / 8 = h.1 by omega, ← hW.1, e1, e2, show h.1 + 1 - n0 = h.1 - n0 + 1 by omega, show h.2.1 + N - z0 = h.2.1 - z0 + N by omega] at hk2
    exact hk2
  · have x2 : H1[eb V + h.1]? = some (blank ((eD V).1 ci) kC) := by rw [← hW.1]; exact x1
    exact (u_born ty hts hcl.2.1 hKn hkC x2 hcl.2.2.1).to (fun k hk => by rw [(hfs k hk).2]; exact (rx_df_v (hfs k hk).1).symm)
-- arrays
noncomputable def rx_ar {β : Type} (h : rx_H) (o tt : Nat) (k : Nat → Nat → List (Nat × Nat) → Option β) : Option β := bif Nat.beq (o % 8) 2 && Nat.blt (o / 8) h.1 then (match rx_hg h (o / 8) with
  | (z, _, n, fs, us) => bif Nat.beq z (tt + 1) then k n (rx_fg fs 0) us else none) else none
theorem rx_ar_some {β : Type} {h : rx_H} {o tt : Nat} {k : Nat → Nat → List (Nat × Nat) → Option β} {r : β} (hf : rx_ar h o tt k = some r) : o % 8 = 2 ∧ o / 8 < h.1 ∧ ∃ a n fs us, rx_hg h (o / 8) = (tt + 1, a, n, fs, us) ∧ k n (rx_fg fs 0) us = some r := by
  unfold rx_ar at hf
  obtain ⟨hc, hf⟩ := rx_bifn hf
  obtain ⟨h1, h2⟩ := Bool.and_eq_true_iff.mp hc
  refine ⟨rx_beq h1, Nat.le_of_ble_eq_true h2, ?_⟩
  generalize rx_hg h (o / 8) = e at hf
  obtain ⟨z, a, n, fs, us⟩ := e
  dsimp only at hf
  obtain ⟨hc, hf⟩ := rx_bifn hf
  rw [rx_beq hc]
  exact ⟨a, n, fs, us, rfl, hf⟩
theorem rx_ar_at {h : rx_H} {H : Heap} {o tt a n : Nat} {fs : List (List Nat)} {us : List (Nat × Nat)} (hW : rx_w V h H) (ho : o / 8 < h.1) (he : rx_hg h (o / 8) = (tt + 1, a, n, fs, us)) : H[eb V + o / 8]? = some (arrV (eA V tt) n (fun j => rx_v V (rx_lk (rx_fg fs 0) us j))) := by
  have h1 := hW.2.1 _ ho
  rw [he] at h1
  exact h1
theorem rx_ty {s : State} {tt : Nat} {ty : FieldType} (hE : rx_En V s) (ht : (eT V)[tt]? = some ty) : ArrOfT s (eA V tt) ty ∧ va_RA s (eA V tt) ty := hE.1.2 tt _ (rx_tys_at ht)
theorem rx_in {x : Int32} {i n : Nat} (hx : x = Int32.ofNat i) (hn : i < n) (h31 : n < 2147483648) : ¬ (x < 0 ∨ n ≤ x.toNatClampNeg) ∧ x.toNatClampNeg = i := by
  subst hx
  have e : (Int32.ofNat i).toNatClampNeg = i := nI_clamp (n := i) (by omega)
  have p : ¬ Int32.ofNat i < 0 := nI_pos (n := i) (by omega)
  rw [e]
  exact ⟨fun q => q.elim p (fun z => by omega), rfl⟩
noncomputable def o_alen (tt : Nat) (k : rx_K) : rx_K := fun lv st h => match st with
  | o :: r => rx_ar h o tt fun n _ _ => bif Nat.blt n 268435456 then rx_f (8 * n) fun v => k lv (v :: r) h else none
  | _ => none
theorem s_alen {tt : Nat} {ty : FieldType} (ht : (eT V)[tt]? = some ty) (hdg : decode M.2.1 pc = .ok (.arraylength, 1)) (hk : rx_OK V M d (pc + 1) f) : rx_OK V M d pc (o_alen tt f) := by
  refine rx_pure fun lv st h r h' hf => ?_
  match st, hf with
  | [], hf => cases hf
  | o :: st, hf =>
  simp only [o_alen, rx_f_eq] at hf
  obtain ⟨ho, hlt, a, n, fs, us, he, hf⟩ := rx_ar_some hf
  obtain ⟨hn, hf⟩ := rx_bifn hf
  refine ⟨pc + 1, f, lv, _, hk, hf, fun p l e R s m args below meth c hC hE H locs ls cells slots Q hW hF hL kk => ?_⟩
  have hat := rx_ar_at hW hlt he
  have h2 := kk ls hL
  rw [List.map_cons, rx_v_0 (by omega)] at h2
  rw [List.map_cons, rx_v_2 ho]
  refine W.alen hC.1 hC.2.1 hat ((rx_ty hE ht).1 n _) ?_ rfl rfl hdg h2
  rw [arrV_size]
  show Int32.ofNat n = rx_di (8 * n)
  unfold rx_di
  rw [show 8 * n / 8 = n by omega]
-- loads: i, l, b, z, a
noncomputable def o_ald (tt : Nat) (k : rx_K) : rx_K := fun lv st h => match st with
  | i :: o :: r => bif Nat.beq (i % 8) 0 then rx_ar h o tt fun n dv us => bif Nat.blt (i / 8) n && Nat.blt n 268435456 then rx_f (rx_lk dv us (i / 8)) fun v => k lv (v :: r) h else none else none
  | _ => none
theorem rx_ald {tt : Nat} (row : ∀ (p : Program) (l : Launch) (e : Env) (R : Room) (s : State) (m : MethodId) (args : Array Value) (below : List Frame) (meth : Method) (c : Code) (H : Heap) (locs : List Loc) (ls : Array Slot) (cells slots : Nat) (Q : State → Prop), rx_Cx V M p s m args meth c → rx_En V s → ∀ (a n : Nat) (g : Nat → Value) (j : Int32) (v : Value) (rest : List Value), H[a]? = some (arrV (eA V tt) n g) → ¬ (j < 0 ∨ (arrV (eA V tt) n g).slots.size ≤ j.toNatClampNeg) → (arrV (eA V tt) n g).slots[j.toNatClampNeg]? = some v → W p l e R s m args below meth c H locs cells slots Q (F0 m (pc + 1) ls (v :: rest)) → W p l e R s m args below meth c H locs cells slots Q (F0 m pc ls (.int j :: .ref a :: rest))) (hk : rx_OK V M d (pc + 1) f) : rx_OK V M d pc (o_ald tt f) := by
  refine rx_pure fun lv st h r h' hf => ?_
  match st, hf with
  | [], hf => cases hf
  | [_], hf => cases hf
  | i :: o :: st, hf =>
  simp only [o_ald, rx_f_eq] at hf
  obtain ⟨hi, hf⟩ := rx_bifn hf
  obtain ⟨ho, hlt, a, n, fs, us, he, hf⟩ := rx_ar_some hf
  obtain ⟨hc, hf⟩ := rx_bifn hf
  obtain ⟨h1, h2⟩ := Bool.and_eq_true_iff.mp hc
  have h1 : i / 8 < n := Nat.le_of_ble_eq_true h1
  have h2 : n < 268435456 := Nat.le_of_ble_eq_true h2
  refine ⟨pc + 1, f, lv, _, hk, hf, fun p l e R s m args below meth c hC hE H locs ls cells slots Q hW hF hL kk => ?_⟩
  have hat := rx_ar_at hW hlt he
  obtain ⟨x1, x2⟩ := rx_in (x := rx_di i) (i := i / 8) (n := n) rfl h1 (by omega)
  rw [List.map_cons, List.map_cons, rx_v_0 (rx_beq hi), rx_v_2 ho]
  refine row p l e R s m args below meth c H locs ls cells slots Q hC hE _ n _ _ (rx_v V (rx_lk (rx_fg fs 0) us (i / 8))) _ hat (by rw [arrV_size]; exact x1) ?_ (kk ls hL)
  rw [x2, arrV_read _ _ h1]
theorem s_iald {tt : Nat} (ht : (eT V)[tt]? = some .int) (hdg : decode M.2.1 pc = .ok (.iaload, 1)) (hk : rx_OK V M d (pc + 1) f) : rx_OK V M d pc (o_ald tt f) :=
  rx_ald (fun p l e R s m args below meth c H locs ls cells slots Q hC hE a n g j v rest h1 h2 h3 kk => W.iald hC.1 hC.2.1 h1 ((rx_ty hE ht).1 n g) (fun q => by cases q) h2 h3 rfl rfl hdg kk) hk
theorem s_lald {tt : Nat} (ht : (eT V)[tt]? = some .long) (hdg : decode M.2.1 pc = .ok (.laload, 1)) (hk : rx_OK V M d (pc + 1) f) : rx_OK V M d pc (o_ald tt f) :=
  rx_ald (fun p l e R s m args below meth c H locs ls cells slots Q hC hE a n g j v rest h1 h2 h3 kk => W.lald hC.1 hC.2.1 h1 ((rx_ty hE ht).1 n g) (fun q => by cases q) h2 h3 rfl rfl hdg kk) hk
theorem s_bald {tt : Nat} (ht : (eT V)[tt]? = some .byte) (hdg : decode M.2.1 pc = .ok (.baload, 1)) (hk : rx_OK V M d (pc + 1) f) : rx_OK V M d pc (o_ald tt f) :=
  rx_ald (fun p l e R s m args below meth c H locs ls cells slots Q hC hE a n g j v rest h1 h2 h3 kk => W.bald hC.1 hC.2.1 h1 ((rx_ty hE ht).1 n g) (fun q => by cases q) h2 h3 rfl rfl hdg kk) hk
theorem s_zald {tt : Nat} (ht : (eT V)[tt]? = some .boolean) (hdg : decode M.2.1 pc = .ok (.baload, 1)) (hk : rx_OK V M d (pc + 1) f) : rx_OK V M d pc (o_ald tt f) :=
  rx_ald (fun p l e R s m args below meth c H locs ls cells slots Q hC hE a n g j v rest h1 h2 h3 kk => W.zald hC.1 hC.2.1 h1 ((rx_ty hE ht).1 n g) (fun q => by cases q) h2 h3 rfl rfl hdg kk) hk
theorem s_aald {tt : Nat} {ty : FieldType} (ht : (eT V)[tt]? = some ty) (hr : ty.isReference = true) (hdg : decode M.2.1 pc = .ok (.aaload, 1)) (hk : rx_OK V M d (pc + 1) f) : rx_OK V M d pc (o_ald tt f) :=
  rx_ald (fun p l e R s m args below meth c H locs ls cells slots Q hC hE a n g j v rest h1 h2 h3 kk => W.aald hC.1 hC.2.1 h1 ((rx_ty hE ht).1 n g) hr (fun q => by cases q) h2 h3 rfl rfl hdg kk) hk
-- stores
noncomputable def o_ast (tt : Nat) (g : Nat → Nat) (chk : Nat → Bool) (k : rx_K) : rx_K := fun lv st h => match st with
  | v :: i :: o :: r => bif chk v && Nat.beq (i % 8) 0 then rx_ar h o tt fun n dv us => bif Nat.blt (i / 8) n && Nat.blt n 268435456 then rx_f (i / 8) fun j => rx_f (g v) fun v' => rx_hs h (o / 8) (tt + 1, n, n, [[dv]], (j, v') :: us) fun h' => k lv r h' else none else none
  | _ => none
theorem rx_arrset {cA : ClassId} {n i : Nat} {g : Nat → Value} {v : Value} {dv : Nat} {us : List (Nat × Nat)} {c : Nat} (hg : ∀ j, g j = rx_v V (rx_lk dv us j)) (hv : v = rx_v V c) : (arrV cA n g).setSlot i v = arrV cA n (fun j => rx_v V (rx_lk (rx_fg [[dv]] 0) ((i, c) :: us) j)) := by
  rw [arrV_store]
  congr 1
  funext j
  show updV g i v j = rx_v V (rx_lk dv ((i, c) :: us) j)
  rw [rx_lk_cons]
  by_cases e : j = i
  · simp [updV, e, hv]
  · simp [updV, e, hg j]
theorem rx_ast {tt : Nat} {g : Nat → Nat} {chk : Nat → Bool} (row : ∀ (p : Program) (l : Launch) (e : Env) (R : Room) (s : State) (m : MethodId) (args : Array Value) (below : List Frame) (meth : Method) (c : Code) (H : Heap) (locs : List Loc) (ls : Array Slot) (cells slots : Nat) (Q : State → Prop), rx_Cx V M p s m args meth c → rx_En V s → ∀ (h : rx_H) (a n : Nat) (z : Nat → Value) (j : Int32) (v : Nat) (rest : List Value), chk v = true → rx_w V h H → H[a]? = some (arrV (eA V tt) n z) → ¬ (j < 0 ∨ (arrV (eA V tt) n z).slots.size ≤ j.toNatClampNeg) → (∀ H' : Heap, H'[a]? = some ((arrV (eA V tt) n z).setSlot j.toNatClampNeg (rx_v V (g v))) → H'.size = H.size → (∀ q, q ≠ a → H'[q]? = H[q]?) → W p l e R s m args below meth c H' (locs ++ [⟨a, j.toNatClampNeg⟩]) cells slots Q (F0 m (pc + 1) ls rest)) → W p l e R s m args below meth c H locs cells slots Q (F0 m pc ls (rx_v V v :: .int j :: .ref a :: rest))) (hk : rx_OK V M d (pc + 1) f) : rx_OK V M d pc (o_ast tt g chk f) := by
  refine rx_heap fun lv st h r h' hf => ?_
  match st, hf with
  | [], hf => cases hf
  | [_], hf => cases hf
  | [_, _], hf => cases hf
  | v :: i :: o :: st, hf =>
  simp only [o_ast, rx_f_eq] at hf
  obtain ⟨hc, hf⟩ := rx_bifn hf
  obtain ⟨hv, hi⟩ := Bool.and_eq_true_iff.mp hc
  obtain ⟨ho, hlt, a, n, fs, us, he, hf⟩ := rx_ar_some hf
  obtain ⟨hc, hf⟩ := rx_bifn hf
  obtain ⟨h1, h2⟩ := Bool.and_eq_true_iff.mp hc
  have h1 : i / 8 < n := Nat.le_of_ble_eq_true h1
  have h2 : n < 268435456 := Nat.le_of_ble_eq_true h2
  obtain ⟨hh, hf, e1, e2, e3, eg⟩ := rx_hs_some hf
  refine ⟨pc + 1, f, lv, st, hh, hk, hf, by omega, by omega, fun p l e R s m args below meth c hC hE n0 z0 hn0 hz0 hR1 hR2 hR3 hR4 H locs ls Q hW hF hL kk => ?_⟩
  have hat := rx_ar_at hW hlt he
  obtain ⟨x1, x2⟩ := rx_in (x := rx_di i) (i := i / 8) (n := n) rfl h1 (by omega)
  rw [List.map_cons, List.map_cons, List.map_cons, rx_v_0 (rx_beq hi), rx_v_2 ho]
  refine row p l e R s m args below meth c H locs ls _ _ Q hC hE h _ n _ _ v _ hv hW hat (by rw [arrV_size]; exact x1) fun H' y1 y2 y3 => ?_
  have hkk := kk H' (locs ++ [⟨eb V + o / 8, (rx_di i).toNatClampNeg⟩]) ls ?_ (rx_F_set hF y2 y3 (by omega)) hL
  · rw [e1, e2] at hkk; exact hkk
  · refine rx_w_set hW hlt e1 e3 eg y2 y3 ?_
    show H'[_]? = _
    rw [y1, x2, rx_arrset (fun j => rfl) rfl]
theorem s_iast (hV : rx_Ok V) {tt : Nat} (ht : (eT V)[tt]? = some .int) (hdg : decode M.2.1 pc = .ok (.iastore, 1)) (hk : rx_OK V M d (pc + 1) f) : rx_OK V M d pc (o_ast tt (fun v => v) rx_isI f) :=
  rx_ast (fun p l e R s m args below meth c H locs ls cells slots Q hC hE h a n z j v rest hv hW h1 h2 kk => by
    obtain ⟨-, x, ex⟩ := rx_isI_v hV hv
    rw [ex] at kk ⊢
    exact W.iast hC.1 hC.2.1 h1 ((rx_ty hE ht).1 n z) (fun q => by cases q) h2 rfl rfl hdg kk) hk
theorem s_last {tt : Nat} (ht : (eT V)[tt]? = some .long) (hdg : decode M.2.1 pc = .ok (.lastore, 1)) (hk : rx_OK V M d (pc + 1) f) : rx_OK V M d pc (o_ast tt (fun v => v) rx_isL f) :=
  rx_ast (fun p l e R s m args below meth c H locs ls cells slots Q hC hE h a n z j v rest hv hW h1 h2 kk => by
    obtain ⟨-, ex⟩ := rx_isL_v (V := V) hv
    rw [ex] at kk ⊢
    exact W.last hC.1 hC.2.1 h1 ((rx_ty hE ht).1 n z) (fun q => by cases q) h2 rfl rfl hdg kk) hk
-- a byte: what is narrow already stays (also what comes from outside by (byte)); else it is narrowed
def rx_isB (c : Nat) : Bool := Nat.beq (c % 8) 0 || (Nat.beq (c % 8) 5 && Nat.beq (c / 8 / 160) 1)
def rx_nb (c : Nat) : Nat := bif Nat.beq (c % 8) 0 then rx_ei (rx_di c).toInt8.toInt32 else c
theorem s_bast {tt : Nat} (ht : (eT V)[tt]? = some .byte) (hdg : decode M.2.1 pc = .ok (.bastore, 1)) (hk : rx_OK V M d (pc + 1) f) : rx_OK V M d pc (o_ast tt rx_nb rx_isB f) :=
  rx_ast (fun p l e R s m args below meth c H locs ls cells slots Q hC hE h a n z j v rest hv hW h1 h2 kk => by
    rcases Bool.or_eq_true_iff.mp hv with q | q
    · have e0 := rx_beq q
      unfold rx_nb at kk
      rw [q, cond_true, rx_v_ei] at kk
      rw [rx_v_0 e0]
      exact W.bast hC.1 hC.2.1 h1 ((rx_ty hE ht).1 n z) (fun q => by cases q) h2 rfl rfl hdg kk
    · obtain ⟨q1, q2⟩ := Bool.and_eq_true_iff.mp q
      have e5 := rx_beq q1
      have e1 := rx_beq q2
      unfold rx_nb at kk
      have e0 : Nat.beq (v % 8) 0 = false := by rw [e5]; rfl
      rw [e0, cond_false, rx_v_5 e5] at kk
      rw [rx_v_5 e5]
      unfold rx_x at kk ⊢
      dsimp only at kk ⊢
      rw [if_neg (by omega), if_pos e1] at kk ⊢
      refine W.bast hC.1 hC.2.1 h1 ((rx_ty hE ht).1 n z) (fun q => by cases q) h2 rfl rfl hdg ?_
      rw [pk_nb]
      exact kk) hk
def rx_isZ (c : Nat) : Bool := Nat.beq c 0 || Nat.beq c 8
theorem s_zast {tt : Nat} (ht : (eT V)[tt]? = some .boolean) (hdg : decode M.2.1 pc = .ok (.bastore, 1)) (hk : rx_OK V M d (pc + 1) f) : rx_OK V M d pc (o_ast tt (fun v => v) rx_isZ f) :=
  rx_ast (fun p l e R s m args below meth c H locs ls cells slots Q hC hE h a n z j v rest hv hW h1 h2 kk => by
    rcases Bool.or_eq_true_iff.mp hv with q | q
    · rw [rx_beq q, rx_v_0 rfl] at kk ⊢
      exact W.zast hC.1 hC.2.1 h1 ((rx_ty hE ht).1 n z) (fun q => by cases q) h2 rfl rfl hdg kk
    · rw [rx_beq q, rx_v_0 rfl] at kk ⊢
      exact W.zast hC.1 hC.2.1 h1 ((rx_ty hE ht).1 n z) (fun q => by cases q) h2 rfl rfl hdg kk) hk
end RX16
end
section
section RX17
variable {V : rx_V} {M : rx_M} {d pc : Nat} {f t : rx_K}
-- arrays are made
noncomputable def o_newa (tt dc : Nat) (k : rx_K) : rx_K := fun lv st h => match st with
  | n :: r => bif Nat.beq (n % 8) 0 && Nat.blt (n / 8) 1000000 then rx_f (n / 8) fun N => rx_hp h (tt + 1, N, N, [[dc]], []) fun h1 => rx_f (8 * h.1 + 2) fun v => k lv (v :: r) h1 else none
  | _ => none
theorem rx_RAp {s : State} {cA cB : ClassId} {ty : FieldType} (hr : ty.isReference = false) (h : va_RA s cA ty) (h2 : s.vm.findClass ("[" ++ ty.toString) = some cB) : cB = cA := by
  cases ty <;> first | exact Option.some.inj (h2.symm.trans h) | cases hr
theorem rx_RAo {s : State} {cA cB : ClassId} {C : String} (h : va_RA s cA (.object C)) (h2 : s.vm.findClass ("[" ++ (FieldType.object C).toString) = some cB) : cB = cA := by
  obtain ⟨-, -, -, -, -, h3⟩ := h
  exact Option.some.inj (h2.symm.trans h3)
theorem s_newa {tt dc : Nat} {atype : ArrayType} {ty : FieldType} (hty : newarray.typeOf atype = ty) (ht : (eT V)[tt]? = some ty) (hr : ty.isReference = false) (hd : rx_dfok ty = true) (hdc : rx_df ty = dc) (hcb : componentBytes ty ≤ 8) (hw : Cond.arrayClass ty ∈ eW V) (hdg : decode M.2.1 pc = .ok (.newarray atype, 2)) (hk : rx_OK V M d (pc + 2) f) : rx_OK V M d pc (o_newa tt dc f) := by
  subst hty
  refine rx_heap fun lv st h r h' hf => ?_
  match st, hf with
  | [], hf => cases hf
  | n :: st, hf =>
  simp only [o_newa, rx_f_eq] at hf
  obtain ⟨hc, hf⟩ := rx_bifn hf
  obtain ⟨hn, hlt⟩ := Bool.and_eq_true_iff.mp hc
  have hlt : n / 8 < 1000000 := Nat.le_of_ble_eq_true hlt
  obtain ⟨h1, hf, e1, e2, e3, eg⟩ := rx_hp_some hf
  dsimp only at e2
  refine ⟨pc + 2, f, lv, _, h1, hk, hf, by omega, by omega, fun p l e R s m args below meth c hC hE n0 z0 hn0 hz0 hR1 hR2 hR3 hR4 H locs ls Q hW hF hL kk => ?_⟩
  have hts := hC.2.2.2.2.2.2.1
  obtain ⟨x1, x2⟩ := rx_in (x := rx_di n) (i := n / 8) (n := n / 8 + 1) rfl (by omega) (by omega)
  rw [List.map_cons, rx_v_0 (rx_beq hn)]
  have hb8 : n / 8 * componentBytes (newarray.typeOf atype) ≤ n / 8 * 8 := Nat.mul_le_mul_left _ hcb
  refine va_newaK hC.1 hC.2.1 (hts _ hw) rfl hdg rfl (fun q => x1 (Or.inl q)) x2 (by omega) (by omega) (by omega) rfl fun H1 cA g1 g2 g3 g4 g5 => ?_
  have hb : eb V ≤ H.size := by rw [hW.1]; omega
  have ecA : cA = eA V tt := rx_RAp hr (rx_ty hE ht).2 g5
  have hk2 := kk H1 locs ls (rx_w_push hW e1 e3 eg g2 g3 ?_) (rx_F_push hF g2 g3 hb) hL
  · rw [List.map_cons, rx_v_2 (by omega), show (8 * h.1 + 2) / 8 = h.1 by omega, ← hW.1, e1, e2, show h.1 + 1 - n0 = h.1 - n0 + 1 by omega, show h.2.1 + n / 8 - z0 = h.2.1 - z0 + n / 8 by omega] at hk2
    exact hk2
  · show H1[eb V + h.1]? = some (arrV (eA V tt) (n / 8) (fun j => rx_v V dc))
    rw [← hW.1, g1, ecA, ← hdc, rx_df_v hd]
theorem s_anewa {tt index : Nat} {C : String} (ht : (eT V)[tt]? = some (.object C)) (hw1 : Cond.classLink M.1 index C ∈ eW V) (hw2 : Cond.arrayOver (.object C) ∈ eW V) (hdg : decode M.2.1 pc = .ok (.anewarray index, 3)) (hk : rx_OK V M d (pc + 3) f) : rx_OK V M d pc (o_newa tt 3 f) := by
  refine rx_heap fun lv st h r h' hf => ?_
  match st, hf with
  | [], hf => cases hf
  | n :: st, hf =>
  simp only [o_newa, rx_f_eq] at hf
  obtain ⟨hc, hf⟩ := rx_bifn hf
  obtain ⟨hn, hlt⟩ := Bool.and_eq_true_iff.mp hc
  have hlt : n / 8 < 1000000 := Nat.le_of_ble_eq_true hlt
  obtain ⟨h1, hf, e1, e2, e3, eg⟩ := rx_hp_some hf
  dsimp only at e2
  refine ⟨pc + 3, f, lv, _, h1, hk, hf, by omega, by omega, fun p l e R s m args below meth c hC hE n0 z0 hn0 hz0 hR1 hR2 hR3 hR4 H locs ls Q hW hF hL kk => ?_⟩
  have hts := hC.2.2.2.2.2.2.1
  obtain ⟨x1, x2⟩ := rx_in (x := rx_di n) (i := n / 8) (n := n / 8 + 1) rfl (by omega) (by omega)
  rw [List.map_cons, rx_v_0 (rx_beq hn)]
  refine W.anew hC.1 hC.2.1 hC.2.2.2.2.2.1 (hts _ hw1) (hts _ hw2) rfl hdg rfl (fun q => x1 (Or.inl q)) (by rw [x2]; omega) (by omega) (by rw [x2]; omega) fun cA kA comp f1 f2 f3 f4 => ?_
  rw [x2]
  generalize hH1 : H.push ({ cls := cA, slots := Array.replicate (n / 8) .null, vm := .none } : Cell) = H1
  have z1 : H1.size = H.size + 1 := by rw [← hH1, Array.size_push]
  have g1 : H1[H.size]? = some (arrV cA (n / 8) (fun _ => .null)) := by rw [← hH1, Array.getElem?_push_size, ← arrV_new]
  have o1 : ∀ q, q < H.size → H1[q]? = H[q]? := fun q hq => by rw [← hH1, Array.getElem?_push, if_neg (Nat.ne_of_lt hq)]
  have hb : eb V ≤ H.size := by rw [hW.1]; omega
  have ecA : cA = eA V tt := rx_RAo (rx_ty hE ht).2 f1
  have hk2 := kk H1 locs ls (rx_w_push hW e1 e3 eg z1 o1 ?_) (rx_F_push hF z1 o1 hb) hL
  · rw [List.map_cons, rx_v_2 (by omega), show (8 * h.1 + 2) / 8 = h.1 by omega, ← hW.1, e1, e2, show h.1 + 1 - n0 = h.1 - n0 + 1 by omega, show h.2.1 + n / 8 - z0 = h.2.1 - z0 + n / 8 by omega] at hk2
    exact hk2
  · show H1[eb V + h.1]? = some (arrV (eA V tt) (n / 8) (fun j => rx_v V 3))
    rw [← hW.1, g1, ecA]
    rfl
-- null and references compared
noncomputable def o_nul (t f : rx_K) : rx_K := fun lv st h => match st with
  | v :: r => bif Nat.beq (v % 8) 3 then t lv r h else bif Nat.beq (v % 8) 2 then f lv r h else none
  | _ => none
theorem s_ifnull {off : Int} {tgt : Nat} (hdg : decode M.2.1 pc = .ok (.ifnull off, 3)) (ht : (pc : Int) + off = (tgt : Int)) (h1 : rx_OK V M d tgt t) (h2 : rx_OK V M d (pc + 3) f) : rx_OK V M d pc (o_nul t f) := by
  refine rx_pure fun lv st h r h' hf => ?_
  match st, hf with
  | [], hf => cases hf
  | v :: st, hf =>
  simp only [o_nul] at hf
  rcases rx_bif hf with ⟨hc, hf⟩ | ⟨-, hf⟩
  · refine ⟨tgt, t, lv, st, h1, hf, fun p l e R s m args below meth c hC hE H locs ls cells slots Q hW hF hL kk => ?_⟩
    rw [List.map_cons, rx_v_3 (rx_beq hc)]
    exact lv_ifnullN hC.1 hC.2.1 hdg ht (kk ls hL)
  · obtain ⟨hc, hf⟩ := rx_bifn hf
    refine ⟨pc + 3, f, lv, st, h2, hf, fun p l e R s m args below meth c hC hE H locs ls cells slots Q hW hF hL kk => ?_⟩
    rw [List.map_cons, rx_v_2 (rx_beq hc)]
    exact lv_ifnull hC.1 hC.2.1 hdg (kk ls hL)
theorem s_ifnonnull {off : Int} {tgt : Nat} (hdg : decode M.2.1 pc = .ok (.ifnonnull off, 3)) (ht : (pc : Int) + off = (tgt : Int)) (h1 : rx_OK V M d tgt t) (h2 : rx_OK V M d (pc + 3) f) : rx_OK V M d pc (o_nul f t) := by
  refine rx_pure fun lv st h r h' hf => ?_
  match st, hf with
  | [], hf => cases hf
  | v :: st, hf =>
  simp only [o_nul] at hf
  rcases rx_bif hf with ⟨hc, hf⟩ | ⟨-, hf⟩
  · refine ⟨pc + 3, f, lv, st, h2, hf, fun p l e R s m args below meth c hC hE H locs ls cells slots Q hW hF hL kk => ?_⟩
    rw [List.map_cons, rx_v_3 (rx_beq hc)]
    exact lv_ifnonnullN hC.1 hC.2.1 hdg (kk ls hL)
  · obtain ⟨hc, hf⟩ := rx_bifn hf
    refine ⟨tgt, t, lv, st, h1, hf, fun p l e R s m args below meth c hC hE H locs ls cells slots Q hW hF hL kk => ?_⟩
    rw [List.map_cons, rx_v_2 (rx_beq hc)]
    exact lv_ifnonnull hC.1 hC.2.1 hdg ht (kk ls hL)
-- are two references one: some b where it is known (ours, null; ours are none from outside; one from outside is itself)
def rx_same (x y : Nat) : Option Bool := bif (Nat.beq (x % 8) 2 || Nat.beq (x % 8) 3) && (Nat.beq (y % 8) 2 || Nat.beq (y % 8) 3) then (bif Nat.beq (x % 8) 3 then some (Nat.beq (y % 8) 3) else bif Nat.beq (y % 8) 3 then some false else some (Nat.beq (x / 8) (y / 8))) else
  bif Nat.beq (x % 8) 4 && (Nat.ble 5 (x / 8) && Nat.beq y x) then some true else
  bif Nat.beq (x % 8) 4 && (Nat.ble 5 (x / 8) && Nat.beq (y % 8) 2) then some false else
  bif Nat.beq (y % 8) 4 && (Nat.ble 5 (y / 8) && Nat.beq (x % 8) 2) then some false else none
theorem rx_same_ok (hV : rx_Ok V) {x y : Nat} {b : Bool} (h : rx_same x y = some b) : ∃ X Y : Option Nat, rx_v V x = va_rf X ∧ rx_v V y = va_rf Y ∧ (b = true ↔ X = Y) := by
  have hx : ∀ z : Nat, z % 8 = 4 → 5 ≤ z / 8 → ∃ Z : Option Nat, rx_v V z = va_rf Z ∧ ∀ q, Z = some q → q < eb V := by
    intro z h1 h2
    rw [rx_v_4 h1]
    rcases hV.2.1 _ h2 with e | ⟨a, l, e⟩
    · exact ⟨none, e, fun q w => by cases w⟩
    · exact ⟨some a, e, fun q w => by cases w; exact l⟩
  have n2 : ∀ z : Nat, z % 8 = 2 → rx_v V z = va_rf (some (eb V + z / 8)) := fun z h => rx_v_2 h
  have n3 : ∀ z : Nat, z % 8 = 3 → rx_v V z = va_rf none := fun z h => rx_v_3 h
  unfold rx_same at h
  rcases rx_bif h with ⟨hc, h⟩ | ⟨-, h⟩
  · obtain ⟨c1, c2⟩ := Bool.and_eq_true_iff.mp hc
    rcases rx_bif h with ⟨d1, h⟩ | ⟨d1, h⟩
    · have e := Option.some.inj h
      rcases Bool.or_eq_true_iff.mp c2 with q | q
      · refine ⟨none, _, n3 x (rx_beq d1), n2 y (rx_beq q), ?_⟩
        rw [← e, rx_beq q]; simp
      · refine ⟨none, none, n3 x (rx_beq d1), n3 y (rx_beq q), ?_⟩
        rw [← e, rx_beq q]; simp
    · have x2 : x % 8 = 2 := by
        rcases Bool.or_eq_true_iff.mp c1 with q | q
        · exact rx_beq q
        · rw [q] at d1; cases d1
      rcases rx_bif h with ⟨d2, h⟩ | ⟨d2, h⟩
      · refine ⟨_, none, n2 x x2, n3 y (rx_beq d2), ?_⟩
        rw [← Option.some.inj h]; simp
      · have y2 : y % 8 = 2 := by
          rcases Bool.or_eq_true_iff.mp c2 with q | q
          · exact rx_beq q
          · rw [q] at d2; cases d2
        refine ⟨_, _, n2 x x2, n2 y y2, ?_⟩
        rw [← Option.some.inj h]
        constructor
        · intro q; rw [rx_beq q]
        · intro q
          have := Option.some.inj q
          have e : x / 8 = y / 8 := by omega
          rw [e]; exact Nat.beq_refl _
  · rcases rx_bif h with ⟨hc, h9⟩ | ⟨-, h⟩
    · obtain ⟨c1, c2⟩ := Bool.and_eq_true_iff.mp hc
      obtain ⟨c2, c3⟩ := Bool.and_eq_true_iff.mp c2
      have e := rx_beq c3
      obtain ⟨Z, z1, -⟩ := hx x (rx_beq c1) (Nat.le_of_ble_eq_true c2)
      refine ⟨Z, Z, z1, by rw [e]; exact z1, ?_⟩
      rw [← Option.some.inj h9]; simp
    · rcases rx_bif h with ⟨hc, h⟩ | ⟨-, h⟩
      · obtain ⟨c1, c2⟩ := Bool.and_eq_true_iff.mp hc
        obtain ⟨c2, c3⟩ := Bool.and_eq_true_iff.mp c2
        obtain ⟨Z, z1, z2⟩ := hx x (rx_beq c1) (Nat.le_of_ble_eq_true c2)
        refine ⟨Z, _, z1, n2 y (rx_beq c3), ?_⟩
        rw [← Option.some.inj h]
        simp only [Bool.false_eq_true, false_iff]
        intro q
        have := z2 _ q
        omega
      · obtain ⟨hc, h⟩ := rx_bifn h
        obtain ⟨c1, c2⟩ := Bool.and_eq_true_iff.mp hc
        obtain ⟨c2, c3⟩ := Bool.and_eq_true_iff.mp c2
        obtain ⟨Z, z1, z2⟩ := hx y (rx_beq c1) (Nat.le_of_ble_eq_true c2)
        refine ⟨_, Z, n2 x (rx_beq c3), z1, ?_⟩
        rw [← Option.some.inj h]
        simp only [Bool.false_eq_true, false_iff]
        intro q
        have := z2 _ q.symm
        omega
noncomputable def o_acmp (t f : rx_K) : rx_K := fun lv st h => match st with
  | y :: x :: r => match rx_same x y with
    | some b => bif b then t lv r h else f lv r h
    | none => none
  | _ => none
theorem s_acmp_eq (hV : rx_Ok V) {off : Int} {tgt : Nat} (hdg : decode M.2.1 pc = .ok (.if_acmp .eq off, 3)) (ht : (pc : Int) + off = (tgt : Int)) (h1 : rx_OK V M d tgt t) (h2 : rx_OK V M d (pc + 3) f) : rx_OK V M d pc (o_acmp t f) := by
  refine rx_pure fun lv st h r h' hf => ?_
  match st, hf with
  | [], hf => cases hf
  | [_], hf => cases hf
  | y :: x :: st, hf =>
  simp only [o_acmp] at hf
  cases q : rx_same x y with
  | none => rw [q] at hf; cases hf
  | some b =>
  rw [q] at hf
  obtain ⟨X, Y, ex, ey, hb⟩ := rx_same_ok hV q
  cases b with
  | true =>
    refine ⟨tgt, t, lv, st, h1, hf, fun p l e R s m args below meth c hC hE H locs ls cells slots Q hW hF hL kk => ?_⟩
    rw [List.map_cons, List.map_cons, ex, ey]
    exact lv_acmp_eq hC.1 hC.2.1 hdg ht (fun _ => kk ls hL) (fun z => absurd (hb.mp rfl) z)
  | false =>
    refine ⟨pc + 3, f, lv, st, h2, hf, fun p l e R s m args below meth c hC hE H locs ls cells slots Q hW hF hL kk => ?_⟩
    rw [List.map_cons, List.map_cons, ex, ey]
    exact lv_acmp_eq hC.1 hC.2.1 hdg ht (fun z => absurd (hb.mpr z) (by decide)) (fun _ => kk ls hL)
theorem s_acmp_ne (hV : rx_Ok V) {off : Int} {tgt : Nat} (hdg : decode M.2.1 pc = .ok (.if_acmp .ne off, 3)) (ht : (pc : Int) + off = (tgt : Int)) (h1 : rx_OK V M d tgt t) (h2 : rx_OK V M d (pc + 3) f) : rx_OK V M d pc (o_acmp f t) := by
  refine rx_pure fun lv st h r h' hf => ?_
  match st, hf with
  | [], hf => cases hf
  | [_], hf => cases hf
  | y :: x :: st, hf =>
  simp only [o_acmp] at hf
  cases q : rx_same x y with
  | none => rw [q] at hf; cases hf
  | some b =>
  rw [q] at hf
  obtain ⟨X, Y, ex, ey, hb⟩ := rx_same_ok hV q
  cases b with
  | true =>
    refine ⟨pc + 3, f, lv, st, h2, hf, fun p l e R s m args below meth c hC hE H locs ls cells slots Q hW hF hL kk => ?_⟩
    rw [List.map_cons, List.map_cons, ex, ey]
    exact lv_acmp_ne hC.1 hC.2.1 hdg ht (fun z => absurd (hb.mp rfl) z) (fun _ => kk ls hL)
  | false =>
    refine ⟨tgt, t, lv, st, h1, hf, fun p l e R s m args below meth c hC hE H locs ls cells slots Q hW hF hL kk => ?_⟩
    rw [List.map_cons, List.map_cons, ex, ey]
    exact lv_acmp_ne hC.1 hC.2.1 hdg ht (fun _ => kk ls hL) (fun z => absurd (hb.mpr z) (by decide))
-- a reference is stored in an array
def rx_isN (c : Nat) : Bool := Nat.beq (c % 8) 3
noncomputable def o_aast (tt : Nat) (cis : List Nat) (k : rx_K) : rx_K := fun lv st h => match st with
  | v :: _ => bif rx_isN v then o_ast tt (fun v => v) rx_isN k lv st h else bif Nat.beq (v % 8) 2 && Nat.blt (v / 8) h.1 then (match rx_hg h (v / 8) with
    | (z, c, _, _, _) => bif Nat.beq z 0 && cis.any (Nat.beq c) then o_ast tt (fun v => v) (fun w => Nat.beq w v) k lv st h else none) else none
  | _ => none
theorem rx_aastN {tt : Nat} {C : String} (ht : (eT V)[tt]? = some (.object C)) (hdg : decode M.2.1 pc = .ok (.aastore, 1)) (hk : rx_OK V M d (pc + 1) f) : rx_OK V M d pc (o_ast tt (fun v => v) rx_isN f) :=
  rx_ast (fun p l e R s m args below meth c H locs ls cells slots Q hC hE h a n z j v rest hv hW h1 h2 kk => by
    rw [rx_v_3 (rx_beq hv)] at kk ⊢
    exact va_WaastN hC.1 hC.2.1 h1 ((rx_ty hE ht).1 n z) (fun q => by cases q) h2 rfl rfl hdg kk) hk
theorem s_aast {tt : Nat} {E : String} {cis : List Nat} (ht : (eT V)[tt]? = some (.object E)) (hcis : ∀ ci ∈ cis, ∃ r, (eC V)[ci]? = some r ∧ (r.1 = E ∨ Cond.castable r.1 E ∈ eW V)) (hdg : decode M.2.1 pc = .ok (.aastore, 1)) (hk : rx_OK V M d (pc + 1) f) : rx_OK V M d pc (o_aast tt cis f) := by
  intro lv st h r h' hf
  match st, hf with
  | [], hf => cases hf
  | v :: st, hf =>
  simp only [o_aast] at hf
  rcases rx_bif hf with ⟨-, hf⟩ | ⟨-, hf⟩
  · exact rx_aastN ht hdg hk lv (v :: st) h r h' hf
  · obtain ⟨hc0, hf0⟩ := rx_bifn hf
    clear hf
    obtain ⟨c1, c2⟩ := Bool.and_eq_true_iff.mp hc0
    have hlt : v / 8 < h.1 := Nat.le_of_ble_eq_true c2
    generalize he : rx_hg h (v / 8) = en at hf0
    obtain ⟨z, ci, nv, fv, uv⟩ := en
    dsimp only at hf0
    obtain ⟨hc1, hf1⟩ := rx_bifn hf0
    clear hf0
    obtain ⟨c3, c4⟩ := Bool.and_eq_true_iff.mp hc1
    rw [rx_beq c3] at he
    obtain ⟨ci', hm, hq⟩ := List.any_eq_true.mp c4
    have hq := rx_beq hq
    rw [← hq] at hm
    obtain ⟨rr, g1, g2⟩ := hcis _ hm
    match st, hf1 with
    | [], hf => cases hf
    | [_], hf => cases hf
    | i :: o :: st, hf2 =>
      simp only [o_ast, rx_f_eq] at hf2
      obtain ⟨hc2, hf3⟩ := rx_bifn hf2
      clear hf2
      obtain ⟨-, hi⟩ := Bool.and_eq_true_iff.mp hc2
      obtain ⟨ho, hlt2, a, n, fs, us, he2, hf4⟩ := rx_ar_some hf3
      clear hf3
      obtain ⟨hc3, hf⟩ := rx_bifn hf4
      clear hf4
      obtain ⟨i1, i2⟩ := Bool.and_eq_true_iff.mp hc3
      have i1 : i / 8 < n := Nat.le_of_ble_eq_true i1
      have i2 : n < 268435456 := Nat.le_of_ble_eq_true i2
      obtain ⟨hh, hf, e1, e2, e3, eg⟩ := rx_hs_some hf
      obtain ⟨m1, m2, kk⟩ := hk lv st hh r h' hf
      refine ⟨by omega, by omega, fun p l e R s m args below meth c hC hE n0 z0 hn0 hz0 hR1 hR2 hR3 hR4 H locs ls hW hF hL => ?_⟩
      have hat := rx_ar_at hW hlt2 he2
      obtain ⟨x1, x2⟩ := rx_in (x := rx_di i) (i := i / 8) (n := n) rfl i1 (by omega)
      rw [List.map_cons, List.map_cons, List.map_cons, rx_v_0 (rx_beq hi), rx_v_2 ho, rx_v_2 (rx_beq c1)]
      have hat1 := hW.2.1 _ hlt
      rw [he] at hat1
      obtain ⟨⟨r0, r1', r2'⟩, cellV, y1, y2, y3, -⟩ := hat1
      have hr0 : r0 = rr := Option.some.inj (r1'.symm.trans g1)
      subst hr0
      have hcls := (hE.1.1 ci r0 r1').2
      obtain ⟨kA, comp, k1, k2, k3, -⟩ := (rx_ty hE ht).2
      obtain ⟨kC, hkC, -⟩ := hcls.2
      have hts := hC.2.2.2.2.2.2.1
      obtain ⟨kcomp, hkcomp, -⟩ := Vm.findClass_spec k3
      have hass : s.vm.assignable cellV.cls comp = true := by
        rw [y2]
        rcases g2 with q | q
        · have hcomp : comp = (eD V).1 ci := by
            rw [q] at hcls
            exact Option.some.inj (k3.symm.trans hcls.1)
          rw [hcomp]
          exact va_assign hcls
        · have hca := hts _ q
          obtain ⟨cc1, cc2, w1, w2, w3⟩ := Cond.castable_spec hca
          have e1 := Option.some.inj (w1.symm.trans hcls.1)
          have e2 := Option.some.inj (w2.symm.trans k3)
          rw [← e1, ← e2]
          exact w3
      refine W.aast hC.1 hC.2.1 hat (fun q h => by cases h) (fun h => by cases h) k1 k2 rfl hkcomp ⟨fun q => x1 (Or.inl q), by rw [arrV_size]; exact Nat.not_le.mp fun q => x1 (Or.inr q)⟩ y1 (fun q h => by rw [y3] at h; cases h) (by rw [y2]; exact hkC) hass rfl rfl hdg fun H1 w1 w2 w3 => ?_
      have hkk := kk p l e R s m args below meth c hC hE n0 z0 (by omega) (by omega) hR1 hR2 hR3 hR4 H1 (locs ++ [⟨eb V + o / 8, (rx_di i).toNatClampNeg⟩]) ls ?_ (rx_F_set hF w2 w3 (by omega)) hL
      · rw [e1, e2] at hkk; exact hkk
      · refine rx_w_set hW hlt2 e1 e3 eg w2 w3 ?_
        show H1[_]? = _
        rw [w1, x2, rx_arrset (V := V) (c := v) (fun j => rfl) (rx_v_2 (rx_beq c1)).symm]
end RX17
end
section
section RX18
variable {V : rx_V} {M : rx_M} {d pc : Nat} {f t : rx_K}
-- ends
noncomputable def o_ret1 (chk : Nat → Bool) : rx_K := fun _ st h => match st with
  | [v] => bif chk v then some (v, h) else none
  | _ => none
noncomputable def o_ret0 : rx_K := fun _ st h => match st with
  | [] => some (7, h)
  | _ => none
theorem rx_r_v {c : Nat} (h : c % 8 ≠ 7) : rx_r V c = some (rx_v V c) := if_neg h
theorem rx_ret1 {chk : Nat → Bool} (row : ∀ (p : Program) (l : Launch) (e : Env) (R : Room) (s : State) (m : MethodId) (args : Array Value) (below : List Frame) (meth : Method) (c : Code) (H : Heap) (locs : List Loc) (ls : Array Slot) (cells slots : Nat) (Qc : Array Value → State → Outcome → State → Prop) (free : Addr → Prop), rx_Cx V M p s m args meth c → ∀ v : Nat, chk v = true → (∀ t : State, t.heap = H → Qc args s (.returned (some (rx_v V v))) t) → (∀ q ∈ locs, free q.base) → W p l e R s m args below meth c H locs cells slots (MQ below Qc args s cells slots free) (F0 m pc ls [rx_v V v])) (h7 : ∀ v : Nat, chk v = true → v % 8 ≠ 7) : rx_OK V M d pc (o_ret1 chk) := by
  intro lv st h r h' hf
  match st, hf with
  | [], hf => cases hf
  | _ :: _ :: _, hf => cases hf
  | [v], hf =>
  simp only [o_ret1] at hf
  obtain ⟨hc, hf⟩ := rx_bifn hf
  have e := Option.some.inj hf
  have e1 : v = r := congrArg Prod.fst e
  have e2 : h = h' := congrArg Prod.snd e
  subst e1; subst e2
  refine ⟨Nat.le_refl _, Nat.le_refl _, fun p l e R s m args below meth c hC hE n0 z0 hn hz hR1 hR2 hR3 hR4 H locs ls hW hF hL => ?_⟩
  exact row p l e R s m args below meth c H locs ls _ _ _ _ hC v hc (fun t ht => ⟨by rw [rx_r_v (h7 v hc)], by rw [ht]; exact hW, fun q hq => by rw [ht]; exact hF.1 q hq⟩) hF.2.1
theorem s_iret (hV : rx_Ok V) (hr : M.2.2.2.1 = some .int) (hdg : decode M.2.1 pc = .ok (.ireturn, 1)) : rx_OK V M d pc (o_ret1 rx_isI) :=
  rx_ret1 (fun p l e R s m args below meth c H locs ls cells slots Qc free hC v hv hq hf => by
    obtain ⟨-, x, ex⟩ := rx_isI_v hV hv
    rw [ex] at hq ⊢
    exact W.iret hC.1 hC.2.1 (hC.2.2.2.1.trans hr) (fun t ht _ => hq t ht) hf hdg hC.2.2.2.2.1) (fun v hv => (rx_isI_v hV hv).1)
theorem s_zret {ty : FieldType} {chk : Nat → Bool} (hchk : ∀ v, chk v = true → v % 8 = 0 ∧ narrow ty (.int (rx_di v)) = .int (rx_di v)) (hr : M.2.2.2.1 = some ty) (hdg : decode M.2.1 pc = .ok (.ireturn, 1)) : rx_OK V M d pc (o_ret1 chk) :=
  rx_ret1 (fun p l e R s m args below meth c H locs ls cells slots Qc free hC v hv hq hf => by
    obtain ⟨h0, hn⟩ := hchk v hv
    rw [rx_v_0 h0] at hq ⊢
    exact W.zret hC.1 hC.2.1 (hC.2.2.2.1.trans hr) hn (fun t ht _ => hq t ht) hf hdg hC.2.2.2.2.1) (fun v hv => by have := (hchk v hv).1; omega)
theorem rx_z_ok : ∀ v, rx_isZ v = true → v % 8 = 0 ∧ narrow .boolean (.int (rx_di v)) = .int (rx_di v) := by
  intro v hv
  rcases Bool.or_eq_true_iff.mp hv with q | q
  · rw [rx_beq q]; exact ⟨rfl, by decide +kernel⟩
  · rw [rx_beq q]; exact ⟨rfl, by decide +kernel⟩
def rx_isC (c : Nat) : Bool := Nat.beq (c % 8) 0 && decide (narrow .char (.int (rx_di c)) = .int (rx_di c))
theorem rx_c_ok : ∀ v, rx_isC v = true → v % 8 = 0 ∧ narrow .char (.int (rx_di v)) = .int (rx_di v) := by
  intro v hv
  obtain ⟨h1, h2⟩ := Bool.and_eq_true_iff.mp hv
  exact ⟨rx_beq h1, of_decide_eq_true h2⟩
def rx_isY (c : Nat) : Bool := Nat.beq (c % 8) 0 && decide (narrow .byte (.int (rx_di c)) = .int (rx_di c))
theorem rx_y_ok : ∀ v, rx_isY v = true → v % 8 = 0 ∧ narrow .byte (.int (rx_di v)) = .int (rx_di v) := by
  intro v hv
  obtain ⟨h1, h2⟩ := Bool.and_eq_true_iff.mp hv
  exact ⟨rx_beq h1, of_decide_eq_true h2⟩
theorem s_lret (hr : M.2.2.2.1 = some .long) (hdg : decode M.2.1 pc = .ok (.lreturn, 1)) : rx_OK V M d pc (o_ret1 rx_isL) :=
  rx_ret1 (fun p l e R s m args below meth c H locs ls cells slots Qc free hC v hv hq hf => by
    obtain ⟨-, ex⟩ := rx_isL_v (V := V) hv
    rw [ex] at hq ⊢
    exact W.lret hC.1 hC.2.1 (hC.2.2.2.1.trans hr) (fun t ht _ => hq t ht) hf hdg hC.2.2.2.2.1) (fun v hv => by have := rx_beq hv; omega)
theorem s_aret (hV : rx_Ok V) {rt : FieldType} (hr : M.2.2.2.1 = some rt) (hrt : (∃ n, rt = .object n) ∨ ∃ t, rt = .array t) (hdg : decode M.2.1 pc = .ok (.areturn, 1)) : rx_OK V M d pc (o_ret1 rx_isR) :=
  rx_ret1 (fun p l e R s m args below meth c H locs ls cells slots Qc free hC v hv hq hf => by
    obtain ⟨-, hx⟩ := rx_isR_v hV hv
    exact W.aret hC.1 hC.2.1 (hC.2.2.2.1.trans hr) hrt hx (fun t ht _ => hq t ht) hf hdg hC.2.2.2.2.1) (fun v hv => (rx_isR_v hV hv).1)
theorem s_vret (hr : M.2.2.2.1 = none) (hdg : decode M.2.1 pc = .ok (.return_, 1)) : rx_OK V M d pc o_ret0 := by
  intro lv st h r h' hf
  match st, hf with
  | _ :: _, hf => cases hf
  | [], hf =>
  have e := Option.some.inj hf
  have e1 : 7 = r := congrArg Prod.fst e
  have e2 : h = h' := congrArg Prod.snd e
  subst e1; subst e2
  refine ⟨Nat.le_refl _, Nat.le_refl _, fun p l e R s m args below meth c hC hE n0 z0 hn hz hR1 hR2 hR3 hR4 H locs ls hW hF hL => ?_⟩
  exact W.vret hC.1 hC.2.1 (hC.2.2.2.1.trans hr) (fun t ht _ => ⟨rfl, by rw [ht]; exact hW, fun q hq => by rw [ht]; exact hF.1 q hq⟩) hF.2.1 hdg hC.2.2.2.2.1
-- a method, by what it does to codes
def rx_Met (V : rx_V) (d : Nat) (y : MethodName) (M : rx_M) (f : List Nat → rx_H → Option (Nat × rx_H)) : Prop :=
  ∀ (As : List Nat) (h : rx_H) (r : Nat) (h' : rx_H), f As h = some (r, h') → h.1 ≤ h'.1 ∧ h.2.1 ≤ h'.2.1 ∧
    ∀ l : Launch, Met l y (.code y M.2.1 M.2.2.1 M.2.2.2.1 :: eW V) { frames := d, cells := h'.1 - h.1, slots := h'.2.1 - h.2.1, locals := 100 * d } (va_Pc (As.map (rx_v V)) (fun U => rx_w V h U.heap ∧ rx_En V U)) (rx_Q V r h') (h'.1 - h.1) (h'.2.1 - h.2.1) (fun q => eb V ≤ q)
def rx_fl (As : List Nat) : List Nat := As.flatMap fun c => bif Nat.beq (c % 8) 1 then [c, 7] else [c]
noncomputable def rx_pad (n : Nat) : List Nat := Nat.rec [] (fun _ ih => 7 :: ih) n
def rx_cs (As : List Nat) : Nat := (As.map rx_ct).sum
noncomputable def rx_ent (nL : Nat) (f : rx_K) : List Nat → rx_H → Option (Nat × rx_H) := fun As h => bif Nat.ble (rx_cs As) nL && Nat.beq (rx_fl As).length (rx_cs As) then f (rx_fl As ++ rx_pad (nL - rx_cs As)) [] h else none
theorem rx_cat_sum (hV : rx_Ok V) (As : List Nat) : ((As.map (rx_v V)).map fun v => v.category).sum = rx_cs As := by
  unfold rx_cs
  rw [List.map_map]
  congr 1
  apply List.map_congr_left
  intro c _
  exact rx_v_cat hV c
theorem rx_sl_len (vs : List Value) : (lg_sl vs).length = (vs.map fun v => v.category).sum := by
  induction vs with
  | nil => rfl
  | cons v vs ih =>
    rw [List.map_cons, List.sum_cons, ← ih]
    show ((if v.category = 2 then [Slot.val v, .second] else [.val v]) ++ lg_sl vs).length = _
    rw [List.length_append]
    rcases lv_cat v with h | h <;> simp [h]
theorem rx_fl_mem (hV : rx_Ok V) : ∀ (As : List Nat) (k i c : Nat), (rx_fl As)[i]? = some c → c % 8 ≠ 7 → (k + i, rx_v V c) ∈ lv_args k (As.map (rx_v V))
  | [], k, i, c, h, _ => by simp [rx_fl] at h
  | a :: As, k, i, c, h, h7 => by
    have hcat := rx_v_cat hV a
    have e : rx_fl (a :: As) = (bif Nat.beq (a % 8) 1 then [a, 7] else [a]) ++ rx_fl As := by simp [rx_fl]
    rw [e] at h
    show (k + i, rx_v V c) ∈ (k, rx_v V a) :: lv_args (if (rx_v V a).category = 2 then k + 2 else k + 1) (As.map (rx_v V))
    rw [hcat]
    unfold rx_ct
    cases hb : Nat.beq (a % 8) 1 with
    | true =>
      rw [hb] at h
      simp only [cond_true] at h ⊢
      match i, h with
      | 0, h => cases h; simp
      | 1, h => cases h; exact absurd rfl h7
      | i + 2, h =>
        refine List.mem_cons_of_mem _ ?_
        rw [show k + (i + 2) = k + 2 + i by omega]
        simp only [if_true]
        exact rx_fl_mem hV As (k + 2) i c h h7
    | false =>
      rw [hb] at h
      simp only [cond_false] at h ⊢
      match i, h with
      | 0, h => cases h; simp
      | i + 1, h =>
        refine List.mem_cons_of_mem _ ?_
        rw [if_neg (by decide), show k + (i + 1) = k + 1 + i by omega]
        exact rx_fl_mem hV As (k + 1) i c h h7
theorem rx_pad_7 : ∀ (n i c : Nat), (rx_pad n)[i]? = some c → c = 7
  | 0, i, c, h => by cases h
  | n + 1, 0, c, h => by cases h; rfl
  | n + 1, i + 1, c, h => rx_pad_7 n i c h
theorem rx_entry (hV : rx_Ok V) {y : MethodName} (hok : rx_OK V M d 0 f) (hpl : plainName y.cls = true) (hown : y.cls = M.1) (hini : M.2.2.2.2 = true → y.name = "<init>") : rx_Met V d y M (rx_ent M.2.2.1 f) := by
  intro As h r h' hf
  obtain ⟨hc, hf⟩ := rx_bifn hf
  obtain ⟨hc1, hc2⟩ := Bool.and_eq_true_iff.mp hc
  have hle : rx_cs As ≤ M.2.2.1 := Nat.le_of_ble_eq_true hc1
  obtain ⟨m1, m2, kk⟩ := hok _ _ h r h' hf
  refine ⟨m1, m2, fun l => ?_⟩
  refine Met.ofW (cc := M.2.1) (maxL := M.2.2.1) (ret := M.2.2.2.1) hpl rfl ?_
  intro p e s m args below meth c s₁ B hml hv
  obtain ⟨rfl, hW, hE⟩ := hv
  have hts := atoms_spec (ws := .code y M.2.1 M.2.2.1 M.2.2.2.1 :: eW V) B.pre
  have hown2 : s.vm.findClass M.1 = some m.cls := by rw [← hown]; exact findClass_of_methodNamed B.named
  have hC : rx_Cx V M p s m (As.map (rx_v V)).toArray meth c := ⟨B.exec, B.bytes, hml, B.returns, B.notSynchronized, hown2, fun w hw => hts w (List.mem_cons_of_mem _ hw), fun hi => (name_of_methodNamed B.named B.method).1.trans (hini hi)⟩
  rw [lg_entry_eq]
  have hlen : (lg_sl (As.map (rx_v V))).length = rx_cs As := (rx_sl_len _).trans (rx_cat_sum hV As)
  have hl := lv_entry (As.map (rx_v V)) (n := M.2.2.1) (by rw [hlen]; exact hle)
  generalize (lg_sl (As.map (rx_v V)) ++ List.replicate (M.2.2.1 - (lg_sl (As.map (rx_v V))).length) Slot.unset).toArray = ls at hl ⊢
  have hL : rx_L V ls M.2.2.1 (rx_fl As ++ rx_pad (M.2.2.1 - rx_cs As)) := by
    refine ⟨hl.1, hl.2.1, fun i c hi h7 => ?_⟩
    by_cases hlt : i < (rx_fl As).length
    · rw [List.getElem?_append_left hlt] at hi
      have := rx_fl_mem hV As 0 i c hi h7
      rw [Nat.zero_add] at this
      exact hl.2.2 _ this
    · rw [List.getElem?_append_right (by omega)] at hi
      have := rx_pad_7 _ _ _ hi
      subst this
      exact absurd rfl h7
  have hF : rx_F V s s.heap [] := ⟨fun q _ => rfl, fun l hl => absurd hl List.not_mem_nil, Nat.le_refl _⟩
  have := kk p l e (headSpec (.code y M.2.1 M.2.2.1 M.2.2.2.1 :: eW V) { frames := d, cells := h'.1 - h.1, slots := h'.2.1 - h.2.1, locals := 100 * d }).room s m _ below meth c hC hE h.1 h.2.1 (Nat.le_refl _) (Nat.le_refl _) (Nat.le_refl _) (Nat.le_refl _) (Nat.le_refl _) (Nat.le_refl _) s.heap [] ls hW hF hL
  rw [Nat.sub_self, Nat.sub_self] at this
  exact this
-- calls
noncomputable def rx_take {β : Type} (n : Nat) (st acc : List Nat) (k : List Nat → List Nat → Option β) : Option β :=
  Nat.rec (motive := fun _ => List Nat → List Nat → Option β) (fun st acc => k acc st) (fun _ ih st acc => match st with
    | v :: r => ih r (v :: acc)
    | [] => none) n st acc
theorem rx_take_some {β : Type} : ∀ (n : Nat) (st acc : List Nat) (k : List Nat → List Nat → Option β) (r : β), rx_take n st acc k = some r → ∃ As rest, st = As.reverse ++ rest ∧ As.length = n ∧ k (As ++ acc) rest = some r
  | 0, st, acc, k, r, h => ⟨[], st, rfl, rfl, h⟩
  | n + 1, [], acc, k, r, h => by cases h
  | n + 1, v :: st, acc, k, r, h => by
    obtain ⟨As, rest, h1, h2, h3⟩ := rx_take_some n st (v :: acc) k r h
    refine ⟨As ++ [v], rest, by rw [h1]; simp, by simp [h2], ?_⟩
    rw [List.append_assoc]; exact h3
noncomputable def rx_go (g : List Nat → rx_H → Option (Nat × rx_H)) (As rest lv : List Nat) (h : rx_H) (k : rx_K) : Option (Nat × rx_H) := bif Nat.ble (rx_cs rest) 8 then (match g As h with
  | some (r, h1) => rx_f r fun r => bif Nat.beq (r % 8) 7 then k lv rest h1 else k lv (r :: rest) h1
  | none => none) else none
theorem rx_go_some {g : List Nat → rx_H → Option (Nat × rx_H)} {As rest lv : List Nat} {h h' : rx_H} {k : rx_K} {r : Nat} (hf : rx_go g As rest lv h k = some (r, h')) : rx_cs rest ≤ 8 ∧ ∃ r1 h1, g As h = some (r1, h1) ∧ ∃ st', k lv st' h1 = some (r, h') ∧ st'.map (rx_v V) = (rx_r V r1).toList ++ rest.map (rx_v V) := by
  unfold rx_go at hf
  obtain ⟨hc, hf⟩ := rx_bifn hf
  refine ⟨Nat.le_of_ble_eq_true hc, ?_⟩
  cases hg : g As h with
  | none => rw [hg] at hf; cases hf
  | some q =>
    obtain ⟨r1, h1⟩ := q
    rw [hg] at hf
    simp only [rx_f_eq] at hf
    refine ⟨r1, h1, rfl, ?_⟩
    rcases rx_bif hf with ⟨h7, hf⟩ | ⟨h7, hf⟩
    · refine ⟨rest, hf, ?_⟩
      unfold rx_r
      rw [if_pos (rx_beq h7)]; rfl
    · refine ⟨r1 :: rest, hf, ?_⟩
      have : ¬ r1 % 8 = 7 := fun q => by rw [q] at h7; cases h7
      rw [rx_r_v this]; rfl
theorem rx_cont {p : Program} {l : Launch} {e : Env} {R : Room} {s : State} {m : MethodId} {args a : Array Value} {below : List Frame} {meth : Method} {c : Code} {H : Heap} {locs : List Loc} {cells slots mc ms : Nat} {Q : State → Prop} {ls : Array Slot} {rest st0 : List Value} {r : Nat} {h h1 : rx_H}
    (hrun : va_Run p l e R s m args below meth c H locs cells slots mc ms (F0 m pc ls st0) rest (rx_Q V r h1 a) (fun q => eb V ≤ q)) (hW : rx_w V h H) (hm : h.1 ≤ h1.1) (hF : rx_F V s H locs)
    (kk : ∀ (H1 : Heap) (locs1 : List Loc), rx_w V h1 H1 → rx_F V s H1 locs1 → W p l e R s m args below meth c H1 locs1 (cells + mc) (slots + ms) Q (F0 m (pc + 3) ls ((rx_r V r).toList ++ rest))) : W p l e R s m args below meth c H locs cells slots Q (F0 m pc ls st0) := by
  intro T hT X
  obtain ⟨v, st₀, t, T', L, h0, X', hL, e1, e2, ⟨hv, hw, hk⟩, st⟩ := hrun T hT X
  have ev : v = rx_r V r := Outcome.returned.inj hv
  have hw2 : rx_w V h1 T'.heap := by rw [e1]; exact hw
  obtain ⟨t2, a1, b1⟩ := kk T'.heap (locs ++ L) hw2 ⟨fun q hq => by rw [e1, hk q hq, h0]; exact hF.1 q hq, fun x hx => by
      rcases List.mem_append.mp hx with z | z
      · exact hF.2.1 x z
      · exact hL x z, by have := hF.2.2; have := hw2.1; have := hW.1; omega⟩ T' rfl X'
  rw [← ev] at a1
  exact ⟨t2, st t2 a1, b1⟩
theorem rx_good (hV : rx_Ok V) {y : MethodName} {cc : ByteArray} {nL : Nat} {ret : Option FieldType} (hc : Cond.code y cc nL ret ∈ eW V) : GoodIn (eW V) (.code y cc nL ret :: eW V) := by
  intro w hw
  rcases List.mem_cons.mp hw with rfl | hw
  · exact ⟨hc, hV.2.2.1 _ hc⟩
  · exact ⟨hw, hV.2.2.1 _ hw⟩
theorem rx_blind {h : rx_H} {As : List Nat} : FrameBlind (va_Pc (As.map (rx_v V)) (fun U => rx_w V h U.heap ∧ rx_En V U) ) ↔ FrameBlind (va_Pc (As.map (rx_v V)) (fun U => rx_w V h U.heap ∧ rx_En V U)) := Iff.rfl
theorem rx_fb (hV : rx_Ok V) {h : rx_H} {As : List Nat} : FrameBlind (va_Pc (As.map (rx_v V)) (fun U => rx_w V h U.heap ∧ rx_En V U)) := by
  intro a U g mk q
  obtain ⟨q1, q2, q3, q4, q5⟩ := q
  exact ⟨q1, q2, va_K.moved (u := U) (U := U.calling g mk a) (Vm.Alike.refl U.vm) q3, hV.2.2.2 U (U.calling g mk a) q4 (State.WarmedH.refl U) q5 (fun _ _ => rfl), q5⟩
theorem rx_preS (hV : rx_Ok V) {s : State} {H : Heap} {locs : List Loc} {h : rx_H} (hE : rx_En V s) (hW : rx_w V h H) (hF : rx_F V s H locs) (As : List Nat) : ∀ U : State, U.heap = H → s.WarmedH U.vm → va_Pc (As.map (rx_v V)) (fun U => rx_w V h U.heap ∧ rx_En V U) (As.map (rx_v V)).toArray U := by
  intro U hU hWm
  refine ⟨rfl, by rw [hU]; exact hW, va_K.moved hWm.alike hE.1, hV.2.2.2 s U hE.2.1 hWm hE.2.2 (fun q hq => by rw [hU]; exact hF.1 q hq), by rw [hU, hW.1]; omega⟩
-- what is said of a method that is called
def rx_Y (V : rx_V) (y : MethodName) (M : rx_M) (n : Nat) : Prop := Cond.code y M.2.1 M.2.2.1 M.2.2.2.1 ∈ eW V ∧ Cond.initialized y.cls ∈ eW V ∧ M.2.2.1 ≤ 80 ∧ (y.cls ≠ "java/lang/invoke/MethodHandle" ∧ y.cls ≠ "java/lang/invoke/VarHandle" ∧ (parseMethodDescriptor y.desc).map (fun d => d.parameters.length) = some n)
noncomputable def o_callS (n : Nat) (g : List Nat → rx_H → Option (Nat × rx_H)) (k : rx_K) : rx_K := fun lv st h => rx_take n st [] fun As rest => rx_go g As rest lv h k
theorem rx_fin {p : Program} {l : Launch} {e : Env} {R : Room} {s : State} {m : MethodId} {args a : Array Value} {below : List Frame} {meth : Method} {c : Code} {H : Heap} {locs : List Loc} {Q : State → Prop} {ls : Array Slot} {st0 rest : List Value} {lv st' : List Nat} {r1 n0 z0 : Nat} {h h1 : rx_H}
    (hrun : va_Run p l e R s m args below meth c H locs (h.1 - n0) (h.2.1 - z0) (h1.1 - h.1) (h1.2.1 - h.2.1) (F0 m pc ls st0) rest (rx_Q V r1 h1 a) (fun q => eb V ≤ q)) (hn : n0 ≤ h.1) (hz : z0 ≤ h.2.1) (i1 : h.1 ≤ h1.1) (i2 : h.2.1 ≤ h1.2.1) (hW : rx_w V h H) (hF : rx_F V s H locs) (hL : rx_L V ls M.2.2.1 lv) (hst : st'.map (rx_v V) = (rx_r V r1).toList ++ rest)
    (kk : ∀ (H1 : Heap) (locs1 : List Loc) (ls' : Array Slot), rx_w V h1 H1 → rx_F V s H1 locs1 → rx_L V ls' M.2.2.1 lv → W p l e R s m args below meth c H1 locs1 (h1.1 - n0) (h1.2.1 - z0) Q (F0 m (pc + 3) ls' (st'.map (rx_v V)))) : W p l e R s m args below meth c H locs (h.1 - n0) (h.2.1 - z0) Q (F0 m pc ls st0) := by
  refine rx_cont hrun hW i1 hF fun H1 locs1 hW1 hF1 => ?_
  have h2 := kk H1 locs1 ls hW1 hF1 hL
  rw [hst] at h2
  rw [show h.1 - n0 + (h1.1 - h.1) = h1.1 - n0 by omega, show h.2.1 - z0 + (h1.2.1 - h.2.1) = h1.2.1 - z0 by omega]
  exact h2
theorem s_callS (hV : rx_Ok V) {dy index n : Nat} {y : MethodName} {My : rx_M} {g : List Nat → rx_H → Option (Nat × rx_H)} (hg : rx_Met V dy y My g) (hd : dy + 1 ≤ d) (hy : rx_Y V y My n) (hst : Cond.static y ∈ eW V) (hln : Cond.methodLink M.1 index y ∈ eW V ∨ ∃ host, Cond.methodLinkNest M.1 index y host ∈ eW V) (hdg : decode M.2.1 pc = .ok (.invokestatic index, 3)) (hk : rx_OK V M d (pc + 3) f) : rx_OK V M d pc (o_callS n g f) := by
  refine rx_heap fun lv st h r h' hf => ?_
  obtain ⟨As, rest, hs, hl, hf⟩ := rx_take_some _ _ _ _ _ hf
  rw [List.append_nil] at hf
  obtain ⟨h8, r1, h1, hgf, st', hf, hst'⟩ := rx_go_some (V := V) hf
  obtain ⟨i1, i2, hMet⟩ := hg As h r1 h1 hgf
  refine ⟨pc + 3, f, lv, st', h1, hk, hf, i1, i2, fun p l e R s m args below meth c hC hE n0 z0 hn0 hz0 hR1 hR2 hR3 hR4 H locs ls Q hW hF hL kk => ?_⟩
  subst hs
  have hts := hC.2.2.2.2.2.2.1
  have hroom : ((rest.map (rx_v V)).map fun v => v.category).sum ≤ 8 := by rw [rx_cat_sum hV]; exact h8
  have hRr : dy + 1 ≤ R.frames ∧ 8 + (My.2.2.1 + 11) + 100 * dy ≤ R.locals := ⟨by omega, by have := hy.2.2.1; omega⟩
  rcases hln with hln | ⟨host, hln⟩
  · refine rx_fin (va_runS (As := As.map (rx_v V)) (rest := rest.map (rx_v V)) ⟨hC.1, hC.2.1, hC.2.2.1, hC.2.2.2.2.2.1, hts⟩ (hMet l) ⟨callB_of n hts (rx_good hV hy.1) rfl rfl rfl (hts _ hy.2.1) (hts _ hln) hy.2.2.2 hRr, hts _ hst⟩ ⟨rx_fb hV, rx_preS hV hE hW hF As⟩ rfl (by rw [List.length_map]; exact hl) hL.1 (by show List.map (rx_v V) (As.reverse ++ rest) = _; rw [List.map_append, List.map_reverse]) (lv_room hroom) hdg ⟨by omega, by omega⟩) hn0 hz0 i1 i2 hW hF hL hst' kk
  · refine rx_fin (va_runSN (As := As.map (rx_v V)) (rest := rest.map (rx_v V)) ⟨hC.1, hC.2.1, hC.2.2.1, hC.2.2.2.2.2.1, hts⟩ (hMet l) ⟨va_cnB n hts (rx_good hV hy.1) rfl rfl rfl (va_Nw.of rfl (hts _ hln)) (hts _ hy.2.1) hy.2.2.2 hRr, hts _ hst, trivial⟩ ⟨rx_fb hV, rx_preS hV hE hW hF As⟩ rfl (by rw [List.length_map]; exact hl) hL.1 (by show List.map (rx_v V) (As.reverse ++ rest) = _; rw [List.map_append, List.map_reverse]) (lv_room hroom) hdg ⟨by omega, by omega⟩) hn0 hz0 i1 i2 hW hF hL hst' kk
end RX18
end
section
section RX19
variable {V : rx_V} {M : rx_M} {d pc : Nat} {f t : rx_K}
-- calls with a receiver
noncomputable def o_callV (n ci : Nat) (g : List Nat → rx_H → Option (Nat × rx_H)) (k : rx_K) : rx_K := fun lv st h => rx_take n st [] fun As rest => match rest with
  | o :: rest => rx_ob h o ci fun _ => rx_go g (o :: As) rest lv h k
  | _ => none
noncomputable def o_callI (n : Nat) (g : List Nat → rx_H → Option (Nat × rx_H)) (k : rx_K) : rx_K := fun lv st h => rx_take n st [] fun As rest => match rest with
  | o :: rest => bif Nat.beq (o % 8) 2 then rx_go g (o :: As) rest lv h k else none
  | _ => none
theorem s_callV (hV : rx_Ok V) {dy index n ci N : Nat} {C : String} {T : u_T} {ty : Nat → FieldType} {y : MethodName} {My : rx_M} {g : List Nat → rx_H → Option (Nat × rx_H)} (hg : rx_Met V dy y My g) (hd : dy + 1 ≤ d) (hy : rx_Y V y My n) (hcl : rx_Cl V ci C T N ty) (hin : Cond.instanceMethod y ∈ eW V) (hse : Cond.selects C y y ∈ eW V) (hln : Cond.methodLink M.1 index y ∈ eW V ∨ ∃ host, Cond.methodLinkNest M.1 index y host ∈ eW V) (hdg : decode M.2.1 pc = .ok (.invokevirtual index, 3)) (hk : rx_OK V M d (pc + 3) f) : rx_OK V M d pc (o_callV n ci g f) := by
  refine rx_heap fun lv st h r h' hf => ?_
  obtain ⟨As, rest0, hs, hl, hf⟩ := rx_take_some _ _ _ _ _ hf
  rw [List.append_nil] at hf
  match rest0, hs, hf with
  | [], _, hf => cases hf
  | o :: rest, hs, hf =>
  obtain ⟨ho, hlt, on, fs, us, he, hf⟩ := rx_ob_some hf
  obtain ⟨h8, r1, h1, hgf, st', hf, hst'⟩ := rx_go_some (V := V) hf
  obtain ⟨i1, i2, hMet⟩ := hg (o :: As) h r1 h1 hgf
  refine ⟨pc + 3, f, lv, st', h1, hk, hf, i1, i2, fun p l e R s m args below meth c hC hE n0 z0 hn0 hz0 hR1 hR2 hR3 hR4 H locs ls Q hW hF hL kk => ?_⟩
  subst hs
  have hts := hC.2.2.2.2.2.2.1
  have hroom : ((rest.map (rx_v V)).map fun v => v.category).sum ≤ 8 := by rw [rx_cat_sum hV]; exact h8
  have hRr : dy + 1 ≤ R.frames ∧ 8 + (My.2.2.1 + 11) + 100 * dy ≤ R.locals := ⟨by omega, by have := hy.2.2.1; omega⟩
  have hpre := rx_preS hV hE hW hF (o :: As)
  rw [List.map_cons, rx_v_2 ho] at hpre
  have hMl := hMet l
  rw [List.map_cons, rx_v_2 ho] at hMl
  have hfb := rx_fb hV (h := h) (As := o :: As)
  rw [List.map_cons, rx_v_2 ho] at hfb
  obtain ⟨-, cell, q1, q2, q3, q4⟩ := rx_ob_at hW hcl hlt he
  obtain ⟨hS, hfc, kC, hkC, hkind⟩ := hE.1.1 ci _ hcl.1
  have hst : (As.reverse ++ o :: rest).map (rx_v V) = (As.map (rx_v V)).reverse ++ .ref (eb V + o / 8) :: rest.map (rx_v V) := by rw [List.map_append, List.map_reverse, List.map_cons, rx_v_2 ho]
  have hPV : PreV s H C (eb V + o / 8) (va_Pc (.ref (eb V + o / 8) :: As.map (rx_v V)) (fun U => rx_w V h U.heap ∧ rx_En V U)) (As.map (rx_v V)) := ⟨hfb, ⟨cell, q1, by rw [q3]; rfl, by rw [q2]; exact hfc⟩, hpre⟩
  rcases hln with hln | ⟨host, hln⟩
  · refine rx_fin (va_runV (As := As.map (rx_v V)) (rest := rest.map (rx_v V)) ⟨hC.1, hC.2.1, hC.2.2.1, hC.2.2.2.2.2.1, hts⟩ hMl ⟨callB_of n hts (rx_good hV hy.1) rfl rfl rfl (hts _ hy.2.1) (hts _ hln) hy.2.2.2 hRr, hts _ hin, hts _ hse⟩ hPV rfl (by rw [List.length_map]; exact hl) hL.1 hst (lv_room hroom) hdg ⟨by omega, by omega⟩) hn0 hz0 i1 i2 hW hF hL hst' kk
  · refine rx_fin (va_runVN (As := As.map (rx_v V)) (rest := rest.map (rx_v V)) ⟨hC.1, hC.2.1, hC.2.2.1, hC.2.2.2.2.2.1, hts⟩ hMl ⟨va_cnB n hts (rx_good hV hy.1) rfl rfl rfl (va_Nw.of rfl (hts _ hln)) (hts _ hy.2.1) hy.2.2.2 hRr, hts _ hin, hts _ hse⟩ hPV rfl (by rw [List.length_map]; exact hl) hL.1 hst (lv_room hroom) hdg ⟨by omega, by omega⟩) hn0 hz0 i1 i2 hW hF hL hst' kk
theorem s_callI (hV : rx_Ok V) {dy index n : Nat} {y : MethodName} {My : rx_M} {g : List Nat → rx_H → Option (Nat × rx_H)} (hg : rx_Met V dy y My g) (hd : dy + 1 ≤ d) (hy : rx_Y V y My n) (hret : My.2.2.2.1 = none) (hnm : y.name = "<init>") (hin : Cond.instanceMethod y ∈ eW V) (hln : Cond.methodLink M.1 index y ∈ eW V ∨ ∃ host, Cond.methodLinkNest M.1 index y host ∈ eW V) (hdg : decode M.2.1 pc = .ok (.invokespecial index, 3)) (hk : rx_OK V M d (pc + 3) f) : rx_OK V M d pc (o_callI n g f) := by
  refine rx_heap fun lv st h r h' hf => ?_
  obtain ⟨As, rest0, hs, hl, hf⟩ := rx_take_some _ _ _ _ _ hf
  rw [List.append_nil] at hf
  match rest0, hs, hf with
  | [], _, hf => cases hf
  | o :: rest, hs, hf =>
  obtain ⟨ho, hf⟩ := rx_bifn hf
  have ho := rx_beq ho
  obtain ⟨h8, r1, h1, hgf, st', hf, hst'⟩ := rx_go_some (V := V) hf
  obtain ⟨i1, i2, hMet⟩ := hg (o :: As) h r1 h1 hgf
  refine ⟨pc + 3, f, lv, st', h1, hk, hf, i1, i2, fun p l e R s m args below meth c hC hE n0 z0 hn0 hz0 hR1 hR2 hR3 hR4 H locs ls Q hW hF hL kk => ?_⟩
  subst hs
  have hts := hC.2.2.2.2.2.2.1
  have hroom : ((rest.map (rx_v V)).map fun v => v.category).sum ≤ 8 := by rw [rx_cat_sum hV]; exact h8
  have hRr : dy + 1 ≤ R.frames ∧ 8 + (My.2.2.1 + 11) + 100 * dy ≤ R.locals := ⟨by omega, by have := hy.2.2.1; omega⟩
  have hpre := rx_preS hV hE hW hF (o :: As)
  rw [List.map_cons, rx_v_2 ho] at hpre
  have hMl := hMet l
  rw [List.map_cons, rx_v_2 ho] at hMl
  rw [hret] at hMl
  have hfb := rx_fb hV (h := h) (As := o :: As)
  rw [List.map_cons, rx_v_2 ho] at hfb
  have hst : (As.reverse ++ o :: rest).map (rx_v V) = (As.map (rx_v V)).reverse ++ .ref (eb V + o / 8) :: rest.map (rx_v V) := by rw [List.map_append, List.map_reverse, List.map_cons, rx_v_2 ho]
  have hcd := hy.1
  rw [hret] at hcd
  rcases hln with hln | ⟨host, hln⟩
  · refine rx_fin (va_runI (As := As.map (rx_v V)) (rest := rest.map (rx_v V)) ⟨hC.1, hC.2.1, hC.2.2.1, hC.2.2.2.2.2.1, hts⟩ hMl ⟨callB_of n hts (rx_good hV hcd) rfl rfl rfl (hts _ hy.2.1) (hts _ hln) hy.2.2.2 hRr, hnm, hts _ hin⟩ ⟨hfb, hpre⟩ rfl (by rw [List.length_map]; exact hl) hL.1 hst (lv_room hroom) hdg ⟨by omega, by omega⟩) hn0 hz0 i1 i2 hW hF hL hst' kk
  · refine rx_fin (va_runIN (As := As.map (rx_v V)) (rest := rest.map (rx_v V)) ⟨hC.1, hC.2.1, hC.2.2.1, hC.2.2.2.2.2.1, hts⟩ hMl ⟨va_cnB n hts (rx_good hV hcd) rfl rfl rfl (va_Nw.of rfl (hts _ hln)) (hts _ hy.2.1) hy.2.2.2 hRr, hnm, hts _ hin⟩ ⟨hfb, hpre⟩ rfl (by rw [List.length_map]; exact hl) hL.1 hst (lv_room hroom) hdg ⟨by omega, by omega⟩) hn0 hz0 i1 i2 hW hF hL hst' kk
-- the constructor of Object
noncomputable def o_obj (k : rx_K) : rx_K := fun lv st h => match st with
  | o :: r => bif Nat.beq (o % 8) 2 && Nat.ble (rx_cs r) 8 then k lv r h else none
  | _ => none
theorem s_obj (hV : rx_Ok V) {index : Nat} (hd : 1 ≤ d) (hln : Cond.methodLink M.1 index Lib.objectInit ∈ eW V) (hin : Cond.instanceMethod Lib.objectInit ∈ eW V) (hc : Cond.code Lib.objectInit ⟨#[0xb1]⟩ 1 none ∈ eW V) (hdg : decode M.2.1 pc = .ok (.invokespecial index, 3)) (hk : rx_OK V M d (pc + 3) f) : rx_OK V M d pc (o_obj f) := by
  intro lv st h r h' hf
  match st, hf with
  | [], hf => cases hf
  | o :: st, hf =>
  simp only [o_obj] at hf
  obtain ⟨hb, hf⟩ := rx_bifn hf
  obtain ⟨ho, h8⟩ := Bool.and_eq_true_iff.mp hb
  have ho := rx_beq ho
  have h8 : rx_cs st ≤ 8 := Nat.le_of_ble_eq_true h8
  obtain ⟨m1, m2, kk⟩ := hk lv st h r h' hf
  refine ⟨m1, m2, fun p l e R s m args below meth c hC hE n0 z0 hn hz hR1 hR2 hR3 hR4 H locs ls hW hF hL => ?_⟩
  have hts := hC.2.2.2.2.2.2.1
  have hroom : ((st.map (rx_v V)).map fun v => v.category).sum ≤ 8 := by rw [rx_cat_sum hV]; exact h8
  rw [List.map_cons, rx_v_2 ho]
  exact W.objInit hC.1 hC.2.1 hC.2.2.2.2.2.1 (hts _ hln) (hts _ hin) (hts _ hc) rfl (hL.1.trans hC.2.2.1.symm) rfl hdg (by omega) (by show 2 * 0 + _ + 12 ≤ _; omega) (kk p l e R s m args below meth c hC hE n0 z0 hn hz hR1 hR2 hR3 hR4 H locs ls hW hF hL)
-- the switches
noncomputable def rx_nth {β : Type} (l : List β) (n : Nat) (dflt : β) : β := List.rec (motive := fun _ => Nat → β) (fun _ => dflt) (fun a _ ih n => Nat.rec (motive := fun _ => β) a (fun m _ => ih m) n) l n
theorem rx_nth_eq {β : Type} (l : List β) (n : Nat) (dflt : β) : rx_nth l n dflt = (l[n]?).getD dflt := by
  induction l generalizing n with
  | nil => rfl
  | cons a l ih =>
    cases n with
    | zero => rfl
    | succ n => exact ih n
end RX19
end
section
section RX20
variable {V : rx_V} {M : rx_M} {d pc : Nat} {f t : rx_K}
-- which step is taken may be seen from the codes
theorem rx_pt (h0 : ∀ (lv st : List Nat) (h : rx_H) (r : Nat × rx_H), f lv st h = some r → ∃ g, rx_OK V M d pc g ∧ g lv st h = some r) : rx_OK V M d pc f := by
  intro lv st h r h' hf
  obtain ⟨g, hg, e⟩ := h0 lv st h _ hf
  exact hg lv st h r h' e
noncomputable def o_none : rx_K := fun _ _ _ => none
theorem s_none : rx_OK V M d pc o_none := fun _ _ _ _ _ hf => by cases hf
noncomputable def o_alt (q : List Nat → rx_H → Bool) (f g : rx_K) : rx_K := fun lv st h => bif q st h then f lv st h else g lv st h
theorem s_alt {q : List Nat → rx_H → Bool} {g : rx_K} (hf : rx_OK V M d pc f) (hg : rx_OK V M d pc g) : rx_OK V M d pc (o_alt q f g) := by
  refine rx_pt fun lv st h r e => ?_
  rcases rx_bif e with ⟨-, e⟩ | ⟨-, e⟩
  · exact ⟨f, hf, e⟩
  · exact ⟨g, hg, e⟩
def rx_qL (st : List Nat) (_ : rx_H) : Bool := match st with
  | v :: _ => Nat.beq (v % 8) 1
  | _ => false
noncomputable def rx_kd (h : rx_H) (o : Nat) : Nat := bif Nat.beq (o % 8) 2 && Nat.blt (o / 8) h.1 then (match rx_hg h (o / 8) with
  | (z, _, _, _, _) => z) else 0
noncomputable def rx_q2 (t : Nat) (st : List Nat) (h : rx_H) : Bool := match st with
  | _ :: o :: _ => Nat.beq (rx_kd h o) (t + 1)
  | _ => false
noncomputable def rx_q3 (t : Nat) (st : List Nat) (h : rx_H) : Bool := match st with
  | _ :: _ :: o :: _ => Nat.beq (rx_kd h o) (t + 1)
  | _ => false
noncomputable def rx_q1 (st : List Nat) (_ : rx_H) : Bool := match st with
  | o :: _ => Nat.beq (o % 8) 4
  | _ => false
noncomputable def o_alens (ts : List Nat) (k : rx_K) : rx_K := fun lv st h => match st with
  | o :: _ => rx_f (rx_kd h o) fun z => bif ts.any (fun t => Nat.beq z (t + 1)) then o_alen (z - 1) k lv st h else none
  | _ => none
theorem s_alens {ts : List Nat} (hts : ∀ t ∈ ts, ∃ ty, (eT V)[t]? = some ty) (hdg : decode M.2.1 pc = .ok (.arraylength, 1)) (hk : rx_OK V M d (pc + 1) f) : rx_OK V M d pc (o_alens ts f) := by
  refine rx_pt fun lv st h r e => ?_
  match st, e with
  | [], e => cases e
  | o :: st, e =>
  simp only [o_alens, rx_f_eq] at e
  obtain ⟨hc, e⟩ := rx_bifn e
  obtain ⟨t, ht, hz⟩ := List.any_eq_true.mp hc
  rw [rx_beq hz] at e
  obtain ⟨ty, h1⟩ := hts t ht
  exact ⟨_, s_alen h1 hdg hk, e⟩
noncomputable def o_aalds (ts : List Nat) (k : rx_K) : rx_K := fun lv st h => match st with
  | _ :: o :: _ => rx_f (rx_kd h o) fun z => bif ts.any (fun t => Nat.beq z (t + 1)) then o_ald (z - 1) k lv st h else none
  | _ => none
theorem s_aalds {ts : List Nat} (hts : ∀ t ∈ ts, ∃ ty, (eT V)[t]? = some ty ∧ ty.isReference = true) (hdg : decode M.2.1 pc = .ok (.aaload, 1)) (hk : rx_OK V M d (pc + 1) f) : rx_OK V M d pc (o_aalds ts f) := by
  refine rx_pt fun lv st h r e => ?_
  match st, e with
  | [], e => cases e
  | [_], e => cases e
  | _ :: o :: st, e =>
  simp only [o_aalds, rx_f_eq] at e
  obtain ⟨hc, e⟩ := rx_bifn e
  obtain ⟨t, ht, hz⟩ := List.any_eq_true.mp hc
  rw [rx_beq hz] at e
  obtain ⟨ty, h1, h2⟩ := hts t ht
  exact ⟨_, s_aald h1 h2 hdg hk, e⟩
-- division
noncomputable def o_bin (g : Int32 → Int32 → Int32) (k : rx_K) : rx_K := fun lv st h => match st with
  | y :: x :: r => bif Nat.beq (y % 8) 0 && (Nat.beq (x % 8) 0 && !decide (rx_di y = 0)) then rx_f (rx_ei (g (rx_di x) (rx_di y))) fun v => k lv (v :: r) h else none
  | _ => none
noncomputable def o_bln (g : Int64 → Int64 → Int64) (k : rx_K) : rx_K := fun lv st h => match st with
  | y :: x :: r => bif Nat.beq (y % 8) 1 && (Nat.beq (x % 8) 1 && !decide (rx_dl y = 0)) then rx_f (rx_el (g (rx_dl x) (rx_dl y))) fun v => k lv (v :: r) h else none
  | _ => none
theorem rx_ne {P : Prop} [Decidable P] (h : (!decide P) = true) : ¬ P := by simpa using h
theorem s_idiv (hdg : decode M.2.1 pc = .ok (.idiv, 1)) (hk : rx_OK V M d (pc + 1) f) : rx_OK V M d pc (o_bin (fun x y => x / y) f) := by
  refine rx_pure fun lv st h r h' hf => ?_
  match st, hf with
  | [], hf => cases hf
  | [_], hf => cases hf
  | y :: x :: st, hf =>
  simp only [o_bin, rx_f_eq] at hf
  obtain ⟨hc, hf⟩ := rx_bifn hf
  obtain ⟨hy, hc⟩ := Bool.and_eq_true_iff.mp hc
  obtain ⟨hx, hne⟩ := Bool.and_eq_true_iff.mp hc
  refine ⟨pc + 1, f, lv, _, hk, hf, fun p l e R s m args below meth c hC hE H locs ls cells slots Q hW hF hL kk => ?_⟩
  have h2 := kk ls hL
  rw [List.map_cons, rx_v_ei] at h2
  rw [List.map_cons, List.map_cons, rx_v_0 (rx_beq hy), rx_v_0 (rx_beq hx)]
  exact lv_idiv hC.1 hC.2.1 hdg (rx_ne hne) h2
theorem s_irem (hdg : decode M.2.1 pc = .ok (.irem, 1)) (hk : rx_OK V M d (pc + 1) f) : rx_OK V M d pc (o_bin (fun x y => x - x / y * y) f) := by
  refine rx_pure fun lv st h r h' hf => ?_
  match st, hf with
  | [], hf => cases hf
  | [_], hf => cases hf
  | y :: x :: st, hf =>
  simp only [o_bin, rx_f_eq] at hf
  obtain ⟨hc, hf⟩ := rx_bifn hf
  obtain ⟨hy, hc⟩ := Bool.and_eq_true_iff.mp hc
  obtain ⟨hx, hne⟩ := Bool.and_eq_true_iff.mp hc
  refine ⟨pc + 1, f, lv, _, hk, hf, fun p l e R s m args below meth c hC hE H locs ls cells slots Q hW hF hL kk => ?_⟩
  have h2 := kk ls hL
  rw [List.map_cons, rx_v_ei] at h2
  rw [List.map_cons, List.map_cons, rx_v_0 (rx_beq hy), rx_v_0 (rx_beq hx)]
  exact lv_irem hC.1 hC.2.1 hdg (rx_ne hne) h2
theorem s_ldiv (hdg : decode M.2.1 pc = .ok (.ldiv, 1)) (hk : rx_OK V M d (pc + 1) f) : rx_OK V M d pc (o_bln (fun x y => x / y) f) := by
  refine rx_pure fun lv st h r h' hf => ?_
  match st, hf with
  | [], hf => cases hf
  | [_], hf => cases hf
  | y :: x :: st, hf =>
  simp only [o_bln, rx_f_eq] at hf
  obtain ⟨hc, hf⟩ := rx_bifn hf
  obtain ⟨hy, hc⟩ := Bool.and_eq_true_iff.mp hc
  obtain ⟨hx, hne⟩ := Bool.and_eq_true_iff.mp hc
  refine ⟨pc + 1, f, lv, _, hk, hf, fun p l e R s m args below meth c hC hE H locs ls cells slots Q hW hF hL kk => ?_⟩
  have h2 := kk ls hL
  rw [List.map_cons, rx_v_el] at h2
  rw [List.map_cons, List.map_cons, rx_v_1 (rx_beq hy), rx_v_1 (rx_beq hx)]
  exact lv_ldiv hC.1 hC.2.1 hdg (rx_ne hne) h2
theorem s_lrem (hdg : decode M.2.1 pc = .ok (.lrem, 1)) (hk : rx_OK V M d (pc + 1) f) : rx_OK V M d pc (o_bln (fun x y => x - x / y * y) f) := by
  refine rx_pure fun lv st h r h' hf => ?_
  match st, hf with
  | [], hf => cases hf
  | [_], hf => cases hf
  | y :: x :: st, hf =>
  simp only [o_bln, rx_f_eq] at hf
  obtain ⟨hc, hf⟩ := rx_bifn hf
  obtain ⟨hy, hc⟩ := Bool.and_eq_true_iff.mp hc
  obtain ⟨hx, hne⟩ := Bool.and_eq_true_iff.mp hc
  refine ⟨pc + 1, f, lv, _, hk, hf, fun p l e R s m args below meth c hC hE H locs ls cells slots Q hW hF hL kk => ?_⟩
  have h2 := kk ls hL
  rw [List.map_cons, rx_v_el] at h2
  rw [List.map_cons, List.map_cons, rx_v_1 (rx_beq hy), rx_v_1 (rx_beq hx)]
  exact lv_lrem hC.1 hC.2.1 hdg (rx_ne hne) h2
-- the switches
noncomputable def o_sw (lo : Nat) (ts : List Nat) (dt : Nat) (j : Nat → rx_K) : rx_K := fun lv st h => match st with
  | v :: r => bif Nat.beq (v % 8) 0 then rx_f (rx_nth ts ((v / 8 + (4294967296 - lo)) % 4294967296) dt) fun b => j b lv r h else none
  | _ => none
theorem rx_di_int (v : Nat) : (rx_di v).toInt = (v / 8 : Int).bmod 4294967296 := by
  unfold rx_di
  rw [Int32.toInt_ofNat']
  rfl
theorem s_sw {lo : Nat} {dt : Nat} {ts : List Nat} {j : Nat → rx_K} {dflt L Hh : Int} {offs : Array Int} {len : Nat} (hdg : decode M.2.1 pc = .ok (.tableswitch dflt L Hh offs, len)) (hlo : L.emod 4294967296 = (lo : Int)) (hL : L + ts.length = Hh + 1) (hrg : -2147483648 ≤ L ∧ Hh < 2147483648) (hd : (pc : Int) + dflt = (dt : Int)) (hts : (offs.toList.map fun o => (pc : Int) + o) = ts.map Int.ofNat) (hj : ∀ b ∈ dt :: ts, rx_OK V M d b (j b)) : rx_OK V M d pc (o_sw lo ts dt j) := by
  refine rx_pure fun lv st h r h' hf => ?_
  match st, hf with
  | [], hf => cases hf
  | v :: st, hf =>
  simp only [o_sw, rx_f_eq, rx_nth_eq] at hf
  obtain ⟨hc, hf⟩ := rx_bifn hf
  have hx := rx_di_int v
  have hlo2 : lo < 4294967296 := by have : 0 ≤ L % 4294967296 ∧ L % 4294967296 < 4294967296 := ⟨Int.emod_nonneg _ (by decide), Int.emod_lt_of_pos _ (by decide)⟩; have h9 : L % 4294967296 = (lo : Int) := hlo; omega
  have hlo3 : L % 4294967296 = (lo : Int) := hlo
  have hb1 : -2147483648 ≤ (rx_di v).toInt ∧ (rx_di v).toInt < 2147483648 := ⟨by have := Int32.le_toInt (rx_di v); omega, by have := Int32.toInt_lt (rx_di v); omega⟩
  have hmod : (rx_di v).toInt % 4294967296 = (v / 8 : Int) % 4294967296 := by rw [hx]; exact Int.bmod_emod
  generalize hi : (v / 8 + (4294967296 - lo)) % 4294967296 = i at hf
  rcases Nat.lt_or_ge i ts.length with q | q
  · have hxi : (rx_di v).toInt = L + i := by omega
    obtain ⟨b, hb⟩ : ∃ b, ts[i]? = some b := ⟨ts[i], List.getElem?_eq_getElem q⟩
    rw [hb] at hf
    have ho : ∃ off, offs[i]? = some off ∧ (pc : Int) + off = (b : Int) := by
      have h1 : (ts.map Int.ofNat)[i]? = some (b : Int) := by rw [List.getElem?_map, hb]; rfl
      rw [← hts, List.getElem?_map] at h1
      rw [← Array.getElem?_toList]
      cases ho : offs.toList[i]? with
      | none => rw [ho] at h1; cases h1
      | some off => rw [ho] at h1; exact ⟨off, rfl, Option.some.inj h1⟩
    obtain ⟨off, ho1, ho2⟩ := ho
    refine ⟨b, j b, lv, st, hj b (List.mem_cons_of_mem _ (List.mem_of_getElem? hb)), hf, fun p l e R s m args below meth c hC hE H locs ls cells slots Q hW hF hL kk => ?_⟩
    rw [List.map_cons, rx_v_0 (rx_beq hc)]
    exact lv_tableIn hC.1 hC.2.1 hdg (by omega) (by omega) (by rw [hxi, show (L + i - L).toNat = i by omega]; exact ho1) ho2 (kk ls hL)
  · rw [List.getElem?_eq_none (by omega)] at hf
    refine ⟨dt, j dt, lv, st, hj dt List.mem_cons_self, hf, fun p l e R s m args below meth c hC hE H locs ls cells slots Q hW hF hL kk => ?_⟩
    rw [List.map_cons, rx_v_0 (rx_beq hc)]
    exact lv_tableOut hC.1 hC.2.1 hdg (by omega) hd (kk ls hL)
end RX20
end
section
section RX21
variable {V : rx_V} {M : rx_M} {d pc : Nat} {f t : rx_K}
-- what lies outside and is never written
theorem rx_S {s : State} {H : Heap} {locs : List Loc} (hF : rx_F V s H locs) : va_S (fun q => eb V ≤ q) s.heap H locs := ⟨hF.2.2, fun q _ h => hF.1 q (Nat.not_le.mp h), hF.2.1⟩
theorem s_gets {c index : Nat} {C n ds ref : String} (hX : ∀ s, eX V s → va_Z C n ds (rx_v V c) (fun q => eb V ≤ q) s s.heap) (hs : ref = C ∨ Cond.sameField ref C n ds ∈ eW V) (hw : Cond.fieldLink M.1 index ref n ds ∈ eW V) (hdg : decode M.2.1 pc = .ok (.getstatic index, 3)) (hk : rx_OK V M d (pc + 3) f) : rx_OK V M d pc (o_const c f) := by
  refine rx_pure fun lv st h r h' hf => ⟨pc + 3, f, lv, _, hk, hf, fun p l e R s m args below meth c hC hE H locs ls cells slots Q hW hF hL kk => ?_⟩
  have hts := hC.2.2.2.2.2.2.1
  refine va_gets hC.1 hC.2.1 (hX s hE.2.1) (rx_S hF) hC.2.2.2.2.2.1 (hts _ hw) (fun x hx => ?_) hdg (kk ls hL)
  rcases hs with rfl | hs
  · exact hx
  · exact u_same (args := args) (hts _ hs) x hx
noncomputable def o_xv (k c : Nat) (g : rx_K) : rx_K := fun lv st h => match st with
  | o :: r => bif Nat.beq o (8 * k + 4) then g lv (c :: r) h else none
  | _ => none
theorem s_xgetf {k c index : Nat} {o n ds ref : String} (hX : ∀ s, eX V s → ∃ q, ex V k = .ref q ∧ va_OF o n ds (rx_v V c) q (fun q => eb V ≤ q) s s.heap) (hs : ref = o ∨ Cond.sameField ref o n ds ∈ eW V) (hw : Cond.fieldLink M.1 index ref n ds ∈ eW V) (hdg : decode M.2.1 pc = .ok (.getfield index, 3)) (hk : rx_OK V M d (pc + 3) f) : rx_OK V M d pc (o_xv k c f) := by
  refine rx_pure fun lv st h r h' hf => ?_
  match st, hf with
  | [], hf => cases hf
  | a :: st, hf =>
  simp only [o_xv] at hf
  obtain ⟨hc, hf⟩ := rx_bifn hf
  have hc := rx_beq hc
  refine ⟨pc + 3, f, lv, _, hk, hf, fun p l e R s m args below meth c hC hE H locs ls cells slots Q hW hF hL kk => ?_⟩
  have hts := hC.2.2.2.2.2.2.1
  obtain ⟨q, e1, e2⟩ := hX s hE.2.1
  rw [List.map_cons, rx_v_4 (by omega), show a / 8 = k by omega, e1]
  refine vk_getf hC.1 hC.2.1 e2 (rx_S hF) hC.2.2.2.2.2.1 (hts _ hw) (fun x hx => ?_) hdg (kk ls hL)
  rcases hs with rfl | hs
  · exact hx
  · exact u_same (args := args) (hts _ hs) x hx
theorem s_xalen {k n : Nat} {ty : FieldType} {g : Nat → Value} (hX : ∀ s, eX V s → ∃ q, ex V k = .ref q ∧ va_T ty q n g (fun q => eb V ≤ q) s s.heap) (hdg : decode M.2.1 pc = .ok (.arraylength, 1)) (hk : rx_OK V M d (pc + 1) f) : rx_OK V M d pc (o_xv k (8 * n) f) := by
  refine rx_pure fun lv st h r h' hf => ?_
  match st, hf with
  | [], hf => cases hf
  | a :: st, hf =>
  simp only [o_xv] at hf
  obtain ⟨hc, hf⟩ := rx_bifn hf
  have hc := rx_beq hc
  refine ⟨pc + 1, f, lv, _, hk, hf, fun p l e R s m args below meth c hC hE H locs ls cells slots Q hW hF hL kk => ?_⟩
  obtain ⟨q, e1, e2⟩ := hX s hE.2.1
  have h2 := kk ls hL
  rw [List.map_cons, rx_v_0 (by omega)] at h2
  rw [List.map_cons, rx_v_4 (by omega), show a / 8 = k by omega, e1]
  refine va_tlen hC.1 hC.2.1 e2 (rx_S hF) ?_ hdg h2
  unfold rx_di
  rw [show 8 * n / 8 = n by omega]
noncomputable def o_xald (k : Nat) (bs : List Nat) (g : rx_K) : rx_K := fun lv st h => match st with
  | i :: o :: r => bif Nat.beq o (8 * k + 4) && (Nat.beq (i % 8) 0 && Nat.blt (i / 8) bs.length) then rx_f (rx_nth bs (i / 8) 7) fun v => g lv (v :: r) h else none
  | _ => none
theorem s_xbald {k : Nat} {bs : List Nat} (hbs : bs.length < 2147483648) (hX : ∀ s, eX V s → ∃ q, ex V k = .ref q ∧ va_T .byte q bs.length (fun j => rx_v V (rx_nth bs j 7)) (fun q => eb V ≤ q) s s.heap) (hdg : decode M.2.1 pc = .ok (.baload, 1)) (hk : rx_OK V M d (pc + 1) f) : rx_OK V M d pc (o_xald k bs f) := by
  refine rx_pure fun lv st h r h' hf => ?_
  match st, hf with
  | [], hf => cases hf
  | [_], hf => cases hf
  | i :: a :: st, hf =>
  simp only [o_xald, rx_f_eq] at hf
  obtain ⟨hc, hf⟩ := rx_bifn hf
  obtain ⟨hc, hi⟩ := Bool.and_eq_true_iff.mp hc
  obtain ⟨hi, hlt⟩ := Bool.and_eq_true_iff.mp hi
  have hc := rx_beq hc
  have hlt : i / 8 < bs.length := Nat.le_of_ble_eq_true hlt
  refine ⟨pc + 1, f, lv, _, hk, hf, fun p l e R s m args below meth c hC hE H locs ls cells slots Q hW hF hL kk => ?_⟩
  obtain ⟨q, e1, e2⟩ := hX s hE.2.1
  obtain ⟨x1, x2⟩ := rx_in (x := rx_di i) (i := i / 8) (n := bs.length) rfl hlt hbs
  rw [List.map_cons, List.map_cons, rx_v_0 (rx_beq hi), rx_v_4 (by omega), show a / 8 = k by omega, e1]
  exact va_tb hC.1 hC.2.1 e2 (rx_S hF) x1 (by rw [x2]) hdg (kk ls hL)
-- constants that are strings
theorem s_ldcS {k index : Nat} {tx : String} (hX : ∀ s, eX V s → ∃ q, ex V k = .ref q ∧ vk_R M.1 index tx q s) (hdg : decode M.2.1 pc = .ok (.ldc index, 2)) (hk : rx_OK V M d (pc + 2) f) : rx_OK V M d pc (o_const (8 * k + 4) f) := by
  refine rx_pure fun lv st h r h' hf => ⟨pc + 2, f, lv, _, hk, hf, fun p l e R s m args below meth c hC hE H locs ls cells slots Q hW hF hL kk => ?_⟩
  obtain ⟨q, e1, e2⟩ := hX s hE.2.1
  have h2 := kk ls hL
  rw [List.map_cons, rx_v_4 (by omega), show (8 * k + 4) / 8 = k by omega, e1] at h2
  exact va_ldcS hC.1 hC.2.1 hC.2.2.2.2.2.1 e2 hdg h2
-- a call whose receiver lies outside
noncomputable def o_callX (n k : Nat) (g : List Nat → rx_H → Option (Nat × rx_H)) (kk : rx_K) : rx_K := fun lv st h => rx_take n st [] fun As rest => match rest with
  | o :: rest => bif Nat.beq o (8 * k + 4) then rx_go g (o :: As) rest lv h kk else none
  | _ => none
theorem s_callX (hV : rx_Ok V) {dy index n k : Nat} {C : String} {y : MethodName} {My : rx_M} {g : List Nat → rx_H → Option (Nat × rx_H)} (hg : rx_Met V dy y My g) (hd : dy + 1 ≤ d) (hy : rx_Y V y My n) (hX : ∀ s, eX V s → ∃ q, ex V k = .ref q ∧ va_O C q (fun q => eb V ≤ q) s s.heap) (hin : Cond.instanceMethod y ∈ eW V) (hse : Cond.selects C y y ∈ eW V) (hln : Cond.methodLink M.1 index y ∈ eW V) (hdg : decode M.2.1 pc = .ok (.invokevirtual index, 3)) (hk : rx_OK V M d (pc + 3) f) : rx_OK V M d pc (o_callX n k g f) := by
  refine rx_heap fun lv st h r h' hf => ?_
  obtain ⟨As, rest0, hs, hl, hf⟩ := rx_take_some _ _ _ _ _ hf
  rw [List.append_nil] at hf
  match rest0, hs, hf with
  | [], _, hf => cases hf
  | o :: rest, hs, hf =>
  obtain ⟨ho, hf⟩ := rx_bifn hf
  have ho := rx_beq ho
  obtain ⟨h8, r1, h1, hgf, st', hf, hst'⟩ := rx_go_some (V := V) hf
  obtain ⟨i1, i2, hMet⟩ := hg (o :: As) h r1 h1 hgf
  refine ⟨pc + 3, f, lv, st', h1, hk, hf, i1, i2, fun p l e R s m args below meth c hC hE n0 z0 hn0 hz0 hR1 hR2 hR3 hR4 H locs ls Q hW hF hL kk => ?_⟩
  subst hs
  have hts := hC.2.2.2.2.2.2.1
  have hroom : ((rest.map (rx_v V)).map fun v => v.category).sum ≤ 8 := by rw [rx_cat_sum hV]; exact h8
  have hRr : dy + 1 ≤ R.frames ∧ 8 + (My.2.2.1 + 11) + 100 * dy ≤ R.locals := ⟨by omega, by have := hy.2.2.1; omega⟩
  obtain ⟨q, e1, cell, q1, q2, q3, q4⟩ := hX s hE.2.1
  have e3 : rx_v V o = .ref q := by rw [rx_v_4 (by omega), show o / 8 = k by omega, e1]
  have hpre := rx_preS hV hE hW hF (o :: As)
  rw [List.map_cons, e3] at hpre
  have hMl := hMet l
  rw [List.map_cons, e3] at hMl
  have hfb := rx_fb hV (h := h) (As := o :: As)
  rw [List.map_cons, e3] at hfb
  have hst : (As.reverse ++ o :: rest).map (rx_v V) = (As.map (rx_v V)).reverse ++ .ref q :: rest.map (rx_v V) := by rw [List.map_append, List.map_reverse, List.map_cons, e3]
  have hPV : PreV s H C q (va_Pc (.ref q :: As.map (rx_v V)) (fun U => rx_w V h U.heap ∧ rx_En V U)) (As.map (rx_v V)) := ⟨hfb, ⟨cell, by rw [hF.1 q (Nat.not_le.mp q4)]; exact q1, q2, q3⟩, hpre⟩
  exact rx_fin (va_runV (As := As.map (rx_v V)) (rest := rest.map (rx_v V)) ⟨hC.1, hC.2.1, hC.2.2.1, hC.2.2.2.2.2.1, hts⟩ hMl ⟨callB_of n hts (rx_good hV hy.1) rfl rfl rfl (hts _ hy.2.1) (hts _ hln) hy.2.2.2 hRr, hts _ hin, hts _ hse⟩ hPV rfl (by rw [List.length_map]; exact hl) hL.1 hst (lv_room hroom) hdg ⟨by omega, by omega⟩) hn0 hz0 i1 i2 hW hF hL hst' kk
-- casts
noncomputable def o_cast (cis : List Nat) (k : rx_K) : rx_K := fun lv st h => match st with
  | v :: r => bif Nat.beq (v % 8) 3 then k lv (v :: r) h else bif Nat.beq (v % 8) 2 && Nat.blt (v / 8) h.1 then (match rx_hg h (v / 8) with
    | (z, c, _, _, _) => bif Nat.beq z 0 && cis.any (Nat.beq c) then k lv (v :: r) h else none) else none
  | _ => none
theorem s_cast {index : Nat} {nm : String} {cis : List Nat} (hcis : ∀ ci ∈ cis, ∃ r, (eC V)[ci]? = some r ∧ (r.1 = nm ∨ Cond.castable r.1 nm ∈ eW V)) (hw : Cond.classLink M.1 index nm ∈ eW V) (hdg : decode M.2.1 pc = .ok (.checkcast index, 3)) (hk : rx_OK V M d (pc + 3) f) : rx_OK V M d pc (o_cast cis f) := by
  refine rx_pure fun lv st h r h' hf => ?_
  match st, hf with
  | [], hf => cases hf
  | v :: st, hf =>
  simp only [o_cast] at hf
  rcases rx_bif hf with ⟨hc, hf⟩ | ⟨-, hf⟩
  · refine ⟨pc + 3, f, lv, _, hk, hf, fun p l e R s m args below meth c hC hE H locs ls cells slots Q hW hF hL kk => ?_⟩
    have h2 := kk ls hL
    rw [List.map_cons, rx_v_3 (rx_beq hc)] at h2 ⊢
    exact lv_castN hC.1 hC.2.1 hdg h2
  · obtain ⟨hc0, hf0⟩ := rx_bifn hf
    clear hf
    obtain ⟨c1, c2⟩ := Bool.and_eq_true_iff.mp hc0
    have hlt : v / 8 < h.1 := Nat.le_of_ble_eq_true c2
    generalize he : rx_hg h (v / 8) = en at hf0
    obtain ⟨z, ci, nv, fv, uv⟩ := en
    dsimp only at hf0
    obtain ⟨hc1, hf1⟩ := rx_bifn hf0
    obtain ⟨hz, hany⟩ := Bool.and_eq_true_iff.mp hc1
    obtain ⟨cj, hcj, hcb⟩ := List.any_eq_true.mp hany
    have hcc : ci = cj := rx_beq hcb
    subst hcc
    rw [rx_beq hz] at he
    obtain ⟨r0, hr0, hr1⟩ := hcis ci hcj
    refine ⟨pc + 3, f, lv, _, hk, hf1, fun p l e R s m args below meth c hC hE H locs ls cells slots Q hW hF hL kk => ?_⟩
    have hts := hC.2.2.2.2.2.2.1
    have h1 := hW.2.1 _ hlt
    rw [he] at h1
    obtain ⟨-, cell, q1, q2, q3, q4⟩ := h1
    obtain ⟨hS, hfc, kC, hkC, hkind⟩ := hE.1.1 ci _ hr0
    have h2 := kk ls hL
    rw [List.map_cons, rx_v_2 (rx_beq c1)] at h2 ⊢
    rcases hr1 with hr1 | hr1
    · rw [hr1] at hfc
      exact va_castS hC.1 hC.2.1 hC.2.2.2.2.2.1 (hts _ hw) ⟨hfc, kC, hkC, hkind⟩ ⟨cell, q1, by rw [q3]; rfl, by rw [q2]; exact hfc⟩ hdg h2
    · exact va_castY hC.1 hC.2.1 hC.2.2.2.2.2.1 (hts _ hw) (va_Nw.of rfl (hts _ hr1)) ⟨cell, q1, by rw [q3]; rfl, by rw [q2]; exact hfc⟩ hdg h2
end RX21
end
section
section RX22
variable {V : rx_V} {M : rx_M} {d pc : Nat} {f t : rx_K}
-- a run of an array is copied into another of its type
noncomputable def rx_cp {β : Type} (chk : Nat → Bool) (da : Nat) (ua : List (Nat × Nat)) (sp dp m : Nat) (us : List (Nat × Nat)) (k : List (Nat × Nat) → Option β) : Option β :=
  Nat.rec (motive := fun _ => List (Nat × Nat) → Option β) (fun us => k us) (fun m ih us => rx_f (rx_lk da ua (sp + m)) fun c => bif chk c then rx_f (dp + m) fun j => ih ((j, c) :: us) else none) m us
theorem rx_cp_some {β : Type} {chk : Nat → Bool} {da db sp dp : Nat} {ua : List (Nat × Nat)} {k : List (Nat × Nat) → Option β} {r : β} : ∀ (m : Nat) (us : List (Nat × Nat)), rx_cp chk da ua sp dp m us k = some r → (∀ i, i < m → chk (rx_lk da ua (sp + i)) = true) ∧ ∃ us', k us' = some r ∧ ∀ j, rx_lk db us' j = if dp ≤ j ∧ j < dp + m then rx_lk da ua (sp + (j - dp)) else rx_lk db us j
  | 0, us, h => ⟨fun i hi => absurd hi (Nat.not_lt_zero _), us, h, fun j => by rw [if_neg (by omega)]⟩
  | m + 1, us, h => by
    have h : (rx_f (rx_lk da ua (sp + m)) fun c => bif chk c then rx_f (dp + m) fun j => rx_cp chk da ua sp dp m ((j, c) :: us) k else none) = some r := h
    simp only [rx_f_eq] at h
    obtain ⟨hc, h⟩ := rx_bifn h
    obtain ⟨h1, us', h2, h3⟩ := rx_cp_some (db := db) m _ h
    refine ⟨fun i hi => ?_, us', h2, fun j => ?_⟩
    · rcases Nat.lt_or_ge i m with q | q
      · exact h1 i q
      · rw [show i = m by omega]; exact hc
    · rw [h3 j, rx_lk_cons]
      by_cases q : dp ≤ j ∧ j < dp + m
      · rw [if_pos q, if_pos ⟨q.1, by omega⟩]
      · rw [if_neg q]
        by_cases e : j = dp + m
        · rw [if_pos e, if_pos ⟨by omega, by omega⟩, show sp + (j - dp) = sp + m by omega]
        · rw [if_neg e, if_neg (by omega)]
noncomputable def o_copy (tt : Nat) (chk : Nat → Bool) (k : rx_K) : rx_K := fun lv st h => match st with
  | n :: dp :: b :: sp :: a :: r => bif Nat.beq (n % 8) 0 && (Nat.beq (dp % 8) 0 && (Nat.beq (sp % 8) 0 && Nat.ble (rx_cs r) 8)) then rx_ar h a tt fun na da ua => rx_ar h b tt fun nb db ub => bif Nat.ble (sp / 8 + n / 8) na && (Nat.ble (dp / 8 + n / 8) nb && (Nat.blt na 268435456 && Nat.blt nb 268435456)) then rx_cp chk da ua (sp / 8) (dp / 8) (n / 8) ub fun us => rx_hs h (b / 8) (tt + 1, nb, nb, [[db]], us) fun h' => k lv r h' else none else none
  | _ => none
theorem s_copy (hV : rx_Ok V) {tt index : Nat} {ty : FieldType} {chk : Nat → Bool} (hchk : rx_chk ty = chk) (hp : refKind ty = false) (hval : ∀ c, chk c = true → (∃ x, rx_v V c = .int x) ∨ ∃ x, rx_v V c = .long x) (ht : (eT V)[tt]? = some ty) (hd : 1 ≤ d) (hlink : Cond.methodLink M.1 index arraycopyName ∈ eW V) (hnat : Cond.native arraycopyName ∈ eW V) (hstat : Cond.static arraycopyName ∈ eW V) (hini : Cond.initialized "java/lang/System" ∈ eW V) (hdg : decode M.2.1 pc = .ok (.invokestatic index, 3)) (hk : rx_OK V M d (pc + 3) f) : rx_OK V M d pc (o_copy tt chk f) := by
  subst hchk
  refine rx_heap fun lv st h r h' hf => ?_
  match st, hf with
  | [], hf => cases hf
  | [_], hf => cases hf
  | [_, _], hf => cases hf
  | [_, _, _], hf => cases hf
  | [_, _, _, _], hf => cases hf
  | n :: dp :: b :: sp :: a :: st, hf =>
  simp only [o_copy] at hf
  obtain ⟨hc, hf⟩ := rx_bifn hf
  obtain ⟨hn, hc⟩ := Bool.and_eq_true_iff.mp hc
  obtain ⟨hdp, hc⟩ := Bool.and_eq_true_iff.mp hc
  obtain ⟨hsp, h8⟩ := Bool.and_eq_true_iff.mp hc
  have h8 : rx_cs st ≤ 8 := Nat.le_of_ble_eq_true h8
  obtain ⟨ha, hla, aa, na, fa, ua, hea, hf⟩ := rx_ar_some hf
  obtain ⟨hb, hlb, ab, nb, fb, ub, heb, hf⟩ := rx_ar_some hf
  obtain ⟨hc, hf⟩ := rx_bifn hf
  obtain ⟨c1, hc⟩ := Bool.and_eq_true_iff.mp hc
  obtain ⟨c2, hc⟩ := Bool.and_eq_true_iff.mp hc
  obtain ⟨c3, c4⟩ := Bool.and_eq_true_iff.mp hc
  have c1 : sp / 8 + n / 8 ≤ na := Nat.le_of_ble_eq_true c1
  have c2 : dp / 8 + n / 8 ≤ nb := Nat.le_of_ble_eq_true c2
  have c3 : na < 268435456 := Nat.le_of_ble_eq_true c3
  have c4 : nb < 268435456 := Nat.le_of_ble_eq_true c4
  obtain ⟨hall, us, hf, hus⟩ := rx_cp_some (db := rx_fg fb 0) _ _ hf
  obtain ⟨h1, hf, e1, e2, e3, eg⟩ := rx_hs_some hf
  refine ⟨pc + 3, f, lv, st, h1, hk, hf, by omega, by omega, fun p l e R s m args below meth c hC hE n0 z0 hn0 hz0 hR1 hR2 hR3 hR4 H locs ls Q hW hF hL kk => ?_⟩
  have hts := hC.2.2.2.2.2.2.1
  have hroom : ((st.map (rx_v V)).map fun v => v.category).sum ≤ 8 := by rw [rx_cat_sum hV]; exact h8
  have hata := rx_ar_at hW hla hea
  have hatb := rx_ar_at hW hlb heb
  have clamp : ∀ z, z / 8 < 268435456 → ¬ rx_di z < 0 ∧ (rx_di z).toNatClampNeg = z / 8 := fun z hz => ⟨nI_pos (n := z / 8) (by omega), nI_clamp (n := z / 8) (by omega)⟩
  obtain ⟨n1, n2⟩ := clamp n (by omega)
  obtain ⟨d1, d2⟩ := clamp dp (by omega)
  obtain ⟨s1, s2⟩ := clamp sp (by omega)
  have nn : ∀ z : Int32, ¬ z < 0 → z.toInt = (z.toNatClampNeg : Int) := by
    intro z hz
    have hz0 : (0 : Int) ≤ z.toInt := by
      have := Int32.not_lt.mp hz
      simpa using Int32.le_iff_toInt_le.mp this
    show z.toInt = ((z.toInt.toNat : Nat) : Int)
    omega
  rw [List.map_cons, List.map_cons, List.map_cons, List.map_cons, List.map_cons, rx_v_0 (rx_beq hn), rx_v_0 (rx_beq hdp), rx_v_0 (rx_beq hsp), rx_v_2 ha, rx_v_2 hb]
  intro T hT X
  obtain ⟨-, k0, hk0, cm0, hkk0⟩ := (rx_ty hE ht).1 na (fun j => rx_v V (rx_lk (rx_fg fa 0) ua j))
  obtain ⟨-, k1, hk1, cm1, hkk1⟩ := (rx_ty hE ht).1 nb (fun j => rx_v V (rx_lk (rx_fg fb 0) ub j))
  have hnw : nativeFrameWords "java/lang/System" "arraycopy" 5 + 11 ≤ 80 := by decide +kernel
  obtain ⟨vm', X', step⟩ := X.arraycopy hC.1 hC.2.2.2.2.2.1 (hts _ hlink) (hts _ hnat) (hts _ hstat) (hts _ hini) (src := eb V + a / 8) (dst := eb V + b / 8) (srcPos := rx_di sp) (destPos := rx_di dp) (n := rx_di n) (by rw [hT]; exact hata) (by rw [hT]; exact hatb)
    (fun _ h => by cases h) (fun _ h => by cases h) (fun h => by cases h) (fun h => by cases h) hk0 hk1 hkk0 hkk1 (by simp [hp]) s1 d1 n1
    (by rw [nn _ s1, nn _ n1, arrV_size, s2, n2]; omega)
    (by rw [nn _ d1, nn _ n1, arrV_size, d2, n2]; omega)
    (fun vm₁ _ i hi => by
      rw [n2] at hi
      have e : (arrV (eA V tt) na (fun j => rx_v V (rx_lk (rx_fg fa 0) ua j))).slots.getD ((rx_di sp).toNatClampNeg + i) .null = rx_v V (rx_lk (rx_fg fa 0) ua (sp / 8 + i)) := by
        rw [Array.getD_eq_getD_getElem?, arrV_read _ _ (by rw [s2]; omega), s2]
        rfl
      rw [e]
      refine ⟨(rx_chk_ok hV (hall i hi)).2, ?_⟩
      rcases hval _ (hall i hi) with ⟨x, q⟩ | ⟨x, q⟩ <;> rw [q] <;> exact trivial)
    (g := F0 m pc ls (.int (rx_di n) :: .int (rx_di dp) :: .ref (eb V + b / 8) :: .int (rx_di sp) :: .ref (eb V + a / 8) :: st.map (rx_v V))) rfl (hL.1.trans hC.2.2.1.symm) (rest := st.map (rx_v V)) rfl (by rw [hC.2.1]; exact hdg) (by omega) (by show 2 * 0 + _ + _ ≤ _; omega)
  have e4 : copied (arrV (eA V tt) na (fun j => rx_v V (rx_lk (rx_fg fa 0) ua j))) (arrV (eA V tt) nb (fun j => rx_v V (rx_lk (rx_fg fb 0) ub j))) (rx_di sp) (rx_di dp) (rx_di n) = arrV (eA V tt) nb (fun j => rx_v V (rx_lk (rx_fg [[rx_fg fb 0]] 0) us j)) := by
    refine (va_copied (fun z => z) (eA V tt) (eA V tt) _ _ (by rw [s2, n2]; exact c1)).trans (congrArg (arrV (eA V tt) nb) (funext fun j => ?_))
    show va_cpy _ _ _ _ _ j = rx_v V (rx_lk (rx_fg fb 0) us j)
    rw [hus j, s2, d2, n2]
    unfold va_cpy
    by_cases q : dp / 8 ≤ j ∧ j < dp / 8 + n / 8
    · rw [if_pos q, if_pos q]
    · rw [if_neg q, if_neg q]
  rw [e4] at X' step
  have hl : eb V + b / 8 < H.size := (Array.getElem?_eq_some_iff.mp hatb).1
  generalize hce : arrV (eA V tt) nb (fun j => rx_v V (rx_lk (rx_fg [[rx_fg fb 0]] 0) us j)) = ce at X' step
  have hheap : ((T.setVm vm').setCell (eb V + b / 8) ce).heap = H.setIfInBounds (eb V + b / 8) ce := by rw [← hT]; rfl
  have oq : ∀ q : Nat, q ≠ eb V + b / 8 → (H.setIfInBounds (eb V + b / 8) ce)[q]? = H[q]? := fun q hq => by simp [Array.getElem?_setIfInBounds, Ne.symm hq]
  have hzz : (H.setIfInBounds (eb V + b / 8) ce).size = H.size := by simp
  have hW1 : rx_w V h1 (H.setIfInBounds (eb V + b / 8) ce) := rx_w_set hW hlb e1 e3 eg hzz oq (by
    show (H.setIfInBounds (eb V + b / 8) ce)[eb V + b / 8]? = some (arrV (eA V tt) nb (fun j => rx_v V (rx_lk (rx_fg [[rx_fg fb 0]] 0) us j)))
    rw [hce]
    simp [Array.getElem?_setIfInBounds, hl])
  have kk2 := kk (H.setIfInBounds (eb V + b / 8) ce) (locs ++ ((arrV (eA V tt) na (fun j => rx_v V (rx_lk (rx_fg fa 0) ua j))).stretch (rx_di sp).toNatClampNeg (rx_di n).toNatClampNeg).zipIdx.map fun q => ⟨eb V + b / 8, (rx_di dp).toNatClampNeg + q.2⟩) ls hW1 ⟨fun q hq => (oq q (by omega)).trans (hF.1 q hq), fun x hx => by
      rcases List.mem_append.mp hx with z | z
      · exact hF.2.1 x z
      · obtain ⟨y, -, hy⟩ := List.mem_map.mp z
        rw [← hy]
        exact Nat.le_add_right _ _, by rw [hzz]; exact hF.2.2⟩ hL
  rw [e1, e2] at kk2
  obtain ⟨t2, a1, b1⟩ := kk2 _ hheap X'
  exact ⟨t2, step t2 a1, b1⟩
end RX22
end
section
section RX23
variable {V : rx_V} {M : rx_M} {d pc : Nat} {f t : rx_K}
-- an array of arrays is made
noncomputable def rx_mu {β : Type} (b m : Nat) (us : List (Nat × Nat)) (k : List (Nat × Nat) → Option β) : Option β :=
  Nat.rec (motive := fun _ => List (Nat × Nat) → Option β) (fun us => k us) (fun m ih us => rx_f (8 * (b + 1 + m) + 2) fun c => ih ((m, c) :: us)) m us
theorem rx_mu_some {β : Type} {b : Nat} {k : List (Nat × Nat) → Option β} {r : β} (dv : Nat) : ∀ (m : Nat) (us : List (Nat × Nat)), rx_mu b m us k = some r → ∃ us', k us' = some r ∧ ∀ j, rx_lk dv us' j = if j < m then 8 * (b + 1 + j) + 2 else rx_lk dv us j
  | 0, us, h => ⟨us, h, fun j => by rw [if_neg (Nat.not_lt_zero _)]⟩
  | m + 1, us, h => by
    have h : (rx_f (8 * (b + 1 + m) + 2) fun c => rx_mu b m ((m, c) :: us) k) = some r := h
    simp only [rx_f_eq] at h
    obtain ⟨us', h2, h3⟩ := rx_mu_some dv m _ h
    refine ⟨us', h2, fun j => ?_⟩
    rw [h3 j, rx_lk_cons]
    by_cases q : j < m
    · rw [if_pos q, if_pos (by omega)]
    · rw [if_neg q]
      by_cases e : j = m
      · rw [if_pos e, if_pos (by omega), e]
      · rw [if_neg e, if_neg (by omega)]
noncomputable def rx_mp {β : Type} (e : rx_E) (m : Nat) (h : rx_H) (k : rx_H → Option β) : Option β :=
  Nat.rec (motive := fun _ => rx_H → Option β) (fun h => k h) (fun _ ih h => rx_hp h e ih) m h
theorem rx_mp_some {β : Type} {e : rx_E} {k : rx_H → Option β} {r : β} : ∀ (m : Nat) (h : rx_H), rx_mp e m h k = some r → ∃ h', k h' = some r ∧ h'.1 = h.1 + m ∧ h'.2.1 = h.2.1 + m * e.2.2.1 ∧ h'.2.2.1 = h.2.2.1 ∧ ∀ j, rx_hg h' j = if h.1 ≤ j ∧ j < h.1 + m then e else rx_hg h j
  | 0, h, hf => ⟨h, hf, rfl, by omega, rfl, fun j => by rw [if_neg (by omega)]⟩
  | m + 1, h, hf => by
    have hf : rx_hp h e (fun h' => rx_mp e m h' k) = some r := hf
    obtain ⟨h1, hf, e1, e2, e3, eg⟩ := rx_hp_some hf
    obtain ⟨h', g0, g1, g2, g3, g4⟩ := rx_mp_some m h1 hf
    refine ⟨h', g0, by omega, by rw [g2, e2, Nat.succ_mul]; omega, g3.trans e3, fun j => ?_⟩
    rw [g4 j, eg j, e1]
    by_cases q : h.1 + 1 ≤ j ∧ j < h.1 + 1 + m
    · rw [if_pos q, if_pos ⟨by omega, by omega⟩]
    · rw [if_neg q]
      by_cases e : j = h.1
      · rw [if_pos e, if_pos ⟨by omega, by omega⟩]
      · rw [if_neg e, if_neg (by omega)]
noncomputable def o_mna (to ti dc : Nat) (k : rx_K) : rx_K := fun lv st h => match st with
  | b :: a :: r => bif Nat.beq (a % 8) 0 && (Nat.beq (b % 8) 0 && (Nat.blt (a / 8) 1000000 && Nat.blt (b / 8) 1000000)) then rx_f (a / 8) fun N => rx_f (b / 8) fun K => rx_f h.1 fun z => rx_mu z N [] fun us => rx_hp h (to + 1, N, N, [[3]], us) fun h1 => rx_mp (ti + 1, K, K, [[dc]], []) N h1 fun h2 => rx_f (8 * z + 2) fun v => k lv (v :: r) h2 else none
  | _ => none
theorem rx_outer (c : ClassId) (N b : Nat) : ∀ i : Nat, Jvm.Free.Multi.outerC c N b i = arrV c N (fun j => if j < i then .ref (b + 1 + j) else .null)
  | 0 => by
    have h := arrV_new c N .null
    refine h.trans (congrArg (arrV c N) (funext fun j => ?_))
    rw [if_neg (Nat.not_lt_zero j)]
  | i + 1 => by
    show (Jvm.Free.Multi.outerC c N b i).setSlot i (.ref (b + 1 + i)) = _
    rw [rx_outer c N b i, arrV_store]
    refine congrArg (arrV c N) (funext fun j => ?_)
    unfold updV
    by_cases h : j = i
    · subst h; simp
    · rw [if_neg h]
      show (if j < i then Value.ref (b + 1 + j) else Value.null) = _
      by_cases q : j < i
      · rw [if_pos q, if_pos (by omega)]
      · rw [if_neg q, if_neg (by omega)]
theorem s_mna {to ti dc index : Nat} {ty : FieldType} (hto : (eT V)[to]? = some (.array ty)) (hti : (eT V)[ti]? = some ty) (hr : ty.isReference = false) (hts0 : (FieldType.array ty).toString = "[" ++ ty.toString) (hd : rx_dfok ty = true) (hdc : rx_df ty = dc) (hcb : componentBytes ty ≤ 8) (hdf : fits ty (defaultValue ty) = true) (hdd : (defaultValue ty).isDefault = true) (hX : ∀ s, eX V s → ∀ args, (Cond.arrayOver (.array ty)).before args s = true) (hw1 : Cond.classLink M.1 index ("[" ++ (FieldType.array ty).toString) ∈ eW V) (hw2 : Cond.arrayClass ty ∈ eW V) (hdg : decode M.2.1 pc = .ok (.multianewarray index 2, 4)) (hk : rx_OK V M d (pc + 4) f) : rx_OK V M d pc (o_mna to ti dc f) := by
  refine rx_heap fun lv st h r h' hf => ?_
  match st, hf with
  | [], hf => cases hf
  | [_], hf => cases hf
  | b :: a :: st, hf =>
  simp only [o_mna, rx_f_eq] at hf
  obtain ⟨hc, hf⟩ := rx_bifn hf
  obtain ⟨ha, hc⟩ := Bool.and_eq_true_iff.mp hc
  obtain ⟨hb, hc⟩ := Bool.and_eq_true_iff.mp hc
  obtain ⟨hN, hK⟩ := Bool.and_eq_true_iff.mp hc
  have hN : a / 8 < 1000000 := Nat.le_of_ble_eq_true hN
  have hK : b / 8 < 1000000 := Nat.le_of_ble_eq_true hK
  obtain ⟨us, hf, hus⟩ := rx_mu_some 3 _ _ hf
  obtain ⟨h1, hf, e1, e2, e3, eg⟩ := rx_hp_some hf
  obtain ⟨h2, hf, g1, g2, g3, gg⟩ := rx_mp_some _ _ hf
  dsimp only at e2 g2
  refine ⟨pc + 4, f, lv, _, h2, hk, hf, by omega, by omega, fun p l e R s m args below meth c hC hE n0 z0 hn0 hz0 hR1 hR2 hR3 hR4 H locs ls Q hW hF hL kk => ?_⟩
  have hts := hC.2.2.2.2.2.2.1
  have clamp : ∀ z, z / 8 < 1000000 → ¬ rx_di z < 0 ∧ (rx_di z).toNatClampNeg = z / 8 := fun z hz => ⟨nI_pos (n := z / 8) (by omega), nI_clamp (n := z / 8) (by omega)⟩
  obtain ⟨a1, a2⟩ := clamp a hN
  obtain ⟨b1, b2⟩ := clamp b hK
  rw [List.map_cons, List.map_cons, rx_v_0 (rx_beq ha), rx_v_0 (rx_beq hb)]
  intro T hT X
  have hb8 : b / 8 * componentBytes ty ≤ b / 8 * 8 := Nat.mul_le_mul_left _ hcb
  obtain ⟨vm₁, cA, comp, -, fA, fC, hO, hI, X', step⟩ := X.multianewarray2F hC.1 hC.2.2.2.2.2.1 (hts _ hw1) (hX s hE.2.1 args) (hts _ hw2) (g := F0 m pc ls (.int (rx_di b) :: .int (rx_di a) :: st.map (rx_v V))) rfl (by rw [hC.2.1]; exact hdg) rfl a1 b1 (by rw [a2]; omega) (by rw [b2]; omega) (by rw [b2]; omega) hdf hdd (by rw [a2]; omega) (by rw [a2, b2]; omega)
  rw [a2, b2] at X' step
  have ecA : cA = eA V to := Option.some.inj (fA.symm.trans (rx_ty hE hto).2)
  have ecB : comp = eA V ti := rx_RAp hr (rx_ty hE hti).2 (by rw [← hts0]; exact fC)
  subst ecA
  subst ecB
  generalize hFF : Jvm.Free.Multi.fill (T.setVm vm₁) (eA V to) (eA V ti) (a / 8) (b / 8) (defaultValue ty) (a / 8) = FF at X' step
  have hTh : (T.setVm vm₁).heap = H := hT
  obtain ⟨f1, f2, -, -⟩ := Jvm.Free.Multi.fill_facts (T.setVm vm₁) (eA V to) (eA V ti) (a / 8) (b / 8) (defaultValue ty) (a / 8)
  rw [hFF, hTh] at f1 f2
  rw [rx_outer] at f2
  have hold : ∀ x : Nat, x < H.size → FF.heap[x]? = H[x]? := fun x hx => by
    have := Jvm.Free.Multi.fill_old (T.setVm vm₁) (eA V to) (eA V ti) (a / 8) (b / 8) (defaultValue ty) (a := x) (by rw [hTh]; exact hx) (a / 8)
    rw [hFF, hTh] at this
    exact this
  have hrow : ∀ j : Nat, j < a / 8 → FF.heap[H.size + 1 + j]? = some (arrV (eA V ti) (b / 8) (fun _ => defaultValue ty)) := fun j hj => by
    have := Jvm.Free.Multi.fill_inner (T.setVm vm₁) (eA V to) (eA V ti) (a / 8) (b / 8) (defaultValue ty) (a / 8) j hj
    rw [hFF, hTh] at this
    rw [this]
    exact congrArg some (arrV_new _ _ _)
  have hbH : eb V ≤ H.size := by rw [hW.1]; omega
  have hW2 : rx_w V h2 FF.heap := by
    refine ⟨by rw [f1, g1, e1, hW.1]; omega, fun i hi => ?_, by rw [g3, e3]; exact hW.2.2⟩
    rw [gg i]
    by_cases q : h1.1 ≤ i ∧ i < h1.1 + a / 8
    · rw [if_pos q]
      show FF.heap[eb V + i]? = some (arrV (eA V ti) (b / 8) (fun j => rx_v V dc))
      have h9 := hrow (i - h1.1) (by omega)
      rw [show H.size + 1 + (i - h1.1) = eb V + i by rw [hW.1]; omega] at h9
      rw [h9, ← hdc, rx_df_v hd]
    · rw [if_neg q, eg i]
      by_cases q2 : i = h.1
      · rw [if_pos q2, q2]
        show FF.heap[eb V + h.1]? = some (arrV (eA V to) (a / 8) (fun j => rx_v V (rx_lk 3 us j)))
        rw [← hW.1, f2]
        refine congrArg some (congrArg (arrV (eA V to) (a / 8)) (funext fun j => ?_))
        rw [hus j]
        by_cases q3 : j < a / 8
        · rw [if_pos q3, if_pos q3, rx_v_2 (by omega), hW.1]
          have e9 : eb V + h.1 + 1 + j = eb V + (8 * (h.1 + 1 + j) + 2) / 8 := by omega
          exact congrArg Value.ref e9
        · rw [if_neg q3, if_neg q3]; rfl
      · rw [if_neg q2]
        exact (hW.2.1 i (by omega)).kept (hold _ (by rw [hW.1]; omega))
  have kk2 := kk FF.heap locs ls hW2 ⟨fun q hq => (hold q (by omega)).trans (hF.1 q hq), hF.2.1, by rw [f1]; have := hF.2.2; omega⟩ hL
  rw [List.map_cons, rx_v_2 (by omega), show (8 * h.1 + 2) / 8 = h.1 by omega, ← hW.1, show h2.1 - n0 = h.1 - n0 + 1 + a / 8 by omega, show h2.2.1 - z0 = h.2.1 - z0 + a / 8 + a / 8 * (b / 8) by omega] at kk2
  obtain ⟨t2, w1, w2⟩ := kk2 FF rfl X'
  rw [← hT] at w1
  exact ⟨t2, step t2 w1, w2⟩
end RX23
end
section
section RX24
variable {V : rx_V} {M : rx_M} {d pc : Nat} {f t : rx_K}
-- the same steps once more, written so that the kernel is quick with them; each is the one that was proved
noncomputable def rx_un {β : Type} (st : List Nat) (k : Nat → List Nat → Option β) : Option β := List.rec (motive := fun _ => Option β) none (fun v r _ => k v r) st
noncomputable def rx_if {β : Type} (b : Bool) (x y : Option β) : Option β := Bool.rec (motive := fun _ => Option β) y x b
theorem rx_if_eq {β : Type} (b : Bool) (x y : Option β) : rx_if b x y = bif b then x else y := by cases b <;> rfl
theorem rx_if_and {β : Type} (a b : Bool) (x y : Option β) : rx_if a (rx_if b x y) y = bif a && b then x else y := by cases a <;> cases b <;> rfl
noncomputable def q_isI (c : Nat) : Bool := Bool.rec (motive := fun _ => Bool) (rx_isI c) true (Nat.beq (Nat.mod c 8) 0)
noncomputable def q_isR (c : Nat) : Bool := Bool.rec (motive := fun _ => Bool) (rx_isR c) true (Nat.beq (Nat.mod c 8) 2)
noncomputable def q_isL (c : Nat) : Bool := Nat.beq (Nat.mod c 8) 1
theorem e_isI : q_isI = rx_isI := by
  funext c
  unfold q_isI
  cases h : Nat.beq (Nat.mod c 8) 0 with
  | false => rfl
  | true => unfold rx_isI; rw [show Nat.beq (c % 8) 0 = true from h]; rfl
theorem e_isR : q_isR = rx_isR := by
  funext c
  unfold q_isR
  cases h : Nat.beq (Nat.mod c 8) 2 with
  | false => rfl
  | true => unfold rx_isR; rw [show Nat.beq (c % 8) 2 = true from h]; rfl
theorem e_isL : q_isL = rx_isL := rfl
noncomputable def q_ld (chk : Nat → Bool) (i : Nat) (k : rx_K) : rx_K := fun lv st h => rx_f (rx_get 7 lv i) fun c => rx_if (chk c) (k lv (c :: st) h) none
theorem e_ld (chk : Nat → Bool) (i : Nat) (k : rx_K) : q_ld chk i k = o_ld chk i k := by
  funext lv st h
  simp only [q_ld, o_ld, rx_if_eq]
noncomputable def q_st1 {β : Type} (lv : List Nat) (i v : Nat) (k : List Nat → Option β) : Option β :=
  rx_set lv i v fun l1 => Nat.rec (motive := fun _ => Option β) (k l1) (fun j _ => rx_if (Nat.beq (Nat.mod (rx_get 7 lv j) 8) 1) (rx_set l1 j 7 k) (k l1)) i
theorem e_st1 {β : Type} (lv : List Nat) (i v : Nat) (k : List Nat → Option β) : q_st1 lv i v k = rx_st1 lv i v k := by
  unfold q_st1 rx_st1
  congr 1
  funext l1
  cases i with
  | zero => rfl
  | succ j => exact rx_if_eq _ _ _
noncomputable def q_st (chk : Nat → Bool) (i : Nat) (k : rx_K) : rx_K := fun lv st h => rx_un st fun v r => rx_if (chk v) (q_st1 lv i v fun lv' => k lv' r h) none
theorem e_st (chk : Nat → Bool) (i : Nat) (k : rx_K) : q_st chk i k = o_st chk i k := by
  funext lv st h
  cases st with
  | nil => rfl
  | cons v r => exact (rx_if_eq _ _ _).trans (by simp only [e_st1, o_st])
-- numbers
theorem rx_di_nat (c : Nat) : (rx_di c).toBitVec.toNat = c / 8 % 4294967296 := by
  unfold rx_di
  simp
theorem rx_add_n {x y : Nat} {a b : Int32} (hx : x % 8 = 0) (hy : y % 8 = 0) (ha : a.toBitVec.toNat = x / 8 % 4294967296) (hb : b.toBitVec.toNat = y / 8 % 4294967296) : rx_ei (a + b) = Nat.mod (Nat.add x y) 34359738368 := by
  show 8 * (a + b).toBitVec.toNat = (x + y) % 34359738368
  rw [Int32.toBitVec_add, BitVec.toNat_add, ha, hb]
  omega
noncomputable def q_inc (i N : Nat) (k : rx_K) : rx_K := fun lv st h => rx_f (rx_get 7 lv i) fun c => rx_if (Nat.beq (Nat.mod c 8) 0) (rx_f (Nat.mod (Nat.add c N) 34359738368) fun v => q_st1 lv i v fun lv' => k lv' st h) none
theorem e_inc {i N : Nat} {n : Int} (hN : N = 8 * (Int32.ofInt n).toBitVec.toNat) (k : rx_K) : q_inc i N k = o_inc i n k := by
  funext lv st h
  simp only [q_inc, o_inc, rx_if_eq, e_st1, rx_f_eq]
  cases hc : Nat.beq (Nat.mod (rx_get 7 lv i) 8) 0 with
  | false => rfl
  | true =>
    rw [cond_true, cond_true]
    have h8 : rx_get 7 lv i % 8 = 0 := rx_beq hc
    have hlt : (Int32.ofInt n).toBitVec.toNat < 4294967296 := (Int32.ofInt n).toBitVec.isLt
    rw [rx_add_n h8 (by omega : N % 8 = 0) (rx_di_nat _) (by omega)]
noncomputable def q_bi (F : Nat → Nat → Nat) (k : rx_K) : rx_K := fun lv st h => rx_un st fun y r1 => rx_un r1 fun x r => rx_if (Nat.beq (Nat.mod y 8) 0) (rx_if (Nat.beq (Nat.mod x 8) 0) (rx_f (F x y) fun v => k lv (v :: r) h) none) none
theorem e_bi {F : Nat → Nat → Nat} {g : Int32 → Int32 → Int32} (hF : ∀ x y : Nat, x % 8 = 0 → y % 8 = 0 → F x y = rx_ei (g (rx_di x) (rx_di y))) (k : rx_K) : q_bi F k = o_bi g k := by
  funext lv st h
  match st with
  | [] => rfl
  | [_] => rfl
  | y :: x :: r =>
    show rx_if (Nat.beq (Nat.mod y 8) 0) (rx_if (Nat.beq (Nat.mod x 8) 0) _ none) none = _
    rw [rx_if_and]
    show (bif Nat.beq (y % 8) 0 && Nat.beq (x % 8) 0 then _ else none) = (bif Nat.beq (y % 8) 0 && Nat.beq (x % 8) 0 then _ else none)
    cases hc : Nat.beq (y % 8) 0 && Nat.beq (x % 8) 0 with
    | false => rfl
    | true =>
      obtain ⟨hy, hx⟩ := Bool.and_eq_true_iff.mp hc
      rw [cond_true, cond_true, hF x y (rx_beq hx) (rx_beq hy)]
noncomputable def q_Fadd (x y : Nat) : Nat := Nat.mod (Nat.add x y) 34359738368
noncomputable def q_Fsub (x y : Nat) : Nat := Nat.mod (Nat.add x (Nat.sub 34359738368 (Nat.mod y 34359738368))) 34359738368
noncomputable def q_Fmul (x y : Nat) : Nat := Nat.mod (Nat.mul x (Nat.div y 8)) 34359738368
theorem e_add (k : rx_K) : q_bi q_Fadd k = o_bi (fun x y => x + y) k := e_bi (fun x y hx hy => (rx_add_n hx hy (rx_di_nat _) (rx_di_nat _)).symm) k
theorem e_sub (k : rx_K) : q_bi q_Fsub k = o_bi (fun x y => x - y) k := e_bi (fun x y hx hy => by
  show (x + (34359738368 - y % 34359738368)) % 34359738368 = 8 * (rx_di x - rx_di y).toBitVec.toNat
  rw [Int32.toBitVec_sub, BitVec.toNat_sub, rx_di_nat, rx_di_nat]
  omega) k
theorem e_mul (k : rx_K) : q_bi q_Fmul k = o_bi (fun x y => x * y) k := e_bi (fun x y hx hy => by
  show (x * (y / 8)) % 34359738368 = 8 * (rx_di x * rx_di y).toBitVec.toNat
  rw [Int32.toBitVec_mul, BitVec.toNat_mul, rx_di_nat, rx_di_nat]
  have h1 : x = 8 * (x / 8) := by omega
  generalize x / 8 = a at h1 ⊢
  generalize y / 8 = b
  subst h1
  show 8 * a * b % 34359738368 = 8 * (a % 4294967296 * (b % 4294967296) % 4294967296)
  rw [← Nat.mul_mod, Nat.mul_assoc, show 34359738368 = 8 * 4294967296 from rfl, Nat.mul_mod_mul_left]) k
-- compares
noncomputable def q_cx (x y : Nat) : Bool := Nat.ble (Nat.succ (Nat.mod (Nat.add x 17179869184) 34359738368)) (Nat.mod (Nat.add y 17179869184) 34359738368)
theorem q_cx_ok {x y : Nat} (hx : x % 8 = 0) (hy : y % 8 = 0) : q_cx x y = decide (rx_di x < rx_di y) := by
  have h1 := rx_di_int x
  have h2 := rx_di_int y
  have key : (rx_di x < rx_di y) ↔ (x + 17179869184) % 34359738368 < (y + 17179869184) % 34359738368 := by
    rw [Int32.lt_iff_toInt_lt, h1, h2, Int.bmod_def, Int.bmod_def]
    have e1 : ((x / 8 : Nat) : Int) % (4294967296 : Nat) = ((x / 8 % 4294967296 : Nat) : Int) := by omega
    have e2 : ((y / 8 : Nat) : Int) % (4294967296 : Nat) = ((y / 8 % 4294967296 : Nat) : Int) := by omega
    have a1 : x / 8 % 4294967296 < 4294967296 := Nat.mod_lt _ (by decide)
    have a2 : y / 8 % 4294967296 < 4294967296 := Nat.mod_lt _ (by decide)
    have b1 : (x + 17179869184) % 34359738368 = 8 * ((x / 8 % 4294967296 + 2147483648) % 4294967296) := by omega
    have b2 : (y + 17179869184) % 34359738368 = 8 * ((y / 8 % 4294967296 + 2147483648) % 4294967296) := by omega
    rw [b1, b2]
    have c1 : ((x : Int) / 8) % 4294967296 = ((x / 8 % 4294967296 : Nat) : Int) := by omega
    have c2 : ((y : Int) / 8) % 4294967296 = ((y / 8 % 4294967296 : Nat) : Int) := by omega
    generalize x / 8 % 4294967296 = a at *
    generalize y / 8 % 4294967296 = b at *
    split <;> split <;> omega
  show Nat.ble ((x + 17179869184) % 34359738368 + 1) ((y + 17179869184) % 34359738368) = _
  rw [decide_eq_decide.mpr key]
  cases q : Nat.ble ((x + 17179869184) % 34359738368 + 1) ((y + 17179869184) % 34359738368) with
  | true => exact (decide_eq_true (Nat.le_of_ble_eq_true q)).symm
  | false => exact (decide_eq_false (fun z => by rw [Nat.ble_eq_true_of_le z] at q; cases q)).symm
theorem q_ce_ok {x y : Nat} (hx : x % 8 = 0) (hy : y % 8 = 0) : Nat.beq (Nat.mod x 34359738368) (Nat.mod y 34359738368) = decide (rx_di x = rx_di y) := by
  have key : (rx_di x = rx_di y) ↔ x % 34359738368 = y % 34359738368 := by
    rw [← Int32.toBitVec_inj, ← BitVec.toNat_inj, rx_di_nat, rx_di_nat]
    omega
  rw [decide_eq_decide.mpr key]
  show Nat.beq (x % 34359738368) (y % 34359738368) = _
  cases q : Nat.beq (x % 34359738368) (y % 34359738368) with
  | true => exact (decide_eq_true (rx_beq q)).symm
  | false => exact (decide_eq_false (fun z => by rw [z] at q; simp at q)).symm
noncomputable def q_two (F : Nat → Nat → Bool) (slow : rx_K) (t f : rx_K) : rx_K := fun lv st h => rx_un st fun y r1 => rx_un r1 fun x r => rx_if (Nat.beq (Nat.mod x 8) 0) (rx_if (Nat.beq (Nat.mod y 8) 0) (rx_if (F x y) (t lv r h) (f lv r h)) (slow lv st h)) (slow lv st h)
noncomputable def q_one (F : Nat → Nat → Bool) (slow : rx_K) (t f : rx_K) : rx_K := fun lv st h => rx_un st fun x r => rx_if (Nat.beq (Nat.mod x 8) 0) (rx_if (F x 0) (t lv r h) (f lv r h)) (slow lv st h)
theorem e_two {F : Nat → Nat → Bool} {q : rx_H → Nat → Nat → Option Bool} (hF : ∀ (h : rx_H) (x y : Nat), x % 8 = 0 → y % 8 = 0 → q h x y = some (F x y)) (t f : rx_K) : q_two F (o_c2 q t f) t f = o_c2 q t f := by
  funext lv st h
  match st with
  | [] => rfl
  | [_] => rfl
  | y :: x :: r =>
    show rx_if (Nat.beq (Nat.mod x 8) 0) (rx_if (Nat.beq (Nat.mod y 8) 0) (rx_if (F x y) (t lv r h) (f lv r h)) (o_c2 q t f lv (y :: x :: r) h)) (o_c2 q t f lv (y :: x :: r) h) = _
    cases hx : Nat.beq (Nat.mod x 8) 0 with
    | false => rfl
    | true =>
      cases hy : Nat.beq (Nat.mod y 8) 0 with
      | false => rfl
      | true =>
        show rx_if (F x y) (t lv r h) (f lv r h) = o_c2 q t f lv (y :: x :: r) h
        simp only [o_c2, hF h x y (rx_beq hx) (rx_beq hy)]
        exact rx_if_eq _ _ _
theorem e_one {F : Nat → Nat → Bool} {q : rx_H → Nat → Nat → Option Bool} (hF : ∀ (h : rx_H) (x y : Nat), x % 8 = 0 → y % 8 = 0 → q h x y = some (F x y)) (t f : rx_K) : q_one F (o_c1 q t f) t f = o_c1 q t f := by
  funext lv st h
  match st with
  | [] => rfl
  | x :: r =>
    show rx_if (Nat.beq (Nat.mod x 8) 0) (rx_if (F x 0) (t lv r h) (f lv r h)) (o_c1 q t f lv (x :: r) h) = _
    cases hx : Nat.beq (Nat.mod x 8) 0 with
    | false => rfl
    | true =>
      show rx_if (F x 0) (t lv r h) (f lv r h) = o_c1 q t f lv (x :: r) h
      simp only [o_c1, hF h x 0 (rx_beq hx) rfl]
      exact rx_if_eq _ _ _
noncomputable def q_Flt (x y : Nat) : Bool := q_cx x y
noncomputable def q_Fgt (x y : Nat) : Bool := q_cx y x
noncomputable def q_Feq (x y : Nat) : Bool := Nat.beq (Nat.mod x 34359738368) (Nat.mod y 34359738368)
theorem q_lt_ok (h : rx_H) (x y : Nat) (hx : x % 8 = 0) (hy : y % 8 = 0) : rx_lt h x y = some (q_Flt x y) := by
  unfold rx_lt q_Flt
  rw [q_cx_ok hx hy, hx, hy]; rfl
theorem q_gt_ok (h : rx_H) (x y : Nat) (hx : x % 8 = 0) (hy : y % 8 = 0) : rx_lt h y x = some (q_Fgt x y) := q_lt_ok h y x hy hx
theorem q_eq_ok (h : rx_H) (x y : Nat) (hx : x % 8 = 0) (hy : y % 8 = 0) : rx_eq h x y = some (q_Feq x y) := by
  unfold rx_eq q_Feq
  rw [q_ce_ok hx hy, hx, hy]; rfl
noncomputable def q_lt2 (t f : rx_K) : rx_K := q_two q_Flt (o_c2 rx_lt t f) t f
noncomputable def q_gt2 (t f : rx_K) : rx_K := q_two q_Fgt (o_c2 (fun h x y => rx_lt h y x) t f) t f
noncomputable def q_eq2 (t f : rx_K) : rx_K := q_two q_Feq (o_c2 rx_eq t f) t f
noncomputable def q_lt1 (t f : rx_K) : rx_K := q_one q_Flt (o_c1 rx_lt t f) t f
noncomputable def q_gt1 (t f : rx_K) : rx_K := q_one q_Fgt (o_c1 (fun h x y => rx_lt h y x) t f) t f
noncomputable def q_eq1 (t f : rx_K) : rx_K := q_one q_Feq (o_c1 rx_eq t f) t f
theorem e_lt2 (t f : rx_K) : q_lt2 t f = o_c2 rx_lt t f := e_two q_lt_ok t f
theorem e_gt2 (t f : rx_K) : q_gt2 t f = o_c2 (fun h x y => rx_lt h y x) t f := e_two q_gt_ok t f
theorem e_eq2 (t f : rx_K) : q_eq2 t f = o_c2 rx_eq t f := e_two q_eq_ok t f
theorem e_lt1 (t f : rx_K) : q_lt1 t f = o_c1 rx_lt t f := e_one q_lt_ok t f
theorem e_gt1 (t f : rx_K) : q_gt1 t f = o_c1 (fun h x y => rx_lt h y x) t f := e_one q_gt_ok t f
theorem e_eq1 (t f : rx_K) : q_eq1 t f = o_c1 rx_eq t f := e_one q_eq_ok t f
-- cells
noncomputable def q_en {β : Type} (e : rx_E) (k : Nat → Nat → Nat → List (List Nat) → List (Nat × Nat) → Option β) : Option β := Prod.rec (motive := fun _ => Option β) (fun z r => Prod.rec (motive := fun _ => Option β) (fun c r => Prod.rec (motive := fun _ => Option β) (fun n r => Prod.rec (motive := fun _ => Option β) (fun fs us => k z c n fs us) r) r) r) e
noncomputable def q_ob {β : Type} (h : rx_H) (o ci : Nat) (k : Nat → List (List Nat) → List (Nat × Nat) → Option β) : Option β := rx_if (Nat.beq (Nat.mod o 8) 2) (rx_if (Nat.ble (Nat.succ (Nat.div o 8)) h.1) (q_en (rx_hg h (Nat.div o 8)) fun z c n fs us => rx_if (Nat.beq z 0) (rx_if (Nat.beq c ci) (k n fs us) none) none) none) none
theorem e_ob {β : Type} (h : rx_H) (o ci : Nat) (k : List (List Nat) → Option β) : q_ob h o ci (fun _ fs _ => k fs) = rx_ob h o ci k := by
  unfold q_ob rx_ob
  rw [rx_if_and]
  show (bif Nat.beq (o % 8) 2 && Nat.blt (o / 8) h.1 then _ else none) = _
  congr 1
  show q_en (rx_hg h (o / 8)) _ = _
  generalize rx_hg h (o / 8) = e
  obtain ⟨z, c, n, fs, us⟩ := e
  exact rx_if_and _ _ _ _
noncomputable def q_getf (ci k0 : Nat) (k : rx_K) : rx_K := fun lv st h => rx_un st fun o r => q_ob h o ci fun _ fs _ => rx_f (rx_fg fs k0) fun v => k lv (v :: r) h
theorem e_getf (ci k0 : Nat) (k : rx_K) : q_getf ci k0 k = o_getf ci k0 k := by
  funext lv st h
  cases st with
  | nil => rfl
  | cons o r => exact e_ob h o ci _
noncomputable def q_putf (chk : Nat → Bool) (ci k0 : Nat) (k : rx_K) : rx_K := fun lv st h => rx_un st fun v r1 => rx_un r1 fun o r => rx_if (chk v) (q_ob h o ci fun n fs us => rx_fs fs k0 v fun fs' => rx_hs h (Nat.div o 8) (0, ci, n, fs', us) fun h' => k lv r h') none
theorem e_putf (chk : Nat → Bool) (ci k0 : Nat) (k : rx_K) : q_putf chk ci k0 k = o_putf chk ci k0 k := by
  funext lv st h
  match st with
  | [] => rfl
  | [_] => rfl
  | v :: o :: r =>
    show rx_if (chk v) _ none = (bif chk v then _ else none)
    rw [rx_if_eq]
    congr 1
    unfold q_ob rx_ob
    rw [rx_if_and]
    show (bif Nat.beq (o % 8) 2 && Nat.blt (o / 8) h.1 then _ else none) = _
    congr 1
    show q_en (rx_hg h (o / 8)) _ = _
    generalize rx_hg h (o / 8) = e
    obtain ⟨z, c, n, fs, us⟩ := e
    refine (rx_if_and _ _ _ _).trans ?_
    show (bif Nat.beq z 0 && Nat.beq c ci then _ else none) = (bif Nat.beq z 0 && Nat.beq c ci then _ else none)
    cases hc : Nat.beq z 0 && Nat.beq c ci with
    | false => rfl
    | true =>
      obtain ⟨h1, h2⟩ := Bool.and_eq_true_iff.mp hc
      rw [rx_beq h1, rx_beq h2]
      rfl
noncomputable def q_ar {β : Type} (h : rx_H) (o tt : Nat) (k : Nat → Nat → List (Nat × Nat) → Option β) : Option β := rx_if (Nat.beq (Nat.mod o 8) 2) (rx_if (Nat.ble (Nat.succ (Nat.div o 8)) h.1) (q_en (rx_hg h (Nat.div o 8)) fun z _ n fs us => rx_if (Nat.beq z (Nat.succ tt)) (k n (rx_fg fs 0) us) none) none) none
theorem e_ar {β : Type} (h : rx_H) (o tt : Nat) (k : Nat → Nat → List (Nat × Nat) → Option β) : q_ar h o tt k = rx_ar h o tt k := by
  unfold q_ar rx_ar
  rw [rx_if_and]
  show (bif Nat.beq (o % 8) 2 && Nat.blt (o / 8) h.1 then _ else none) = _
  congr 1
  show q_en (rx_hg h (o / 8)) _ = _
  generalize rx_hg h (o / 8) = e
  obtain ⟨z, c, n, fs, us⟩ := e
  exact rx_if_eq _ _ _
noncomputable def q_ald (tt : Nat) (k : rx_K) : rx_K := fun lv st h => rx_un st fun i r1 => rx_un r1 fun o r => rx_if (Nat.beq (Nat.mod i 8) 0) (q_ar h o tt fun n dv us => rx_if (Nat.ble (Nat.succ (Nat.div i 8)) n) (rx_if (Nat.ble (Nat.succ n) 268435456) (rx_f (rx_lk dv us (Nat.div i 8)) fun v => k lv (v :: r) h) none) none) none
theorem e_ald (tt : Nat) (k : rx_K) : q_ald tt k = o_ald tt k := by
  funext lv st h
  match st with
  | [] => rfl
  | [_] => rfl
  | i :: o :: r =>
    show rx_if (Nat.beq (i % 8) 0) _ none = (bif Nat.beq (i % 8) 0 then _ else none)
    rw [rx_if_eq, e_ar]
    congr 1
    show rx_ar h o tt _ = rx_ar h o tt _
    congr 1
    funext n dv us
    exact rx_if_and _ _ _ _
noncomputable def q_ast (tt : Nat) (g : Nat → Nat) (chk : Nat → Bool) (k : rx_K) : rx_K := fun lv st h => rx_un st fun v r1 => rx_un r1 fun i r2 => rx_un r2 fun o r => rx_if (chk v) (rx_if (Nat.beq (Nat.mod i 8) 0) (q_ar h o tt fun n dv us => rx_if (Nat.ble (Nat.succ (Nat.div i 8)) n) (rx_if (Nat.ble (Nat.succ n) 268435456) (rx_f (Nat.div i 8) fun j => rx_f (g v) fun v' => rx_hs h (Nat.div o 8) (Nat.succ tt, n, n, [[dv]], (j, v') :: us) fun h' => k lv r h') none) none) none) none
theorem e_ast (tt : Nat) (g : Nat → Nat) (chk : Nat → Bool) (k : rx_K) : q_ast tt g chk k = o_ast tt g chk k := by
  funext lv st h
  match st with
  | [] => rfl
  | [_] => rfl
  | [_, _] => rfl
  | v :: i :: o :: r =>
    refine (rx_if_and (chk v) (Nat.beq (i % 8) 0) _ none).trans ?_
    show (bif chk v && Nat.beq (i % 8) 0 then _ else none) = (bif chk v && Nat.beq (i % 8) 0 then _ else none)
    congr 1
    rw [e_ar]
    show rx_ar h o tt _ = rx_ar h o tt _
    congr 1
    funext n dv us
    exact rx_if_and _ _ _ _
noncomputable def q_new (ci n : Nat) (fs : List (List Nat)) (k : rx_K) : rx_K := fun lv st h => rx_hp h (0, ci, n, fs, []) fun h1 => rx_f (Nat.add (Nat.mul 8 h.1) 2) fun v => k lv (v :: st) h1
theorem e_new (ci n : Nat) (fs : List (List Nat)) (k : rx_K) : q_new ci n fs k = o_new ci n fs k := rfl
noncomputable def q_newa (tt dc : Nat) (k : rx_K) : rx_K := fun lv st h => rx_un st fun n r => rx_if (Nat.beq (Nat.mod n 8) 0) (rx_if (Nat.ble (Nat.succ (Nat.div n 8)) 1000000) (rx_f (Nat.div n 8) fun N => rx_hp h (Nat.succ tt, N, N, [[dc]], []) fun h1 => rx_f (Nat.add (Nat.mul 8 h.1) 2) fun v => k lv (v :: r) h1) none) none
theorem e_newa (tt dc : Nat) (k : rx_K) : q_newa tt dc k = o_newa tt dc k := by
  funext lv st h
  cases st with
  | nil => rfl
  | cons n r => exact rx_if_and _ _ _ _
noncomputable def q_obj (k : rx_K) : rx_K := fun lv st h => rx_un st fun o r => rx_if (Nat.beq (Nat.mod o 8) 2) (rx_if (Nat.ble (rx_cs r) 8) (k lv r h) none) none
theorem e_obj (k : rx_K) : q_obj k = o_obj k := by
  funext lv st h
  cases st with
  | nil => rfl
  | cons o r => exact rx_if_and _ _ _ _
noncomputable def q_dup (k : rx_K) : rx_K := fun lv st h => rx_un st fun v r => rx_if (Nat.beq (Nat.mod v 8) 1) (o_dup k lv st h) (k lv (v :: v :: r) h)
theorem e_dup (k : rx_K) : q_dup k = o_dup k := by
  funext lv st h
  cases st with
  | nil => rfl
  | cons v r =>
    show rx_if (Nat.beq (v % 8) 1) _ _ = _
    cases hc : Nat.beq (v % 8) 1 with
    | true => rfl
    | false =>
      show k lv (v :: v :: r) h = (bif Nat.beq (rx_ct v) 1 then _ else none)
      unfold rx_ct
      rw [hc]; rfl
-- loops: the blocks of a method, jumps back by fuel
noncomputable def rx_J (bs : (Nat → rx_K) → List rx_K) (n : Nat) : Nat → rx_K := Nat.rec (motive := fun _ => Nat → rx_K) (fun _ => o_none) (fun _ ih k => rx_nth (bs ih) k o_none) n
theorem rx_loop {hs : List Nat} {bs : (Nat → rx_K) → List rx_K} (hb : ∀ j : Nat → rx_K, (∀ k pc, hs[k]? = some pc → rx_OK V M d pc (j k)) → ∀ k pc, hs[k]? = some pc → rx_OK V M d pc (rx_nth (bs j) k o_none)) : ∀ n k pc, hs[k]? = some pc → rx_OK V M d pc (rx_J bs n k)
  | 0, _, _, _ => s_none
  | n + 1, k, pc, h => hb (rx_J bs n) (rx_loop hb n) k pc h
end RX24
end
section
section RX25
variable {V : rx_V} {M : rx_M} {d pc : Nat} {f t : rx_K}
theorem rx_by {g : rx_K} (h : f = g) (k : rx_OK V M d pc g) : rx_OK V M d pc f := h ▸ k
theorem e_ldI (i : Nat) (k : rx_K) : q_ld q_isI i k = o_ld rx_isI i k := (e_ld _ _ _).trans (by rw [e_isI])
theorem e_ldR (i : Nat) (k : rx_K) : q_ld q_isR i k = o_ld rx_isR i k := (e_ld _ _ _).trans (by rw [e_isR])
theorem e_stI (i : Nat) (k : rx_K) : q_st q_isI i k = o_st rx_isI i k := (e_st _ _ _).trans (by rw [e_isI])
theorem e_stR (i : Nat) (k : rx_K) : q_st q_isR i k = o_st rx_isR i k := (e_st _ _ _).trans (by rw [e_isR])
theorem e_astI (tt : Nat) (g : Nat → Nat) (k : rx_K) : q_ast tt g q_isI k = o_ast tt g rx_isI k := (e_ast _ _ _ _).trans (by rw [e_isI])
-- which of the values from outside stands uppermost, second, n-th
def zq0 (x : Nat) (st : List Nat) (_ : rx_H) : Bool := match st with
  | o :: _ => Nat.beq o (8 * x + 4)
  | _ => false
def zq1 (x : Nat) (st : List Nat) (_ : rx_H) : Bool := match st with
  | _ :: o :: _ => Nat.beq o (8 * x + 4)
  | _ => false
noncomputable def zqn (n x : Nat) (st : List Nat) (_ : rx_H) : Bool := Nat.beq (rx_get 7 st n) (8 * x + 4)
-- one of several ways, by its place
noncomputable def rx_pk (l : List (Nat × rx_K)) (p : Nat) : rx_K := List.rec (motive := fun _ => rx_K) o_none (fun q _ ih => Bool.rec (motive := fun _ => rx_K) ih q.2 (Nat.beq q.1 p)) l
theorem rx_pk_ok {l : List (Nat × rx_K)} (h : ∀ q ∈ l, rx_OK V M d q.1 q.2) (p : Nat) : rx_OK V M d p (rx_pk l p) := by
  induction l with
  | nil => exact s_none
  | cons q l ih =>
    show rx_OK V M d p (Bool.rec (motive := fun _ => rx_K) (rx_pk l p) q.2 (Nat.beq q.1 p))
    cases e : Nat.beq q.1 p with
    | false => exact ih (fun x hx => h x (List.mem_cons_of_mem _ hx))
    | true =>
      have := h q List.mem_cons_self
      rw [rx_beq e] at this
      exact this
-- a switch by a number from outside that no case has
noncomputable def o_swy (L Hh : Int) (f : rx_K) : rx_K := fun lv st h => match st with
  | v :: r => bif Nat.beq (v % 8) 4 then (match rx_b h v with
    | some (a, b) => bif decide (b < L) || decide (Hh < a) then f lv r h else none
    | none => none) else none
  | _ => none
theorem s_swy {dt : Nat} {dflt L Hh : Int} {offs : Array Int} {len : Nat} (hdg : decode M.2.1 pc = .ok (.tableswitch dflt L Hh offs, len)) (hd : (pc : Int) + dflt = (dt : Int)) (hj : rx_OK V M d dt f) : rx_OK V M d pc (o_swy L Hh f) := by
  refine rx_pure fun lv st h r h' hf => ?_
  match st, hf with
  | [], hf => cases hf
  | v :: st, hf =>
  simp only [o_swy] at hf
  obtain ⟨hc, hf⟩ := rx_bifn hf
  cases hb : rx_b h v with
  | none => rw [hb] at hf; cases hf
  | some ab =>
    obtain ⟨a, b⟩ := ab
    rw [hb] at hf
    dsimp only at hf
    obtain ⟨hq, hf⟩ := rx_bifn hf
    refine ⟨dt, f, lv, st, hj, hf, fun p l e R s m args below meth c hC hE H locs ls cells slots Q hW hF hL kk => ?_⟩
    obtain ⟨x, ex, h1, h2⟩ := rx_b_ok hW hb
    rw [List.map_cons, ex]
    refine lv_tableOut hC.1 hC.2.1 hdg ?_ hd (kk ls hL)
    rcases Bool.or_eq_true_iff.mp hq with q | q
    · have := of_decide_eq_true q; omega
    · have := of_decide_eq_true q; omega
def zqx (st : List Nat) (_ : rx_H) : Bool := match st with
  | v :: _ => Nat.beq (v % 8) 4
  | _ => false
noncomputable def o_swx (L Hh : Int) (lo : Nat) (ts : List Nat) (dt : Nat) (j : Nat → rx_K) : rx_K := o_alt zqx (o_swy L Hh (j dt)) (o_sw lo ts dt j)
theorem s_swx {lo : Nat} {dt : Nat} {ts : List Nat} {j : Nat → rx_K} {dflt L Hh : Int} {offs : Array Int} {len : Nat} (hdg : decode M.2.1 pc = .ok (.tableswitch dflt L Hh offs, len)) (hlo : L.emod 4294967296 = (lo : Int)) (hL : L + ts.length = Hh + 1) (hrg : -2147483648 ≤ L ∧ Hh < 2147483648) (hd : (pc : Int) + dflt = (dt : Int)) (hts : (offs.toList.map fun o => (pc : Int) + o) = ts.map Int.ofNat) (hj : ∀ b ∈ dt :: ts, rx_OK V M d b (j b)) : rx_OK V M d pc (o_swx L Hh lo ts dt j) :=
  s_alt (s_swy hdg hd (hj dt List.mem_cons_self)) (s_sw hdg hlo hL hrg hd hts hj)
-- the script: what stands in it from its second place on has codes, of its first the six lowest bits are known
noncomputable def o_xiald (k : Nat) (sc : List Nat) (L : Nat) (g : rx_K) : rx_K := fun lv st h => match st with
  | i :: o :: r => bif Nat.beq o (8 * k + 4) && (Nat.beq (i % 8) 0 && (Nat.ble 1 (i / 8) && Nat.blt (i / 8) L)) then rx_f (rx_nth sc (i / 8) 7) fun v => g lv (v :: r) h else none
  | _ => none
theorem s_xiald {k L : Nat} {sc : List Nat} {F : Nat → Value} (hX : (∀ s, eX V s → ∃ q, ex V k = .ref q ∧ va_T .int q L F (fun q => eb V ≤ q) s s.heap) ∧ L < 2147483648 ∧ ∀ j, 1 ≤ j → j < L → F j = rx_v V (rx_nth sc j 7)) (hdg : decode M.2.1 pc = .ok (.iaload, 1)) (hk : rx_OK V M d (pc + 1) f) : rx_OK V M d pc (o_xiald k sc L f) := by
  refine rx_pure fun lv st h r h' hf => ?_
  match st, hf with
  | [], hf => cases hf
  | [_], hf => cases hf
  | i :: a :: st, hf =>
  simp only [o_xiald, rx_f_eq] at hf
  obtain ⟨hc, hf⟩ := rx_bifn hf
  obtain ⟨hc, hi⟩ := Bool.and_eq_true_iff.mp hc
  obtain ⟨hi, hlt⟩ := Bool.and_eq_true_iff.mp hi
  obtain ⟨h1, hlt⟩ := Bool.and_eq_true_iff.mp hlt
  have hc := rx_beq hc
  have h1 : 1 ≤ i / 8 := Nat.le_of_ble_eq_true h1
  have hlt : i / 8 < L := Nat.le_of_ble_eq_true hlt
  refine ⟨pc + 1, f, lv, _, hk, hf, fun p l e R s m args below meth c hC hE H locs ls cells slots Q hW hF hL kk => ?_⟩
  obtain ⟨q, e1, e2⟩ := hX.1 s hE.2.1
  obtain ⟨x1, x2⟩ := rx_in (x := rx_di i) (i := i / 8) (n := L) rfl hlt hX.2.1
  rw [List.map_cons, List.map_cons, rx_v_0 (rx_beq hi), rx_v_4 (by omega), show a / 8 = k by omega, e1]
  exact va_ti hC.1 hC.2.1 e2 (rx_S hF) x1 (by rw [x2]; exact hX.2.2 _ h1 hlt) hdg (kk ls hL)
noncomputable def o_s63 (k w L : Nat) (g : rx_K) : rx_K := fun lv st h => match st with
  | i :: o :: r => bif Nat.beq o (8 * k + 4) && (Nat.beq i 0 && Nat.ble 1 L) then g lv (8 * w :: r) h else none
  | _ => none
theorem s_s63 {k w L : Nat} {F : Nat → Value} (hX : (∀ s, eX V s → ∃ q, ex V k = .ref q ∧ va_T .int q L F (fun q => eb V ≤ q) s s.heap) ∧ L < 2147483648 ∧ (1 ≤ L → ∃ x : Int32, F 0 = .int x ∧ x &&& 63 = rx_di (8 * w))) (hdg : decode M.2.1 pc = .ok (.iaload, 1)) (hdg2 : decode M.2.1 (pc + 1) = .ok (.bipush 63, 2)) (hdg3 : decode M.2.1 (pc + 1 + 2) = .ok (.iand, 1)) (hk : rx_OK V M d (pc + 1 + 2 + 1) f) : rx_OK V M d pc (o_s63 k w L f) := by
  refine rx_pure fun lv st h r h' hf => ?_
  match st, hf with
  | [], hf => cases hf
  | [_], hf => cases hf
  | i :: a :: st, hf =>
  simp only [o_s63] at hf
  obtain ⟨hc, hf⟩ := rx_bifn hf
  obtain ⟨hc, hi⟩ := Bool.and_eq_true_iff.mp hc
  obtain ⟨hi, hl⟩ := Bool.and_eq_true_iff.mp hi
  have hc := rx_beq hc
  have hi := rx_beq hi
  have hl : 1 ≤ L := Nat.le_of_ble_eq_true hl
  refine ⟨pc + 1 + 2 + 1, f, lv, _, hk, hf, fun p l e R s m args below meth c hC hE H locs ls cells slots Q hW hF hL kk => ?_⟩
  obtain ⟨q, e1, e2⟩ := hX.1 s hE.2.1
  obtain ⟨x, ex, hx⟩ := hX.2.2 hl
  subst hi
  have h2 := kk ls hL
  rw [List.map_cons, rx_v_0 (by omega), ← hx] at h2
  rw [List.map_cons, List.map_cons, rx_v_0 rfl, rx_v_4 (by omega), show a / 8 = k by omega, e1]
  obtain ⟨x1, x2⟩ := rx_in (x := rx_di 0) (i := 0) (n := L) rfl hl hX.2.1
  refine va_ti (v := .int x) hC.1 hC.2.1 e2 (rx_S hF) x1 (by rw [x2]; exact ex) hdg ?_
  refine lv_bipush (v := 63) hC.1 hC.2.1 hdg2 (by decide +kernel) ?_
  exact lv_iand hC.1 hC.2.1 hdg3 h2
end RX25
end
section
def RX0 : String := "LinkHouse$Bodies"
def TX0 : u_T := fun k => match k with
  | 0 => ("LinkHouse$Bodies", "world", "LLinkHouse$World;", false)
  | 1 => ("LinkHouse$Bodies", "build", "LLinkHouse$Build;", false)
  | 2 => ("LinkHouse$Bodies", "reader", "LLinkHouse$Reader;", false)
  | 3 => ("LinkHouse$Bodies", "fault", "I", false)
  | 4 => ("LinkHouse$Bodies", "faultToken", "I", false)
  | 5 => ("LinkHouse$Bodies", "row", "LLinkHouse$Row;", false)
  | 6 => ("LinkHouse$Bodies", "self", "I", false)
  | 7 => ("LinkHouse$Bodies", "member", "LLinkHouse$Member;", false)
  | 8 => ("LinkHouse$Bodies", "fixed", "Z", false)
  | 9 => ("LinkHouse$Bodies", "localName", "[J", true)
  | 10 => ("LinkHouse$Bodies", "localType", "[J", true)
  | 11 => ("LinkHouse$Bodies", "locals", "I", false)
  | 12 => ("LinkHouse$Bodies", "localsMost", "I", false)
  | 13 => ("LinkHouse$Bodies", "candidate", "[LLinkHouse$Member;", true)
  | 14 => ("LinkHouse$Bodies", "candidates", "I", false)
  | 15 => ("LinkHouse$Bodies", "places", "[I", true)
  | _ => ("LinkHouse$Bodies", "folded", "I", false)
def tyX0 : Nat → FieldType := fun k => match k with
  | 0 => .object "LinkHouse$World"
  | 1 => .object "LinkHouse$Build"
  | 2 => .object "LinkHouse$Reader"
  | 3 => .int
  | 4 => .int
  | 5 => .object "LinkHouse$Row"
  | 6 => .int
  | 7 => .object "LinkHouse$Member"
  | 8 => .boolean
  | 9 => .array .long
  | 10 => .array .long
  | 11 => .int
  | 12 => .int
  | 13 => .array (.object "LinkHouse$Member")
  | 14 => .int
  | 15 => .array .int
  | _ => .int
theorem nmX0 : ∀ a, a < 17 → ∀ b, b < 17 → a ≠ b → (TX0 a).2.1 ≠ (TX0 b).2.1 := by decide +kernel
theorem tyX0_ok : ∀ k, k < 17 → parseFieldDescriptor (TX0 k).2.2.1 = some (tyX0 k) := by decide +kernel
abbrev cX0_init : ByteArray := prog_2_method_1_code
def yX0_init : MethodName := ⟨RX0, "<init>", "()V"⟩
abbrev cX0_judge : ByteArray := prog_2_method_3_code
def yX0_judge : MethodName := ⟨RX0, "judge", "(LLinkHouse$World;LLinkHouse$Build;LLinkHouse$Reader;)Z"⟩
def RX1 : String := "LinkHouse$Build"
def TX1 : u_T := fun k => match k with
  | 0 => ("LinkHouse$Build", "library", "I", false)
  | 1 => ("LinkHouse$Build", "number", "I", false)
  | 2 => ("LinkHouse$Build", "rows", "[LLinkHouse$Row;", true)
  | 3 => ("LinkHouse$Build", "rowCount", "I", false)
  | 4 => ("LinkHouse$Build", "pool", "[LLinkHouse$Member;", true)
  | 5 => ("LinkHouse$Build", "poolCount", "I", false)
  | 6 => ("LinkHouse$Build", "text", "[B", true)
  | 7 => ("LinkHouse$Build", "length", "I", false)
  | 8 => ("LinkHouse$Build", "from", "[I", true)
  | 9 => ("LinkHouse$Build", "to", "[I", true)
  | 10 => ("LinkHouse$Build", "useSort", "[I", true)
  | 11 => ("LinkHouse$Build", "useOwner", "[I", true)
  | 12 => ("LinkHouse$Build", "useClass", "[J", true)
  | 13 => ("LinkHouse$Build", "useMember", "[LLinkHouse$Member;", true)
  | 14 => ("LinkHouse$Build", "useOther", "[J", true)
  | 15 => ("LinkHouse$Build", "useCount", "I", false)
  | 16 => ("LinkHouse$Build", "code", "[I", true)
  | _ => ("LinkHouse$Build", "codeCount", "I", false)
def tyX1 : Nat → FieldType := fun k => match k with
  | 0 => .int
  | 1 => .int
  | 2 => .array (.object "LinkHouse$Row")
  | 3 => .int
  | 4 => .array (.object "LinkHouse$Member")
  | 5 => .int
  | 6 => .array .byte
  | 7 => .int
  | 8 => .array .int
  | 9 => .array .int
  | 10 => .array .int
  | 11 => .array .int
  | 12 => .array .long
  | 13 => .array (.object "LinkHouse$Member")
  | 14 => .array .long
  | 15 => .int
  | 16 => .array .int
  | _ => .int
theorem nmX1 : ∀ a, a < 18 → ∀ b, b < 18 → a ≠ b → (TX1 a).2.1 ≠ (TX1 b).2.1 := by decide +kernel
theorem tyX1_ok : ∀ k, k < 18 → parseFieldDescriptor (TX1 k).2.2.1 = some (tyX1 k) := by decide +kernel
abbrev cX1_init : ByteArray := prog_3_method_1_code
def yX1_init : MethodName := ⟨RX1, "<init>", "(IIIIII)V"⟩
abbrev cX1_clear : ByteArray := prog_3_method_2_code
def yX1_clear : MethodName := ⟨RX1, "clear", "()V"⟩
abbrev cX1_newRow : ByteArray := prog_3_method_3_code
def yX1_newRow : MethodName := ⟨RX1, "newRow", "()LLinkHouse$Row;"⟩
abbrev cX1_newMember : ByteArray := prog_3_method_4_code
def yX1_newMember : MethodName := ⟨RX1, "newMember", "()LLinkHouse$Member;"⟩
def RX2 : String := "LinkHouse$Differ"
def TX2 : u_T := fun k => match k with
  | 0 => ("LinkHouse$Differ", "a", "LLinkHouse$Build;", false)
  | 1 => ("LinkHouse$Differ", "b", "LLinkHouse$Build;", false)
  | 2 => ("LinkHouse$Differ", "keeps", "Z", false)
  | 3 => ("LinkHouse$Differ", "list", "[I", true)
  | 4 => ("LinkHouse$Differ", "count", "I", false)
  | 5 => ("LinkHouse$Differ", "grade", "I", false)
  | 6 => ("LinkHouse$Differ", "rowA", "I", false)
  | 7 => ("LinkHouse$Differ", "rowB", "I", false)
  | 8 => ("LinkHouse$Differ", "tokensA", "[I", true)
  | _ => ("LinkHouse$Differ", "tokensB", "[I", true)
def tyX2 : Nat → FieldType := fun k => match k with
  | 0 => .object "LinkHouse$Build"
  | 1 => .object "LinkHouse$Build"
  | 2 => .boolean
  | 3 => .array .int
  | 4 => .int
  | 5 => .int
  | 6 => .int
  | 7 => .int
  | 8 => .array .int
  | _ => .array .int
theorem nmX2 : ∀ a, a < 10 → ∀ b, b < 10 → a ≠ b → (TX2 a).2.1 ≠ (TX2 b).2.1 := by decide +kernel
theorem tyX2_ok : ∀ k, k < 10 → parseFieldDescriptor (TX2 k).2.2.1 = some (tyX2 k) := by decide +kernel
abbrev cX2_init : ByteArray := prog_4_method_1_code
def yX2_init : MethodName := ⟨RX2, "<init>", "()V"⟩
def RX3 : String := "LinkHouse$Emitter"
def TX3 : u_T := fun k => match k with
  | 0 => ("LinkHouse$Emitter", "world", "LLinkHouse$World;", false)
  | 1 => ("LinkHouse$Emitter", "build", "LLinkHouse$Build;", false)
  | 2 => ("LinkHouse$Emitter", "reader", "LLinkHouse$Reader;", false)
  | 3 => ("LinkHouse$Emitter", "row", "LLinkHouse$Row;", false)
  | 4 => ("LinkHouse$Emitter", "rowNumber", "I", false)
  | 5 => ("LinkHouse$Emitter", "member", "LLinkHouse$Member;", false)
  | 6 => ("LinkHouse$Emitter", "startTail", "I", false)
  | _ => ("LinkHouse$Emitter", "fieldTail", "I", false)
def tyX3 : Nat → FieldType := fun k => match k with
  | 0 => .object "LinkHouse$World"
  | 1 => .object "LinkHouse$Build"
  | 2 => .object "LinkHouse$Reader"
  | 3 => .object "LinkHouse$Row"
  | 4 => .int
  | 5 => .object "LinkHouse$Member"
  | 6 => .int
  | _ => .int
theorem nmX3 : ∀ a, a < 8 → ∀ b, b < 8 → a ≠ b → (TX3 a).2.1 ≠ (TX3 b).2.1 := by decide +kernel
theorem tyX3_ok : ∀ k, k < 8 → parseFieldDescriptor (TX3 k).2.2.1 = some (tyX3 k) := by decide +kernel
abbrev cX3_init : ByteArray := prog_5_method_1_code
def yX3_init : MethodName := ⟨RX3, "<init>", "()V"⟩
abbrev cX3_write : ByteArray := prog_5_method_2_code
def yX3_write : MethodName := ⟨RX3, "write", "(LLinkHouse$World;LLinkHouse$Build;LLinkHouse$Reader;)V"⟩
def RX4 : String := "LinkHouse$Judge"
def TX4 : u_T := fun k => match k with
  | 0 => ("LinkHouse$Judge", "world", "LLinkHouse$World;", false)
  | 1 => ("LinkHouse$Judge", "build", "LLinkHouse$Build;", false)
  | 2 => ("LinkHouse$Judge", "reader", "LLinkHouse$Reader;", false)
  | 3 => ("LinkHouse$Judge", "fault", "I", false)
  | _ => ("LinkHouse$Judge", "faultToken", "I", false)
def tyX4 : Nat → FieldType := fun k => match k with
  | 0 => .object "LinkHouse$World"
  | 1 => .object "LinkHouse$Build"
  | 2 => .object "LinkHouse$Reader"
  | 3 => .int
  | _ => .int
theorem nmX4 : ∀ a, a < 5 → ∀ b, b < 5 → a ≠ b → (TX4 a).2.1 ≠ (TX4 b).2.1 := by decide +kernel
theorem tyX4_ok : ∀ k, k < 5 → parseFieldDescriptor (TX4 k).2.2.1 = some (tyX4 k) := by decide +kernel
abbrev cX4_init : ByteArray := prog_6_method_1_code
def yX4_init : MethodName := ⟨RX4, "<init>", "()V"⟩
abbrev cX4_judge : ByteArray := prog_6_method_3_code
def yX4_judge : MethodName := ⟨RX4, "judge", "(LLinkHouse$World;LLinkHouse$Build;LLinkHouse$Reader;)Z"⟩
def RX5 : String := "LinkHouse$Loader"
def TX5 : u_T := fun k => match k with
  | 0 => ("LinkHouse$Loader", "world", "LLinkHouse$World;", false)
  | 1 => ("LinkHouse$Loader", "state", "[I", true)
  | 2 => ("LinkHouse$Loader", "failure", "[I", true)
  | 3 => ("LinkHouse$Loader", "event", "[I", true)
  | 4 => ("LinkHouse$Loader", "eventCount", "I", false)
  | 5 => ("LinkHouse$Loader", "trail", "[I", true)
  | 6 => ("LinkHouse$Loader", "trailCount", "I", false)
  | 7 => ("LinkHouse$Loader", "open", "[I", true)
  | 8 => ("LinkHouse$Loader", "step", "[I", true)
  | 9 => ("LinkHouse$Loader", "linking", "[I", true)
  | 10 => ("LinkHouse$Loader", "linkStep", "[I", true)
  | 11 => ("LinkHouse$Loader", "found", "LLinkHouse$Member;", false)
  | 12 => ("LinkHouse$Loader", "foundAt", "I", false)
  | 13 => ("LinkHouse$Loader", "foundName", "J", false)
  | 14 => ("LinkHouse$Loader", "named", "I", false)
  | 15 => ("LinkHouse$Loader", "looked", "[I", true)
  | 16 => ("LinkHouse$Loader", "lookedCount", "I", false)
  | 17 => ("LinkHouse$Loader", "useFrom", "[I", true)
  | 18 => ("LinkHouse$Loader", "asked", "[I", true)
  | _ => ("LinkHouse$Loader", "askedMember", "[LLinkHouse$Member;", true)
def tyX5 : Nat → FieldType := fun k => match k with
  | 0 => .object "LinkHouse$World"
  | 1 => .array .int
  | 2 => .array .int
  | 3 => .array .int
  | 4 => .int
  | 5 => .array .int
  | 6 => .int
  | 7 => .array .int
  | 8 => .array .int
  | 9 => .array .int
  | 10 => .array .int
  | 11 => .object "LinkHouse$Member"
  | 12 => .int
  | 13 => .long
  | 14 => .int
  | 15 => .array .int
  | 16 => .int
  | 17 => .array .int
  | 18 => .array .int
  | _ => .array (.object "LinkHouse$Member")
theorem nmX5 : ∀ a, a < 20 → ∀ b, b < 20 → a ≠ b → (TX5 a).2.1 ≠ (TX5 b).2.1 := by decide +kernel
theorem tyX5_ok : ∀ k, k < 20 → parseFieldDescriptor (TX5 k).2.2.1 = some (tyX5 k) := by decide +kernel
abbrev cX5_init : ByteArray := prog_7_method_1_code
def yX5_init : MethodName := ⟨RX5, "<init>", "(I)V"⟩
abbrev cX5_clear : ByteArray := prog_7_method_2_code
def yX5_clear : MethodName := ⟨RX5, "clear", "(LLinkHouse$World;)V"⟩
def RX6 : String := "LinkHouse$Machine"
def TX6 : u_T := fun k => match k with
  | 0 => ("LinkHouse$Machine", "world", "LLinkHouse$World;", false)
  | 1 => ("LinkHouse$Machine", "loader", "LLinkHouse$Loader;", true)
  | 2 => ("LinkHouse$Machine", "stack", "[I", true)
  | 3 => ("LinkHouse$Machine", "top", "I", false)
  | 4 => ("LinkHouse$Machine", "frame", "[[I", true)
  | 5 => ("LinkHouse$Machine", "depth", "I", false)
  | 6 => ("LinkHouse$Machine", "handler", "[I", true)
  | 7 => ("LinkHouse$Machine", "handlers", "I", false)
  | 8 => ("LinkHouse$Machine", "objectClass", "[I", true)
  | 9 => ("LinkHouse$Machine", "objectFrom", "[I", true)
  | 10 => ("LinkHouse$Machine", "objects", "I", false)
  | 11 => ("LinkHouse$Machine", "field", "[I", true)
  | 12 => ("LinkHouse$Machine", "fields", "I", false)
  | 13 => ("LinkHouse$Machine", "statics", "[I", true)
  | 14 => ("LinkHouse$Machine", "steps", "I", false)
  | 15 => ("LinkHouse$Machine", "out", "[I", true)
  | 16 => ("LinkHouse$Machine", "outs", "I", false)
  | 17 => ("LinkHouse$Machine", "failure", "I", false)
  | 18 => ("LinkHouse$Machine", "thrown", "I", false)
  | _ => ("LinkHouse$Machine", "given", "I", false)
def tyX6 : Nat → FieldType := fun k => match k with
  | 0 => .object "LinkHouse$World"
  | 1 => .object "LinkHouse$Loader"
  | 2 => .array .int
  | 3 => .int
  | 4 => .array (.array .int)
  | 5 => .int
  | 6 => .array .int
  | 7 => .int
  | 8 => .array .int
  | 9 => .array .int
  | 10 => .int
  | 11 => .array .int
  | 12 => .int
  | 13 => .array .int
  | 14 => .int
  | 15 => .array .int
  | 16 => .int
  | 17 => .int
  | 18 => .int
  | _ => .int
theorem nmX6 : ∀ a, a < 20 → ∀ b, b < 20 → a ≠ b → (TX6 a).2.1 ≠ (TX6 b).2.1 := by decide +kernel
theorem tyX6_ok : ∀ k, k < 20 → parseFieldDescriptor (TX6 k).2.2.1 = some (tyX6 k) := by decide +kernel
abbrev cX6_init : ByteArray := prog_8_method_1_code
def yX6_init : MethodName := ⟨RX6, "<init>", "()V"⟩
abbrev cX6_clear : ByteArray := prog_8_method_2_code
def yX6_clear : MethodName := ⟨RX6, "clear", "(LLinkHouse$World;)V"⟩
def RX7 : String := "LinkHouse$Member"
def TX7 : u_T := fun k => match k with
  | 0 => ("LinkHouse$Member", "kind", "I", false)
  | 1 => ("LinkHouse$Member", "access", "I", false)
  | 2 => ("LinkHouse$Member", "fixed", "Z", false)
  | 3 => ("LinkHouse$Member", "last", "Z", false)
  | 4 => ("LinkHouse$Member", "bare", "Z", false)
  | 5 => ("LinkHouse$Member", "bridge", "Z", false)
  | 6 => ("LinkHouse$Member", "block", "Z", false)
  | 7 => ("LinkHouse$Member", "name", "J", false)
  | 8 => ("LinkHouse$Member", "type", "J", false)
  | 9 => ("LinkHouse$Member", "count", "I", false)
  | 10 => ("LinkHouse$Member", "param", "[J", true)
  | 11 => ("LinkHouse$Member", "tok", "I", false)
  | 12 => ("LinkHouse$Member", "from", "I", false)
  | 13 => ("LinkHouse$Member", "to", "I", false)
  | 14 => ("LinkHouse$Member", "body", "LLinkHouse$Node;", false)
  | 15 => ("LinkHouse$Member", "constant", "Z", false)
  | 16 => ("LinkHouse$Member", "worth", "I", false)
  | 17 => ("LinkHouse$Member", "code", "I", false)
  | _ => ("LinkHouse$Member", "locals", "I", false)
def tyX7 : Nat → FieldType := fun k => match k with
  | 0 => .int
  | 1 => .int
  | 2 => .boolean
  | 3 => .boolean
  | 4 => .boolean
  | 5 => .boolean
  | 6 => .boolean
  | 7 => .long
  | 8 => .long
  | 9 => .int
  | 10 => .array .long
  | 11 => .int
  | 12 => .int
  | 13 => .int
  | 14 => .object "LinkHouse$Node"
  | 15 => .boolean
  | 16 => .int
  | 17 => .int
  | _ => .int
theorem nmX7 : ∀ a, a < 19 → ∀ b, b < 19 → a ≠ b → (TX7 a).2.1 ≠ (TX7 b).2.1 := by decide +kernel
theorem tyX7_ok : ∀ k, k < 19 → parseFieldDescriptor (TX7 k).2.2.1 = some (tyX7 k) := by decide +kernel
abbrev cX7_init : ByteArray := prog_9_method_1_code
def yX7_init : MethodName := ⟨RX7, "<init>", "()V"⟩
abbrev cX7_clear : ByteArray := prog_9_method_2_code
def yX7_clear : MethodName := ⟨RX7, "clear", "()V"⟩
def RX8 : String := "LinkHouse$Node"
def TX8 : u_T := fun k => match k with
  | 0 => ("LinkHouse$Node", "kind", "I", false)
  | 1 => ("LinkHouse$Node", "first", "I", false)
  | 2 => ("LinkHouse$Node", "tok", "I", false)
  | 3 => ("LinkHouse$Node", "op", "I", false)
  | 4 => ("LinkHouse$Node", "slot", "I", false)
  | 5 => ("LinkHouse$Node", "a", "LLinkHouse$Node;", false)
  | 6 => ("LinkHouse$Node", "b", "LLinkHouse$Node;", false)
  | 7 => ("LinkHouse$Node", "c", "LLinkHouse$Node;", false)
  | 8 => ("LinkHouse$Node", "next", "LLinkHouse$Node;", false)
  | 9 => ("LinkHouse$Node", "type", "J", false)
  | 10 => ("LinkHouse$Node", "owner", "J", false)
  | _ => ("LinkHouse$Node", "member", "LLinkHouse$Member;", false)
def tyX8 : Nat → FieldType := fun k => match k with
  | 0 => .int
  | 1 => .int
  | 2 => .int
  | 3 => .int
  | 4 => .int
  | 5 => .object "LinkHouse$Node"
  | 6 => .object "LinkHouse$Node"
  | 7 => .object "LinkHouse$Node"
  | 8 => .object "LinkHouse$Node"
  | 9 => .long
  | 10 => .long
  | _ => .object "LinkHouse$Member"
theorem nmX8 : ∀ a, a < 12 → ∀ b, b < 12 → a ≠ b → (TX8 a).2.1 ≠ (TX8 b).2.1 := by decide +kernel
theorem tyX8_ok : ∀ k, k < 12 → parseFieldDescriptor (TX8 k).2.2.1 = some (tyX8 k) := by decide +kernel
abbrev cX8_init : ByteArray := prog_10_method_1_code
def yX8_init : MethodName := ⟨RX8, "<init>", "()V"⟩
def RX9 : String := "LinkHouse$Reader"
def TX9 : u_T := fun k => match k with
  | 0 => ("LinkHouse$Reader", "words", "[J", true)
  | 1 => ("LinkHouse$Reader", "kind", "[I", true)
  | 2 => ("LinkHouse$Reader", "from", "[I", true)
  | 3 => ("LinkHouse$Reader", "to", "[I", true)
  | 4 => ("LinkHouse$Reader", "code", "[J", true)
  | 5 => ("LinkHouse$Reader", "count", "I", false)
  | 6 => ("LinkHouse$Reader", "text", "[B", false)
  | 7 => ("LinkHouse$Reader", "length", "I", false)
  | 8 => ("LinkHouse$Reader", "at", "I", false)
  | 9 => ("LinkHouse$Reader", "fault", "I", false)
  | 10 => ("LinkHouse$Reader", "faultToken", "I", false)
  | 11 => ("LinkHouse$Reader", "build", "LLinkHouse$Build;", false)
  | 12 => ("LinkHouse$Reader", "behindHead", "I", false)
  | 13 => ("LinkHouse$Reader", "nodes", "[LLinkHouse$Node;", true)
  | _ => ("LinkHouse$Reader", "nodeCount", "I", false)
def tyX9 : Nat → FieldType := fun k => match k with
  | 0 => .array .long
  | 1 => .array .int
  | 2 => .array .int
  | 3 => .array .int
  | 4 => .array .long
  | 5 => .int
  | 6 => .array .byte
  | 7 => .int
  | 8 => .int
  | 9 => .int
  | 10 => .int
  | 11 => .object "LinkHouse$Build"
  | 12 => .int
  | 13 => .array (.object "LinkHouse$Node")
  | _ => .int
theorem nmX9 : ∀ a, a < 15 → ∀ b, b < 15 → a ≠ b → (TX9 a).2.1 ≠ (TX9 b).2.1 := by decide +kernel
theorem tyX9_ok : ∀ k, k < 15 → parseFieldDescriptor (TX9 k).2.2.1 = some (tyX9 k) := by decide +kernel
abbrev cX9_init : ByteArray := prog_11_method_1_code
def yX9_init : MethodName := ⟨RX9, "<init>", "()V"⟩
abbrev cX9_read : ByteArray := prog_11_method_2_code
def yX9_read : MethodName := ⟨RX9, "read", "(LLinkHouse$Build;[BI)Z"⟩
abbrev cX9_scanAll : ByteArray := prog_11_method_3_code
def yX9_scanAll : MethodName := ⟨RX9, "scanAll", "([BI)V"⟩
abbrev cX9_isCall : ByteArray := prog_11_method_4_code
def yX9_isCall : MethodName := ⟨RX9, "isCall", "([BI)Z"⟩
abbrev cX9_keep : ByteArray := prog_11_method_5_code
def yX9_keep : MethodName := ⟨RX9, "keep", "()V"⟩
abbrev cX9_scan : ByteArray := prog_11_method_6_code
def yX9_scan : MethodName := ⟨RX9, "scan", "(I)I"⟩
abbrev cX9_sixBits : ByteArray := prog_11_method_10_code
def yX9_sixBits : MethodName := ⟨RX9, "sixBits", "(I)J"⟩
abbrev cX9_now : ByteArray := prog_11_method_11_code
def yX9_now : MethodName := ⟨RX9, "now", "()I"⟩
def RX10 : String := "LinkHouse$Row"
def TX10 : u_T := fun k => match k with
  | 0 => ("LinkHouse$Row", "home", "LLinkHouse$Build;", false)
  | 1 => ("LinkHouse$Row", "name", "J", false)
  | 2 => ("LinkHouse$Row", "tok", "I", false)
  | 3 => ("LinkHouse$Row", "open", "Z", false)
  | 4 => ("LinkHouse$Row", "face", "Z", false)
  | 5 => ("LinkHouse$Row", "last", "Z", false)
  | 6 => ("LinkHouse$Row", "bare", "Z", false)
  | 7 => ("LinkHouse$Row", "told", "Z", false)
  | 8 => ("LinkHouse$Row", "parent", "J", false)
  | 9 => ("LinkHouse$Row", "within", "J", false)
  | 10 => ("LinkHouse$Row", "listed", "[J", true)
  | 11 => ("LinkHouse$Row", "counts", "[I", true)
  | 12 => ("LinkHouse$Row", "items", "[LLinkHouse$Member;", true)
  | 13 => ("LinkHouse$Row", "itemCount", "I", false)
  | 14 => ("LinkHouse$Row", "members", "[LLinkHouse$Member;", true)
  | 15 => ("LinkHouse$Row", "memberCount", "I", false)
  | 16 => ("LinkHouse$Row", "useFrom", "I", false)
  | 17 => ("LinkHouse$Row", "useCount", "I", false)
  | 18 => ("LinkHouse$Row", "begin", "LLinkHouse$Member;", false)
  | 19 => ("LinkHouse$Row", "fieldCode", "I", false)
  | _ => ("LinkHouse$Row", "slots", "I", false)
def tyX10 : Nat → FieldType := fun k => match k with
  | 0 => .object "LinkHouse$Build"
  | 1 => .long
  | 2 => .int
  | 3 => .boolean
  | 4 => .boolean
  | 5 => .boolean
  | 6 => .boolean
  | 7 => .boolean
  | 8 => .long
  | 9 => .long
  | 10 => .array .long
  | 11 => .array .int
  | 12 => .array (.object "LinkHouse$Member")
  | 13 => .int
  | 14 => .array (.object "LinkHouse$Member")
  | 15 => .int
  | 16 => .int
  | 17 => .int
  | 18 => .object "LinkHouse$Member"
  | 19 => .int
  | _ => .int
theorem nmX10 : ∀ a, a < 21 → ∀ b, b < 21 → a ≠ b → (TX10 a).2.1 ≠ (TX10 b).2.1 := by decide +kernel
theorem tyX10_ok : ∀ k, k < 21 → parseFieldDescriptor (TX10 k).2.2.1 = some (tyX10 k) := by decide +kernel
abbrev cX10_init : ByteArray := prog_12_method_1_code
def yX10_init : MethodName := ⟨RX10, "<init>", "()V"⟩
abbrev cX10_clear : ByteArray := prog_12_method_2_code
def yX10_clear : MethodName := ⟨RX10, "clear", "(LLinkHouse$Build;)V"⟩
abbrev cX10_add : ByteArray := prog_12_method_3_code
def yX10_add : MethodName := ⟨RX10, "add", "(LLinkHouse$Member;)V"⟩
def RX11 : String := "LinkHouse$World"
def TX11 : u_T := fun k => match k with
  | 0 => ("LinkHouse$World", "builtIn", "LLinkHouse$Build;", true)
  | 1 => ("LinkHouse$World", "row", "[LLinkHouse$Row;", true)
  | 2 => ("LinkHouse$World", "count", "I", false)
  | 3 => ("LinkHouse$World", "parent", "[I", true)
  | 4 => ("LinkHouse$World", "chain", "[I", true)
  | 5 => ("LinkHouse$World", "face", "[I", true)
  | 6 => ("LinkHouse$World", "bar", "[I", true)
  | 7 => ("LinkHouse$World", "host", "[I", true)
  | 8 => ("LinkHouse$World", "nest", "[I", true)
  | 9 => ("LinkHouse$World", "up", "[J", true)
  | 10 => ("LinkHouse$World", "all", "[I", true)
  | 11 => ("LinkHouse$World", "allCount", "[I", true)
  | 12 => ("LinkHouse$World", "path", "[I", true)
  | 13 => ("LinkHouse$World", "step", "[I", true)
  | 14 => ("LinkHouse$World", "seen", "[I", true)
  | 15 => ("LinkHouse$World", "seenCount", "I", false)
  | 16 => ("LinkHouse$World", "best", "[LLinkHouse$Member;", true)
  | 17 => ("LinkHouse$World", "special", "LLinkHouse$Member;", false)
  | 18 => ("LinkHouse$World", "at", "I", false)
  | _ => ("LinkHouse$World", "why", "I", false)
def tyX11 : Nat → FieldType := fun k => match k with
  | 0 => .object "LinkHouse$Build"
  | 1 => .array (.object "LinkHouse$Row")
  | 2 => .int
  | 3 => .array .int
  | 4 => .array .int
  | 5 => .array .int
  | 6 => .array .int
  | 7 => .array .int
  | 8 => .array .int
  | 9 => .array .long
  | 10 => .array .int
  | 11 => .array .int
  | 12 => .array .int
  | 13 => .array .int
  | 14 => .array .int
  | 15 => .int
  | 16 => .array (.object "LinkHouse$Member")
  | 17 => .object "LinkHouse$Member"
  | 18 => .int
  | _ => .int
theorem nmX11 : ∀ a, a < 20 → ∀ b, b < 20 → a ≠ b → (TX11 a).2.1 ≠ (TX11 b).2.1 := by decide +kernel
theorem tyX11_ok : ∀ k, k < 20 → parseFieldDescriptor (TX11 k).2.2.1 = some (tyX11 k) := by decide +kernel
abbrev cX11_init : ByteArray := prog_13_method_1_code
def yX11_init : MethodName := ⟨RX11, "<init>", "()V"⟩
abbrev cX11_openMaker : ByteArray := prog_13_method_2_code
def yX11_openMaker : MethodName := ⟨RX11, "openMaker", "(LLinkHouse$Member;)LLinkHouse$Member;"⟩
abbrev cX11_clear : ByteArray := prog_13_method_3_code
def yX11_clear : MethodName := ⟨RX11, "clear", "()V"⟩
abbrev cX11_enter : ByteArray := prog_13_method_4_code
def yX11_enter : MethodName := ⟨RX11, "enter", "(LLinkHouse$Build;)V"⟩
abbrev cX11_find : ByteArray := prog_13_method_5_code
def yX11_find : MethodName := ⟨RX11, "find", "(J)I"⟩
abbrev cX11_settle : ByteArray := prog_13_method_6_code
def yX11_settle : MethodName := ⟨RX11, "settle", "()V"⟩
abbrev cX11_bars : ByteArray := prog_13_method_7_code
def yX11_bars : MethodName := ⟨RX11, "bars", "(LLinkHouse$Row;IZ)I"⟩
abbrev cX11_close : ByteArray := prog_13_method_8_code
def yX11_close : MethodName := ⟨RX11, "close", "()V"⟩
def RX12 : String := "LinkHouse"
def TX12 : u_T := fun k => match k with
  | 0 => ("LinkHouse", "tape", "[B", true)
  | 1 => ("LinkHouse", "tapeLength", "I", false)
  | 2 => ("LinkHouse", "out", "[B", true)
  | 3 => ("LinkHouse", "outLength", "I", false)
  | 4 => ("LinkHouse", "store", "[LLinkHouse$Build;", true)
  | 5 => ("LinkHouse", "built", "[I", true)
  | 6 => ("LinkHouse", "standing", "[I", true)
  | 7 => ("LinkHouse", "trial", "[I", true)
  | 8 => ("LinkHouse", "reader", "LLinkHouse$Reader;", true)
  | 9 => ("LinkHouse", "judge", "LLinkHouse$Judge;", true)
  | 10 => ("LinkHouse", "bodies", "LLinkHouse$Bodies;", true)
  | 11 => ("LinkHouse", "emitter", "LLinkHouse$Emitter;", true)
  | 12 => ("LinkHouse", "faultPlace", "I", false)
  | 13 => ("LinkHouse", "world", "LLinkHouse$World;", true)
  | 14 => ("LinkHouse", "spare", "LLinkHouse$World;", true)
  | 15 => ("LinkHouse", "meeter", "LLinkHouse$Loader;", true)
  | 16 => ("LinkHouse", "checker", "LLinkHouse$Loader;", true)
  | 17 => ("LinkHouse", "lost", "[I", true)
  | 18 => ("LinkHouse", "lostCount", "I", false)
  | 19 => ("LinkHouse", "differ", "LLinkHouse$Differ;", true)
  | _ => ("LinkHouse", "machine", "LLinkHouse$Machine;", true)
def tyX12 : Nat → FieldType := fun k => match k with
  | 0 => .array .byte
  | 1 => .int
  | 2 => .array .byte
  | 3 => .int
  | 4 => .array (.object "LinkHouse$Build")
  | 5 => .array .int
  | 6 => .array .int
  | 7 => .array .int
  | 8 => .object "LinkHouse$Reader"
  | 9 => .object "LinkHouse$Judge"
  | 10 => .object "LinkHouse$Bodies"
  | 11 => .object "LinkHouse$Emitter"
  | 12 => .int
  | 13 => .object "LinkHouse$World"
  | 14 => .object "LinkHouse$World"
  | 15 => .object "LinkHouse$Loader"
  | 16 => .object "LinkHouse$Loader"
  | 17 => .array .int
  | 18 => .int
  | 19 => .object "LinkHouse$Differ"
  | _ => .object "LinkHouse$Machine"
theorem nmX12 : ∀ a, a < 21 → ∀ b, b < 21 → a ≠ b → (TX12 a).2.1 ≠ (TX12 b).2.1 := by decide +kernel
theorem tyX12_ok : ∀ k, k < 21 → parseFieldDescriptor (TX12 k).2.2.1 = some (tyX12 k) := by decide +kernel
abbrev cX12_init : ByteArray := prog_1_method_1_code
def yX12_init : MethodName := ⟨RX12, "<init>", "()V"⟩
abbrev cX12_feed : ByteArray := prog_1_method_2_code
def yX12_feed : MethodName := ⟨RX12, "feed", "(IIIII)I"⟩
abbrev cX12_fourBytes : ByteArray := prog_1_method_3_code
def yX12_fourBytes : MethodName := ⟨RX12, "fourBytes", "(I)V"⟩
abbrev cX12_cut : ByteArray := prog_1_method_4_code
def yX12_cut : MethodName := ⟨RX12, "cut", "(I)I"⟩
abbrev cX12_splice : ByteArray := prog_1_method_5_code
def yX12_splice : MethodName := ⟨RX12, "splice", "(III)I"⟩
abbrev cX12_text : ByteArray := prog_1_method_6_code
def yX12_text : MethodName := ⟨RX12, "text", "(II)I"⟩
abbrev cX12_size : ByteArray := prog_1_method_7_code
def yX12_size : MethodName := ⟨RX12, "size", "()I"⟩
abbrev cX12_octet : ByteArray := prog_1_method_8_code
def yX12_octet : MethodName := ⟨RX12, "octet", "(I)I"⟩
abbrev cX12_isLibrary : ByteArray := prog_1_method_9_code
def yX12_isLibrary : MethodName := ⟨RX12, "isLibrary", "(I)Z"⟩
abbrev cX12_buildOf : ByteArray := prog_1_method_10_code
def yX12_buildOf : MethodName := ⟨RX12, "buildOf", "(II)LLinkHouse$Build;"⟩
abbrev cX12_unused : ByteArray := prog_1_method_11_code
def yX12_unused : MethodName := ⟨RX12, "unused", "()LLinkHouse$Build;"⟩
abbrev cX12_rowOf : ByteArray := prog_1_method_12_code
def yX12_rowOf : MethodName := ⟨RX12, "rowOf", "(III)LLinkHouse$Row;"⟩
abbrev cX12_allBuilt : ByteArray := prog_1_method_13_code
def yX12_allBuilt : MethodName := ⟨RX12, "allBuilt", "()I"⟩
abbrev cX12_isFull : ByteArray := prog_1_method_14_code
def yX12_isFull : MethodName := ⟨RX12, "isFull", "(I)Z"⟩
abbrev cX12_gather : ByteArray := prog_1_method_15_code
def yX12_gather : MethodName := ⟨RX12, "gather", "(LLinkHouse$World;[I)V"⟩
abbrev cX12_make : ByteArray := prog_1_method_16_code
def yX12_make : MethodName := ⟨RX12, "make", "(I)I"⟩
abbrev cX12_keep : ByteArray := prog_1_method_18_code
def yX12_keep : MethodName := ⟨RX12, "keep", "(LLinkHouse$Build;I)I"⟩
abbrev cX12_place : ByteArray := prog_1_method_19_code
def yX12_place : MethodName := ⟨RX12, "place", "()I"⟩
abbrev cX12_builds : ByteArray := prog_1_method_20_code
def yX12_builds : MethodName := ⟨RX12, "builds", "(I)I"⟩
abbrev cX12_pick : ByteArray := prog_1_method_21_code
def yX12_pick : MethodName := ⟨RX12, "pick", "(II)I"⟩
abbrev cX12_renewWorld : ByteArray := prog_1_method_22_code
def yX12_renewWorld : MethodName := ⟨RX12, "renewWorld", "()V"⟩
abbrev cX12_picked : ByteArray := prog_1_method_23_code
def yX12_picked : MethodName := ⟨RX12, "picked", "(I)I"⟩
abbrev cX12_classes : ByteArray := prog_1_method_24_code
def yX12_classes : MethodName := ⟨RX12, "classes", "(II)I"⟩
abbrev cX12_members : ByteArray := prog_1_method_25_code
def yX12_members : MethodName := ⟨RX12, "members", "(III)I"⟩
abbrev cX12_shape : ByteArray := prog_1_method_26_code
def yX12_shape : MethodName := ⟨RX12, "shape", "(IIII)I"⟩
abbrev cX12_tellByte : ByteArray := prog_1_method_30_code
def yX12_tellByte : MethodName := ⟨RX12, "tellByte", "(I)V"⟩
abbrev cX12_tellType : ByteArray := prog_1_method_33_code
def yX12_tellType : MethodName := ⟨RX12, "tellType", "(J)V"⟩
abbrev cX12_tellLetters : ByteArray := prog_1_method_35_code
def yX12_tellLetters : MethodName := ⟨RX12, "tellLetters", "(J)V"⟩
abbrev cX12_uses : ByteArray := prog_1_method_38_code
def yX12_uses : MethodName := ⟨RX12, "uses", "(II)I"⟩
abbrev cX12_hasUse : ByteArray := prog_1_method_39_code
def yX12_hasUse : MethodName := ⟨RX12, "hasUse", "(LLinkHouse$Build;I)Z"⟩
abbrev cX12_use : ByteArray := prog_1_method_40_code
def yX12_use : MethodName := ⟨RX12, "use", "(IIII)I"⟩
abbrev cX12_tell : ByteArray := prog_1_method_41_code
def yX12_tell : MethodName := ⟨RX12, "tell", "(III)I"⟩
abbrev cX12_meet : ByteArray := prog_1_method_43_code
def yX12_meet : MethodName := ⟨RX12, "meet", "(III)I"⟩
abbrev cX12_met : ByteArray := prog_1_method_44_code
def yX12_met : MethodName := ⟨RX12, "met", "()I"⟩
abbrev cX12_looked : ByteArray := prog_1_method_45_code
def yX12_looked : MethodName := ⟨RX12, "looked", "(I)I"⟩
abbrev cX12_broken : ByteArray := prog_1_method_46_code
def yX12_broken : MethodName := ⟨RX12, "broken", "()I"⟩
abbrev cX12_countBroken : ByteArray := prog_1_method_47_code
def yX12_countBroken : MethodName := ⟨RX12, "countBroken", "(LLinkHouse$World;[IZ)I"⟩
abbrev cX12_brokenAt : ByteArray := prog_1_method_49_code
def yX12_brokenAt : MethodName := ⟨RX12, "brokenAt", "(II)I"⟩
abbrev cX12_stale : ByteArray := prog_1_method_50_code
def yX12_stale : MethodName := ⟨RX12, "stale", "()I"⟩
abbrev cX12_choose : ByteArray := prog_1_method_51_code
def yX12_choose : MethodName := ⟨RX12, "choose", "()I"⟩
abbrev cX12_greatest : ByteArray := prog_1_method_52_code
def yX12_greatest : MethodName := ⟨RX12, "greatest", "(I)I"⟩
abbrev cX12_differ : ByteArray := prog_1_method_54_code
def yX12_differ : MethodName := ⟨RX12, "differ", "(III)I"⟩
abbrev cX12_change : ByteArray := prog_1_method_55_code
def yX12_change : MethodName := ⟨RX12, "change", "(II)I"⟩
abbrev cX12_word : ByteArray := prog_1_method_56_code
def yX12_word : MethodName := ⟨RX12, "word", "(III)I"⟩
abbrev cX12_weave : ByteArray := prog_1_method_57_code
def yX12_weave : MethodName := ⟨RX12, "weave", "(III)I"⟩
abbrev cX12_fresh : ByteArray := prog_1_method_59_code
def yX12_fresh : MethodName := ⟨RX12, "fresh", "()I"⟩
abbrev cX12_touch : ByteArray := prog_1_method_60_code
def yX12_touch : MethodName := ⟨RX12, "touch", "(III)I"⟩
abbrev cX12_run : ByteArray := prog_1_method_61_code
def yX12_run : MethodName := ⟨RX12, "run", "()I"⟩
abbrev cX12_value : ByteArray := prog_1_method_63_code
def yX12_value : MethodName := ⟨RX12, "value", "()I"⟩
abbrev cX12_told : ByteArray := prog_1_method_64_code
def yX12_told : MethodName := ⟨RX12, "told", "(I)I"⟩
abbrev cX12_number : ByteArray := prog_1_method_65_code
def yX12_number : MethodName := ⟨RX12, "number", "(I)I"⟩
abbrev cX12_event : ByteArray := prog_1_method_66_code
def yX12_event : MethodName := ⟨RX12, "event", "(I)I"⟩
abbrev cX12_name : ByteArray := prog_1_method_67_code
def yX12_name : MethodName := ⟨RX12, "name", "(I)I"⟩
abbrev cX12_state : ByteArray := prog_1_method_68_code
def yX12_state : MethodName := ⟨RX12, "state", "(I)I"⟩
abbrev cX12_classOf : ByteArray := prog_1_method_69_code
def yX12_classOf : MethodName := ⟨RX12, "classOf", "(I)I"⟩
abbrev cX12_fieldOf : ByteArray := prog_1_method_70_code
def yX12_fieldOf : MethodName := ⟨RX12, "fieldOf", "(II)I"⟩
def RX13 : String := "LinkHouseModel"
def TX13 : u_T := fun k => match k with
  | 0 => ("LinkHouseModel", "tape", "[I", true)
  | 1 => ("LinkHouseModel", "size", "I", false)
  | 2 => ("LinkHouseModel", "outRow", "[I", true)
  | 3 => ("LinkHouseModel", "outSize", "I", false)
  | 4 => ("LinkHouseModel", "spliceRow", "[I", true)
  | 5 => ("LinkHouseModel", "text", "[B", true)
  | 6 => ("LinkHouseModel", "textSize", "[I", true)
  | 7 => ("LinkHouseModel", "libOf", "[I", true)
  | 8 => ("LinkHouseModel", "slotOf", "[I", true)
  | 9 => ("LinkHouseModel", "buildMany", "[I", true)
  | 10 => ("LinkHouseModel", "slots", "I", false)
  | 11 => ("LinkHouseModel", "tKind", "[I", true)
  | 12 => ("LinkHouseModel", "tAt", "[I", true)
  | 13 => ("LinkHouseModel", "tEnd", "[I", true)
  | 14 => ("LinkHouseModel", "tName", "[J", true)
  | 15 => ("LinkHouseModel", "tValue", "[I", true)
  | 16 => ("LinkHouseModel", "tokens", "[I", true)
  | 17 => ("LinkHouseModel", "words", "[J", true)
  | 18 => ("LinkHouseModel", "wordMany", "I", false)
  | 19 => ("LinkHouseModel", "slot", "I", false)
  | 20 => ("LinkHouseModel", "flaw", "I", false)
  | 21 => ("LinkHouseModel", "flawAt", "I", false)
  | 22 => ("LinkHouseModel", "p", "I", false)
  | 23 => ("LinkHouseModel", "clsMany", "[I", true)
  | 24 => ("LinkHouseModel", "cName", "[J", true)
  | 25 => ("LinkHouseModel", "cAt", "[I", true)
  | 26 => ("LinkHouseModel", "cOpen", "[Z", true)
  | 27 => ("LinkHouseModel", "cSort", "[I", true)
  | 28 => ("LinkHouseModel", "cParent", "[J", true)
  | 29 => ("LinkHouseModel", "cParentAt", "[I", true)
  | 30 => ("LinkHouseModel", "cFace", "[J", true)
  | 31 => ("LinkHouseModel", "cFaceAt", "[I", true)
  | 32 => ("LinkHouseModel", "cFaces", "[I", true)
  | 33 => ("LinkHouseModel", "cIn", "[J", true)
  | 34 => ("LinkHouseModel", "cInAt", "[I", true)
  | 35 => ("LinkHouseModel", "cWith", "[J", true)
  | 36 => ("LinkHouseModel", "cWithAt", "[I", true)
  | 37 => ("LinkHouseModel", "cWiths", "[I", true)
  | 38 => ("LinkHouseModel", "cOnly", "[J", true)
  | 39 => ("LinkHouseModel", "cOnlyAt", "[I", true)
  | 40 => ("LinkHouseModel", "cOnlys", "[I", true)
  | 41 => ("LinkHouseModel", "mMany", "[I", true)
  | 42 => ("LinkHouseModel", "mKind", "[I", true)
  | 43 => ("LinkHouseModel", "mTold", "[I", true)
  | 44 => ("LinkHouseModel", "mAccess", "[I", true)
  | 45 => ("LinkHouseModel", "mStatic", "[Z", true)
  | 46 => ("LinkHouseModel", "mFinal", "[Z", true)
  | 47 => ("LinkHouseModel", "mBare", "[Z", true)
  | 48 => ("LinkHouseModel", "mBareTold", "[Z", true)
  | 49 => ("LinkHouseModel", "mBridge", "[Z", true)
  | 50 => ("LinkHouseModel", "mGiven", "[Z", true)
  | 51 => ("LinkHouseModel", "mName", "[J", true)
  | 52 => ("LinkHouseModel", "mAt", "[I", true)
  | 53 => ("LinkHouseModel", "mType", "[J", true)
  | 54 => ("LinkHouseModel", "mTypeAt", "[I", true)
  | 55 => ("LinkHouseModel", "mParams", "[I", true)
  | 56 => ("LinkHouseModel", "mParam", "[J", true)
  | 57 => ("LinkHouseModel", "mParamAt", "[I", true)
  | 58 => ("LinkHouseModel", "mParamName", "[J", true)
  | 59 => ("LinkHouseModel", "mParamNameAt", "[I", true)
  | 60 => ("LinkHouseModel", "mExpr", "[I", true)
  | 61 => ("LinkHouseModel", "mBlock", "[I", true)
  | 62 => ("LinkHouseModel", "mTokFrom", "[I", true)
  | 63 => ("LinkHouseModel", "mTokTo", "[I", true)
  | 64 => ("LinkHouseModel", "mConst", "[Z", true)
  | 65 => ("LinkHouseModel", "mValue", "[I", true)
  | 66 => ("LinkHouseModel", "mTarget", "[J", true)
  | 67 => ("LinkHouseModel", "mUse", "[I", true)
  | 68 => ("LinkHouseModel", "mLocals", "[I", true)
  | 69 => ("LinkHouseModel", "nodeMany", "[I", true)
  | 70 => ("LinkHouseModel", "nKind", "[I", true)
  | 71 => ("LinkHouseModel", "nAt", "[I", true)
  | 72 => ("LinkHouseModel", "nNameAt", "[I", true)
  | 73 => ("LinkHouseModel", "nCAt", "[I", true)
  | 74 => ("LinkHouseModel", "nName", "[J", true)
  | 75 => ("LinkHouseModel", "nC", "[J", true)
  | 76 => ("LinkHouseModel", "nT", "[J", true)
  | 77 => ("LinkHouseModel", "nA", "[I", true)
  | 78 => ("LinkHouseModel", "nB", "[I", true)
  | 79 => ("LinkHouseModel", "nD", "[I", true)
  | 80 => ("LinkHouseModel", "nNext", "[I", true)
  | 81 => ("LinkHouseModel", "nValue", "[I", true)
  | 82 => ("LinkHouseModel", "nMean", "[I", true)
  | 83 => ("LinkHouseModel", "nX", "[J", true)
  | 84 => ("LinkHouseModel", "nRes", "[J", true)
  | 85 => ("LinkHouseModel", "nParams", "[I", true)
  | 86 => ("LinkHouseModel", "nParam", "[J", true)
  | 87 => ("LinkHouseModel", "nUse", "[I", true)
  | 88 => ("LinkHouseModel", "nUse2", "[I", true)
  | 89 => ("LinkHouseModel", "depth", "I", false)
  | 90 => ("LinkHouseModel", "world", "[I", true)
  | 91 => ("LinkHouseModel", "judged", "I", false)
  | 92 => ("LinkHouseModel", "linking", "Z", false)
  | 93 => ("LinkHouseModel", "added", "[I", true)
  | 94 => ("LinkHouseModel", "opened", "[I", true)
  | 95 => ("LinkHouseModel", "stamp", "I", false)
  | 96 => ("LinkHouseModel", "pile", "[I", true)
  | 97 => ("LinkHouseModel", "lookedRow", "[I", true)
  | 98 => ("LinkHouseModel", "lookedMany", "I", false)
  | 99 => ("LinkHouseModel", "special", "[I", true)
  | 100 => ("LinkHouseModel", "specialFaces", "[I", true)
  | 101 => ("LinkHouseModel", "specialMany", "I", false)
  | 102 => ("LinkHouseModel", "unbare", "I", false)
  | 103 => ("LinkHouseModel", "above", "[I", true)
  | 104 => ("LinkHouseModel", "aboveMany", "I", false)
  | 105 => ("LinkHouseModel", "aboveFaces", "[I", true)
  | 106 => ("LinkHouseModel", "wholeFaces", "[I", true)
  | 107 => ("LinkHouseModel", "path", "[I", true)
  | 108 => ("LinkHouseModel", "pathTop", "I", false)
  | 109 => ("LinkHouseModel", "atClass", "I", false)
  | 110 => ("LinkHouseModel", "atMember", "I", false)
  | 111 => ("LinkHouseModel", "inStatic", "Z", false)
  | 112 => ("LinkHouseModel", "localName", "[J", true)
  | 113 => ("LinkHouseModel", "localType", "[J", true)
  | 114 => ("LinkHouseModel", "locals", "I", false)
  | 115 => ("LinkHouseModel", "candidates", "[I", true)
  | 116 => ("LinkHouseModel", "candidateMany", "I", false)
  | 117 => ("LinkHouseModel", "candidateFaces", "[I", true)
  | 118 => ("LinkHouseModel", "uMany", "[I", true)
  | 119 => ("LinkHouseModel", "uSort", "[I", true)
  | 120 => ("LinkHouseModel", "uClass", "[I", true)
  | 121 => ("LinkHouseModel", "uC", "[J", true)
  | 122 => ("LinkHouseModel", "uName", "[J", true)
  | 123 => ("LinkHouseModel", "uType", "[J", true)
  | 124 => ("LinkHouseModel", "uParams", "[I", true)
  | 125 => ("LinkHouseModel", "uParam", "[J", true)
  | 126 => ("LinkHouseModel", "uSecond", "[J", true)
  | 127 => ("LinkHouseModel", "uValue", "[I", true)
  | 128 => ("LinkHouseModel", "placed", "I", false)
  | 129 => ("LinkHouseModel", "worldMany", "I", false)
  | 130 => ("LinkHouseModel", "worldClass", "[I", true)
  | 131 => ("LinkHouseModel", "worldNumber", "[I", true)
  | 132 => ("LinkHouseModel", "state", "[I", true)
  | 133 => ("LinkHouseModel", "failure", "[I", true)
  | 134 => ("LinkHouseModel", "set", "I", false)
  | 135 => ("LinkHouseModel", "events", "[I", true)
  | 136 => ("LinkHouseModel", "eventMany", "I", false)
  | 137 => ("LinkHouseModel", "metMember", "I", false)
  | 138 => ("LinkHouseModel", "seenRow", "[I", true)
  | 139 => ("LinkHouseModel", "seenMany", "I", false)
  | 140 => ("LinkHouseModel", "metNow", "I", false)
  | 141 => ("LinkHouseModel", "seenNow", "[I", true)
  | 142 => ("LinkHouseModel", "seenNowMany", "I", false)
  | 143 => ("LinkHouseModel", "askedFaces", "[I", true)
  | 144 => ("LinkHouseModel", "brokenRow", "[I", true)
  | 145 => ("LinkHouseModel", "brokenMany", "I", false)
  | 146 => ("LinkHouseModel", "chosen", "[I", true)
  | 147 => ("LinkHouseModel", "stood", "[I", true)
  | 148 => ("LinkHouseModel", "statics", "[I", true)
  | 149 => ("LinkHouseModel", "objectClass", "[I", true)
  | 150 => ("LinkHouseModel", "objectFrom", "[I", true)
  | 151 => ("LinkHouseModel", "objects", "I", false)
  | 152 => ("LinkHouseModel", "fields", "[I", true)
  | 153 => ("LinkHouseModel", "fieldMany", "I", false)
  | 154 => ("LinkHouseModel", "cells", "[I", true)
  | 155 => ("LinkHouseModel", "cellTop", "I", false)
  | 156 => ("LinkHouseModel", "taskNode", "[I", true)
  | 157 => ("LinkHouseModel", "taskState", "[I", true)
  | 158 => ("LinkHouseModel", "taskValue", "[I", true)
  | 159 => ("LinkHouseModel", "taskTo", "[I", true)
  | 160 => ("LinkHouseModel", "taskArg", "[I", true)
  | 161 => ("LinkHouseModel", "taskTop", "I", false)
  | 162 => ("LinkHouseModel", "level", "I", false)
  | 163 => ("LinkHouseModel", "steps", "I", false)
  | 164 => ("LinkHouseModel", "stop", "I", false)
  | 165 => ("LinkHouseModel", "failed", "I", false)
  | 166 => ("LinkHouseModel", "given", "I", false)
  | 167 => ("LinkHouseModel", "runValue", "I", false)
  | 168 => ("LinkHouseModel", "outs", "[I", true)
  | 169 => ("LinkHouseModel", "toldMany", "I", false)
  | 170 => ("LinkHouseModel", "faceSeen", "[I", true)
  | 171 => ("LinkHouseModel", "faceStamp", "I", false)
  | 172 => ("LinkHouseModel", "facePile", "[I", true)
  | 173 => ("LinkHouseModel", "faceTop", "I", false)
  | 174 => ("LinkHouseModel", "changes", "[I", true)
  | 175 => ("LinkHouseModel", "changeMany", "I", false)
  | 176 => ("LinkHouseModel", "restA", "[I", true)
  | 177 => ("LinkHouseModel", "restB", "[I", true)
  | 178 => ("LinkHouseModel", "keptChanges", "[I", true)
  | _ => ("LinkHouseModel", "useMap", "[I", true)
def tyX13 : Nat → FieldType := fun k => match k with
  | 0 => .array .int
  | 1 => .int
  | 2 => .array .int
  | 3 => .int
  | 4 => .array .int
  | 5 => .array .byte
  | 6 => .array .int
  | 7 => .array .int
  | 8 => .array .int
  | 9 => .array .int
  | 10 => .int
  | 11 => .array .int
  | 12 => .array .int
  | 13 => .array .int
  | 14 => .array .long
  | 15 => .array .int
  | 16 => .array .int
  | 17 => .array .long
  | 18 => .int
  | 19 => .int
  | 20 => .int
  | 21 => .int
  | 22 => .int
  | 23 => .array .int
  | 24 => .array .long
  | 25 => .array .int
  | 26 => .array .boolean
  | 27 => .array .int
  | 28 => .array .long
  | 29 => .array .int
  | 30 => .array .long
  | 31 => .array .int
  | 32 => .array .int
  | 33 => .array .long
  | 34 => .array .int
  | 35 => .array .long
  | 36 => .array .int
  | 37 => .array .int
  | 38 => .array .long
  | 39 => .array .int
  | 40 => .array .int
  | 41 => .array .int
  | 42 => .array .int
  | 43 => .array .int
  | 44 => .array .int
  | 45 => .array .boolean
  | 46 => .array .boolean
  | 47 => .array .boolean
  | 48 => .array .boolean
  | 49 => .array .boolean
  | 50 => .array .boolean
  | 51 => .array .long
  | 52 => .array .int
  | 53 => .array .long
  | 54 => .array .int
  | 55 => .array .int
  | 56 => .array .long
  | 57 => .array .int
  | 58 => .array .long
  | 59 => .array .int
  | 60 => .array .int
  | 61 => .array .int
  | 62 => .array .int
  | 63 => .array .int
  | 64 => .array .boolean
  | 65 => .array .int
  | 66 => .array .long
  | 67 => .array .int
  | 68 => .array .int
  | 69 => .array .int
  | 70 => .array .int
  | 71 => .array .int
  | 72 => .array .int
  | 73 => .array .int
  | 74 => .array .long
  | 75 => .array .long
  | 76 => .array .long
  | 77 => .array .int
  | 78 => .array .int
  | 79 => .array .int
  | 80 => .array .int
  | 81 => .array .int
  | 82 => .array .int
  | 83 => .array .long
  | 84 => .array .long
  | 85 => .array .int
  | 86 => .array .long
  | 87 => .array .int
  | 88 => .array .int
  | 89 => .int
  | 90 => .array .int
  | 91 => .int
  | 92 => .boolean
  | 93 => .array .int
  | 94 => .array .int
  | 95 => .int
  | 96 => .array .int
  | 97 => .array .int
  | 98 => .int
  | 99 => .array .int
  | 100 => .array .int
  | 101 => .int
  | 102 => .int
  | 103 => .array .int
  | 104 => .int
  | 105 => .array .int
  | 106 => .array .int
  | 107 => .array .int
  | 108 => .int
  | 109 => .int
  | 110 => .int
  | 111 => .boolean
  | 112 => .array .long
  | 113 => .array .long
  | 114 => .int
  | 115 => .array .int
  | 116 => .int
  | 117 => .array .int
  | 118 => .array .int
  | 119 => .array .int
  | 120 => .array .int
  | 121 => .array .long
  | 122 => .array .long
  | 123 => .array .long
  | 124 => .array .int
  | 125 => .array .long
  | 126 => .array .long
  | 127 => .array .int
  | 128 => .int
  | 129 => .int
  | 130 => .array .int
  | 131 => .array .int
  | 132 => .array .int
  | 133 => .array .int
  | 134 => .int
  | 135 => .array .int
  | 136 => .int
  | 137 => .int
  | 138 => .array .int
  | 139 => .int
  | 140 => .int
  | 141 => .array .int
  | 142 => .int
  | 143 => .array .int
  | 144 => .array .int
  | 145 => .int
  | 146 => .array .int
  | 147 => .array .int
  | 148 => .array .int
  | 149 => .array .int
  | 150 => .array .int
  | 151 => .int
  | 152 => .array .int
  | 153 => .int
  | 154 => .array .int
  | 155 => .int
  | 156 => .array .int
  | 157 => .array .int
  | 158 => .array .int
  | 159 => .array .int
  | 160 => .array .int
  | 161 => .int
  | 162 => .int
  | 163 => .int
  | 164 => .int
  | 165 => .int
  | 166 => .int
  | 167 => .int
  | 168 => .array .int
  | 169 => .int
  | 170 => .array .int
  | 171 => .int
  | 172 => .array .int
  | 173 => .int
  | 174 => .array .int
  | 175 => .int
  | 176 => .array .int
  | 177 => .array .int
  | 178 => .array .int
  | _ => .array .int
theorem nmX13 : ∀ a, a < 180 → ∀ b, b < 180 → a ≠ b → (TX13 a).2.1 ≠ (TX13 b).2.1 := by decide +kernel
theorem tyX13_ok : ∀ k, k < 180 → parseFieldDescriptor (TX13 k).2.2.1 = some (tyX13 k) := by decide +kernel
abbrev cX13_sym : ByteArray := prog_15_method_1_code
def yX13_sym : MethodName := ⟨RX13, "sym", "(I)I"⟩
abbrev cX13_letter : ByteArray := prog_15_method_2_code
def yX13_letter : MethodName := ⟨RX13, "letter", "(I)I"⟩
abbrev cX13_isC : ByteArray := prog_15_method_3_code
def yX13_isC : MethodName := ⟨RX13, "isC", "(J)Z"⟩
abbrev cX13_outByte : ByteArray := prog_15_method_5_code
def yX13_outByte : MethodName := ⟨RX13, "outByte", "(I)V"⟩
abbrev cX13_outName : ByteArray := prog_15_method_7_code
def yX13_outName : MethodName := ⟨RX13, "outName", "(J)V"⟩
abbrev cX13_feed : ByteArray := prog_15_method_10_code
def yX13_feed : MethodName := ⟨RX13, "feed", "(IIIII)I"⟩
abbrev cX13_four : ByteArray := prog_15_method_11_code
def yX13_four : MethodName := ⟨RX13, "four", "(I)V"⟩
abbrev cX13_cut : ByteArray := prog_15_method_12_code
def yX13_cut : MethodName := ⟨RX13, "cut", "(I)I"⟩
abbrev cX13_splice : ByteArray := prog_15_method_13_code
def yX13_splice : MethodName := ⟨RX13, "splice", "(III)I"⟩
abbrev cX13_size : ByteArray := prog_15_method_14_code
def yX13_size : MethodName := ⟨RX13, "size", "()I"⟩
abbrev cX13_octet : ByteArray := prog_15_method_15_code
def yX13_octet : MethodName := ⟨RX13, "octet", "(I)I"⟩
abbrev cX13_wordTable : ByteArray := prog_15_method_16_code
def yX13_wordTable : MethodName := ⟨RX13, "wordTable", "()V"⟩
abbrev cX13_nameOf : ByteArray := prog_15_method_17_code
def yX13_nameOf : MethodName := ⟨RX13, "nameOf", "(Ljava/lang/String;)J"⟩
abbrev cX13_tokenize : ByteArray := prog_15_method_22_code
def yX13_tokenize : MethodName := ⟨RX13, "tokenize", "()V"⟩
abbrev cX13_kindAt : ByteArray := prog_15_method_26_code
def yX13_kindAt : MethodName := ⟨RX13, "kindAt", "(I)I"⟩
abbrev cX13_parse : ByteArray := prog_15_method_39_code
def yX13_parse : MethodName := ⟨RX13, "parse", "()V"⟩
abbrev cX13_newMember : ByteArray := prog_15_method_43_code
def yX13_newMember : MethodName := ⟨RX13, "newMember", "(I)V"⟩
abbrev cX13_given : ByteArray := prog_15_method_65_code
def yX13_given : MethodName := ⟨RX13, "given", "()V"⟩
abbrev cX13_heads : ByteArray := prog_15_method_93_code
def yX13_heads : MethodName := ⟨RX13, "heads", "()V"⟩
abbrev cX13_membersOf : ByteArray := prog_15_method_96_code
def yX13_membersOf : MethodName := ⟨RX13, "membersOf", "()V"⟩
abbrev cX13_againstAbove : ByteArray := prog_15_method_102_code
def yX13_againstAbove : MethodName := ⟨RX13, "againstAbove", "()V"⟩
abbrev cX13_makersAndBridges : ByteArray := prog_15_method_104_code
def yX13_makersAndBridges : MethodName := ⟨RX13, "makersAndBridges", "()V"⟩
abbrev cX13_lacking : ByteArray := prog_15_method_108_code
def yX13_lacking : MethodName := ⟨RX13, "lacking", "()V"⟩
abbrev cX13_constants : ByteArray := prog_15_method_112_code
def yX13_constants : MethodName := ⟨RX13, "constants", "()V"⟩
abbrev cX13_bodies : ByteArray := prog_15_method_115_code
def yX13_bodies : MethodName := ⟨RX13, "bodies", "()V"⟩
abbrev cX13_usesOfAll : ByteArray := prog_15_method_150_code
def yX13_usesOfAll : MethodName := ⟨RX13, "usesOfAll", "()V"⟩
abbrev cX13_make : ByteArray := prog_15_method_161_code
def yX13_make : MethodName := ⟨RX13, "make", "(I)I"⟩
abbrev cX13_judgeAll : ByteArray := prog_15_method_162_code
def yX13_judgeAll : MethodName := ⟨RX13, "judgeAll", "()V"⟩
abbrev cX13_isLib : ByteArray := prog_15_method_163_code
def yX13_isLib : MethodName := ⟨RX13, "isLib", "(I)Z"⟩
abbrev cX13_slotAt : ByteArray := prog_15_method_164_code
def yX13_slotAt : MethodName := ⟨RX13, "slotAt", "(II)I"⟩
abbrev cX13_place : ByteArray := prog_15_method_165_code
def yX13_place : MethodName := ⟨RX13, "place", "()I"⟩
abbrev cX13_builds : ByteArray := prog_15_method_166_code
def yX13_builds : MethodName := ⟨RX13, "builds", "(I)I"⟩
abbrev cX13_text : ByteArray := prog_15_method_167_code
def yX13_text : MethodName := ⟨RX13, "text", "(II)I"⟩
abbrev cX13_pick : ByteArray := prog_15_method_168_code
def yX13_pick : MethodName := ⟨RX13, "pick", "(II)I"⟩
abbrev cX13_picked : ByteArray := prog_15_method_169_code
def yX13_picked : MethodName := ⟨RX13, "picked", "(I)I"⟩
abbrev cX13_classes : ByteArray := prog_15_method_171_code
def yX13_classes : MethodName := ⟨RX13, "classes", "(II)I"⟩
abbrev cX13_classAt : ByteArray := prog_15_method_172_code
def yX13_classAt : MethodName := ⟨RX13, "classAt", "(III)I"⟩
abbrev cX13_members : ByteArray := prog_15_method_175_code
def yX13_members : MethodName := ⟨RX13, "members", "(III)I"⟩
abbrev cX13_shape : ByteArray := prog_15_method_178_code
def yX13_shape : MethodName := ⟨RX13, "shape", "(IIII)I"⟩
abbrev cX13_uses : ByteArray := prog_15_method_179_code
def yX13_uses : MethodName := ⟨RX13, "uses", "(II)I"⟩
abbrev cX13_useAt : ByteArray := prog_15_method_180_code
def yX13_useAt : MethodName := ⟨RX13, "useAt", "(III)I"⟩
abbrev cX13_use : ByteArray := prog_15_method_181_code
def yX13_use : MethodName := ⟨RX13, "use", "(IIII)I"⟩
abbrev cX13_tell : ByteArray := prog_15_method_182_code
def yX13_tell : MethodName := ⟨RX13, "tell", "(III)I"⟩
abbrev cX13_numberWorld : ByteArray := prog_15_method_184_code
def yX13_numberWorld : MethodName := ⟨RX13, "numberWorld", "()V"⟩
abbrev cX13_intoWorld : ByteArray := prog_15_method_185_code
def yX13_intoWorld : MethodName := ⟨RX13, "intoWorld", "(I)V"⟩
abbrev cX13_clearSet : ByteArray := prog_15_method_188_code
def yX13_clearSet : MethodName := ⟨RX13, "clearSet", "(I)V"⟩
abbrev cX13_meet : ByteArray := prog_15_method_209_code
def yX13_meet : MethodName := ⟨RX13, "meet", "(III)I"⟩
abbrev cX13_met : ByteArray := prog_15_method_210_code
def yX13_met : MethodName := ⟨RX13, "met", "()I"⟩
abbrev cX13_looked : ByteArray := prog_15_method_211_code
def yX13_looked : MethodName := ⟨RX13, "looked", "(I)I"⟩
abbrev cX13_broken : ByteArray := prog_15_method_212_code
def yX13_broken : MethodName := ⟨RX13, "broken", "()I"⟩
abbrev cX13_isBroken : ByteArray := prog_15_method_213_code
def yX13_isBroken : MethodName := ⟨RX13, "isBroken", "()Z"⟩
abbrev cX13_brokenAt : ByteArray := prog_15_method_214_code
def yX13_brokenAt : MethodName := ⟨RX13, "brokenAt", "(II)I"⟩
abbrev cX13_stale : ByteArray := prog_15_method_215_code
def yX13_stale : MethodName := ⟨RX13, "stale", "()I"⟩
abbrev cX13_choose : ByteArray := prog_15_method_216_code
def yX13_choose : MethodName := ⟨RX13, "choose", "()I"⟩
abbrev cX13_settle : ByteArray := prog_15_method_217_code
def yX13_settle : MethodName := ⟨RX13, "settle", "()V"⟩
abbrev cX13_fresh : ByteArray := prog_15_method_218_code
def yX13_fresh : MethodName := ⟨RX13, "fresh", "()I"⟩
abbrev cX13_touch : ByteArray := prog_15_method_219_code
def yX13_touch : MethodName := ⟨RX13, "touch", "(III)I"⟩
abbrev cX13_named : ByteArray := prog_15_method_252_code
def yX13_named : MethodName := ⟨RX13, "named", "()I"⟩
abbrev cX13_run : ByteArray := prog_15_method_253_code
def yX13_run : MethodName := ⟨RX13, "run", "()I"⟩
abbrev cX13_value : ByteArray := prog_15_method_254_code
def yX13_value : MethodName := ⟨RX13, "value", "()I"⟩
abbrev cX13_told : ByteArray := prog_15_method_255_code
def yX13_told : MethodName := ⟨RX13, "told", "(I)I"⟩
abbrev cX13_number : ByteArray := prog_15_method_256_code
def yX13_number : MethodName := ⟨RX13, "number", "(I)I"⟩
abbrev cX13_event_ : ByteArray := prog_15_method_257_code
def yX13_event_ : MethodName := ⟨RX13, "event", "(I)I"⟩
abbrev cX13_name : ByteArray := prog_15_method_258_code
def yX13_name : MethodName := ⟨RX13, "name", "(I)I"⟩
abbrev cX13_state : ByteArray := prog_15_method_259_code
def yX13_state : MethodName := ⟨RX13, "state", "(I)I"⟩
abbrev cX13_classOf : ByteArray := prog_15_method_260_code
def yX13_classOf : MethodName := ⟨RX13, "classOf", "(I)I"⟩
abbrev cX13_fieldOf : ByteArray := prog_15_method_261_code
def yX13_fieldOf : MethodName := ⟨RX13, "fieldOf", "(II)I"⟩
abbrev cX13_differ : ByteArray := prog_15_method_264_code
def yX13_differ : MethodName := ⟨RX13, "differ", "(III)I"⟩
abbrev cX13_change : ByteArray := prog_15_method_279_code
def yX13_change : MethodName := ⟨RX13, "change", "(II)I"⟩
abbrev cX13_word : ByteArray := prog_15_method_281_code
def yX13_word : MethodName := ⟨RX13, "word", "(III)I"⟩
abbrev cX13_weave : ByteArray := prog_15_method_282_code
def yX13_weave : MethodName := ⟨RX13, "weave", "(III)I"⟩
abbrev cX13_init : ByteArray := prog_15_method_291_code
def yX13_init : MethodName := ⟨RX13, "<init>", "()V"⟩
def RJ9 : String := "java/lang/Math"
abbrev cJ9_max_7cf53 : ByteArray := prog_16_method_65_code
def yJ9_max_7cf53 : MethodName := ⟨RJ9, "max", "(II)I"⟩
abbrev cJ9_min_7cf53 : ByteArray := prog_16_method_69_code
def yJ9_min_7cf53 : MethodName := ⟨RJ9, "min", "(II)I"⟩
def RJ0 : String := "java/lang/String"
abbrev cJ0_length_8abf5 : ByteArray := prog_17_method_54_code
def yJ0_length_8abf5 : MethodName := ⟨RJ0, "length", "()I"⟩
abbrev cJ0_charAt_5068e : ByteArray := prog_17_method_56_code
def yJ0_charAt_5068e : MethodName := ⟨RJ0, "charAt", "(I)C"⟩
abbrev cJ0_coder_7d493 : ByteArray := prog_17_method_152_code
def yJ0_coder_7d493 : MethodName := ⟨RJ0, "coder", "()B"⟩
abbrev cJ0_isLatin1_aae02 : ByteArray := prog_17_method_154_code
def yJ0_isLatin1_aae02 : MethodName := ⟨RJ0, "isLatin1", "()Z"⟩
abbrev cJ0_checkIndex_df160 : ByteArray := prog_17_method_155_code
def yJ0_checkIndex_df160 : MethodName := ⟨RJ0, "checkIndex", "(II)V"⟩
def RJ1 : String := "java/lang/StringLatin1"
abbrev cJ1_charAt_3b067 : ByteArray := prog_18_method_2_code
def yJ1_charAt_3b067 : MethodName := ⟨RJ1, "charAt", "([BI)C"⟩
def RJ2 : String := "java/lang/StringUTF16"
def RJ10 : String := "java/lang/System"
def RJ7 : String := "java/util/Arrays"
abbrev cJ7_fill_d0a16 : ByteArray := prog_21_method_101_code
def yJ7_fill_d0a16 : MethodName := ⟨RJ7, "fill", "([JJ)V"⟩
abbrev cJ7_fill_53178 : ByteArray := prog_21_method_103_code
def yJ7_fill_53178 : MethodName := ⟨RJ7, "fill", "([II)V"⟩
def RJ3 : String := "jdk/internal/util/Preconditions"
abbrev cJ3_checkIndex_8e157 : ByteArray := prog_22_method_11_code
def yJ3_checkIndex_8e157 : MethodName := ⟨RJ3, "checkIndex", "(IILjava/util/function/BiFunction;)I"⟩
def R_law : String := "LinkHouseLaw"
abbrev cL_law : ByteArray := code
end
section
theorem zT1 {w : Cond} (h : w ∈ tables_1_1) : w ∈ lw_tbl := List.mem_append_right _ (show w ∈ tables_1 from List.mem_append_left _ h)
theorem zT2 {w : Cond} (h : w ∈ tables_1_2) : w ∈ lw_tbl := List.mem_append_right _ (show w ∈ tables_1 from List.mem_append_right _ (List.mem_append_left _ h))
theorem zT3 {w : Cond} (h : w ∈ tables_1_3) : w ∈ lw_tbl := List.mem_append_right _ (show w ∈ tables_1 from List.mem_append_right _ (List.mem_append_right _ (List.mem_append_left _ h)))
theorem zT4 {w : Cond} (h : w ∈ tables_1_4) : w ∈ lw_tbl := List.mem_append_right _ (show w ∈ tables_1 from List.mem_append_right _ (List.mem_append_right _ (List.mem_append_right _ (List.mem_append_left _ h))))
theorem zT5 {w : Cond} (h : w ∈ tables_1_5) : w ∈ lw_tbl := List.mem_append_right _ (show w ∈ tables_1 from List.mem_append_right _ (List.mem_append_right _ (List.mem_append_right _ (List.mem_append_right _ (List.mem_append_left _ h)))))
theorem zT6 {w : Cond} (h : w ∈ tables_1_6) : w ∈ lw_tbl := List.mem_append_right _ (show w ∈ tables_1 from List.mem_append_right _ (List.mem_append_right _ (List.mem_append_right _ (List.mem_append_right _ (List.mem_append_right _ (List.mem_append_left _ h))))))
theorem zT7 {w : Cond} (h : w ∈ tables_1_7) : w ∈ lw_tbl := List.mem_append_right _ (show w ∈ tables_1 from List.mem_append_right _ (List.mem_append_right _ (List.mem_append_right _ (List.mem_append_right _ (List.mem_append_right _ (List.mem_append_right _ (List.mem_append_left _ h)))))))
theorem zT8 {w : Cond} (h : w ∈ tables_1_8) : w ∈ lw_tbl := List.mem_append_right _ (show w ∈ tables_1 from List.mem_append_right _ (List.mem_append_right _ (List.mem_append_right _ (List.mem_append_right _ (List.mem_append_right _ (List.mem_append_right _ (List.mem_append_right _ (List.mem_append_left _ h))))))))
theorem zT9 {w : Cond} (h : w ∈ tables_1_9) : w ∈ lw_tbl := List.mem_append_right _ (show w ∈ tables_1 from List.mem_append_right _ (List.mem_append_right _ (List.mem_append_right _ (List.mem_append_right _ (List.mem_append_right _ (List.mem_append_right _ (List.mem_append_right _ (List.mem_append_right _ (List.mem_append_left _ h)))))))))
theorem zT10 {w : Cond} (h : w ∈ tables_1_10) : w ∈ lw_tbl := List.mem_append_right _ (show w ∈ tables_1 from List.mem_append_right _ (List.mem_append_right _ (List.mem_append_right _ (List.mem_append_right _ (List.mem_append_right _ (List.mem_append_right _ (List.mem_append_right _ (List.mem_append_right _ (List.mem_append_right _ (List.mem_append_left _ h))))))))))
theorem zT11 {w : Cond} (h : w ∈ tables_1_11) : w ∈ lw_tbl := List.mem_append_right _ (show w ∈ tables_1 from List.mem_append_right _ (List.mem_append_right _ (List.mem_append_right _ (List.mem_append_right _ (List.mem_append_right _ (List.mem_append_right _ (List.mem_append_right _ (List.mem_append_right _ (List.mem_append_right _ (List.mem_append_right _ (List.mem_append_left _ h)))))))))))
theorem zT12 {w : Cond} (h : w ∈ tables_1_12) : w ∈ lw_tbl := List.mem_append_right _ (show w ∈ tables_1 from List.mem_append_right _ (List.mem_append_right _ (List.mem_append_right _ (List.mem_append_right _ (List.mem_append_right _ (List.mem_append_right _ (List.mem_append_right _ (List.mem_append_right _ (List.mem_append_right _ (List.mem_append_right _ (List.mem_append_right _ (List.mem_append_left _ h))))))))))))
theorem zT13 {w : Cond} (h : w ∈ tables_1_13) : w ∈ lw_tbl := List.mem_append_right _ (show w ∈ tables_1 from List.mem_append_right _ (List.mem_append_right _ (List.mem_append_right _ (List.mem_append_right _ (List.mem_append_right _ (List.mem_append_right _ (List.mem_append_right _ (List.mem_append_right _ (List.mem_append_right _ (List.mem_append_right _ (List.mem_append_right _ (List.mem_append_right _ (List.mem_append_left _ h)))))))))))))
theorem zT14 {w : Cond} (h : w ∈ tables_1_14) : w ∈ lw_tbl := List.mem_append_right _ (show w ∈ tables_1 from List.mem_append_right _ (List.mem_append_right _ (List.mem_append_right _ (List.mem_append_right _ (List.mem_append_right _ (List.mem_append_right _ (List.mem_append_right _ (List.mem_append_right _ (List.mem_append_right _ (List.mem_append_right _ (List.mem_append_right _ (List.mem_append_right _ (List.mem_append_right _ (List.mem_append_left _ h))))))))))))))
theorem zT15 {w : Cond} (h : w ∈ tables_1_15) : w ∈ lw_tbl := List.mem_append_right _ (show w ∈ tables_1 from List.mem_append_right _ (List.mem_append_right _ (List.mem_append_right _ (List.mem_append_right _ (List.mem_append_right _ (List.mem_append_right _ (List.mem_append_right _ (List.mem_append_right _ (List.mem_append_right _ (List.mem_append_right _ (List.mem_append_right _ (List.mem_append_right _ (List.mem_append_right _ (List.mem_append_right _ (List.mem_append_left _ h)))))))))))))))
theorem zT16 {w : Cond} (h : w ∈ tables_1_16) : w ∈ lw_tbl := List.mem_append_right _ (show w ∈ tables_1 from List.mem_append_right _ (List.mem_append_right _ (List.mem_append_right _ (List.mem_append_right _ (List.mem_append_right _ (List.mem_append_right _ (List.mem_append_right _ (List.mem_append_right _ (List.mem_append_right _ (List.mem_append_right _ (List.mem_append_right _ (List.mem_append_right _ (List.mem_append_right _ (List.mem_append_right _ (List.mem_append_right _ (List.mem_append_left _ h))))))))))))))))
theorem zT17 {w : Cond} (h : w ∈ tables_1_17) : w ∈ lw_tbl := List.mem_append_right _ (show w ∈ tables_1 from List.mem_append_right _ (List.mem_append_right _ (List.mem_append_right _ (List.mem_append_right _ (List.mem_append_right _ (List.mem_append_right _ (List.mem_append_right _ (List.mem_append_right _ (List.mem_append_right _ (List.mem_append_right _ (List.mem_append_right _ (List.mem_append_right _ (List.mem_append_right _ (List.mem_append_right _ (List.mem_append_right _ (List.mem_append_right _ (List.mem_append_left _ h)))))))))))))))))
theorem zT18 {w : Cond} (h : w ∈ tables_1_18) : w ∈ lw_tbl := List.mem_append_right _ (show w ∈ tables_1 from List.mem_append_right _ (List.mem_append_right _ (List.mem_append_right _ (List.mem_append_right _ (List.mem_append_right _ (List.mem_append_right _ (List.mem_append_right _ (List.mem_append_right _ (List.mem_append_right _ (List.mem_append_right _ (List.mem_append_right _ (List.mem_append_right _ (List.mem_append_right _ (List.mem_append_right _ (List.mem_append_right _ (List.mem_append_right _ (List.mem_append_right _ (h))))))))))))))))))
theorem zP1 {q : MethodName × Nat} (h : q ∈ lw_privs_1) : Cond.selects q.1.cls q.1 q.1 ∈ lw_tbl := List.mem_append_left _ (List.mem_map.mpr ⟨q, show q ∈ lw_privs from List.mem_append_left _ h, rfl⟩)
theorem zP2 {q : MethodName × Nat} (h : q ∈ lw_privs_2) : Cond.selects q.1.cls q.1 q.1 ∈ lw_tbl := List.mem_append_left _ (List.mem_map.mpr ⟨q, show q ∈ lw_privs from List.mem_append_right _ (List.mem_append_left _ h), rfl⟩)
theorem zP3 {q : MethodName × Nat} (h : q ∈ lw_privs_3) : Cond.selects q.1.cls q.1 q.1 ∈ lw_tbl := List.mem_append_left _ (List.mem_map.mpr ⟨q, show q ∈ lw_privs from List.mem_append_right _ (List.mem_append_right _ (List.mem_append_left _ h)), rfl⟩)
theorem zP4 {q : MethodName × Nat} (h : q ∈ lw_privs_4) : Cond.selects q.1.cls q.1 q.1 ∈ lw_tbl := List.mem_append_left _ (List.mem_map.mpr ⟨q, show q ∈ lw_privs from List.mem_append_right _ (List.mem_append_right _ (List.mem_append_right _ (List.mem_append_left _ h))), rfl⟩)
theorem zP5 {q : MethodName × Nat} (h : q ∈ lw_privs_5) : Cond.selects q.1.cls q.1 q.1 ∈ lw_tbl := List.mem_append_left _ (List.mem_map.mpr ⟨q, show q ∈ lw_privs from List.mem_append_right _ (List.mem_append_right _ (List.mem_append_right _ (List.mem_append_right _ (List.mem_append_left _ h)))), rfl⟩)
theorem zP6 {q : MethodName × Nat} (h : q ∈ lw_privs_6) : Cond.selects q.1.cls q.1 q.1 ∈ lw_tbl := List.mem_append_left _ (List.mem_map.mpr ⟨q, show q ∈ lw_privs from List.mem_append_right _ (List.mem_append_right _ (List.mem_append_right _ (List.mem_append_right _ (List.mem_append_right _ (List.mem_append_left _ h))))), rfl⟩)
theorem zP7 {q : MethodName × Nat} (h : q ∈ lw_privs_7) : Cond.selects q.1.cls q.1 q.1 ∈ lw_tbl := List.mem_append_left _ (List.mem_map.mpr ⟨q, show q ∈ lw_privs from List.mem_append_right _ (List.mem_append_right _ (List.mem_append_right _ (List.mem_append_right _ (List.mem_append_right _ (List.mem_append_right _ (List.mem_append_left _ h)))))), rfl⟩)
theorem zP8 {q : MethodName × Nat} (h : q ∈ lw_privs_8) : Cond.selects q.1.cls q.1 q.1 ∈ lw_tbl := List.mem_append_left _ (List.mem_map.mpr ⟨q, show q ∈ lw_privs from List.mem_append_right _ (List.mem_append_right _ (List.mem_append_right _ (List.mem_append_right _ (List.mem_append_right _ (List.mem_append_right _ (List.mem_append_right _ (List.mem_append_left _ h))))))), rfl⟩)
theorem zP9 {q : MethodName × Nat} (h : q ∈ lw_privs_9) : Cond.selects q.1.cls q.1 q.1 ∈ lw_tbl := List.mem_append_left _ (List.mem_map.mpr ⟨q, show q ∈ lw_privs from List.mem_append_right _ (List.mem_append_right _ (List.mem_append_right _ (List.mem_append_right _ (List.mem_append_right _ (List.mem_append_right _ (List.mem_append_right _ (List.mem_append_right _ (List.mem_append_left _ h)))))))), rfl⟩)
theorem zP10 {q : MethodName × Nat} (h : q ∈ lw_privs_10) : Cond.selects q.1.cls q.1 q.1 ∈ lw_tbl := List.mem_append_left _ (List.mem_map.mpr ⟨q, show q ∈ lw_privs from List.mem_append_right _ (List.mem_append_right _ (List.mem_append_right _ (List.mem_append_right _ (List.mem_append_right _ (List.mem_append_right _ (List.mem_append_right _ (List.mem_append_right _ (List.mem_append_right _ (List.mem_append_left _ h))))))))), rfl⟩)
theorem zP11 {q : MethodName × Nat} (h : q ∈ lw_privs_11) : Cond.selects q.1.cls q.1 q.1 ∈ lw_tbl := List.mem_append_left _ (List.mem_map.mpr ⟨q, show q ∈ lw_privs from List.mem_append_right _ (List.mem_append_right _ (List.mem_append_right _ (List.mem_append_right _ (List.mem_append_right _ (List.mem_append_right _ (List.mem_append_right _ (List.mem_append_right _ (List.mem_append_right _ (List.mem_append_right _ (List.mem_append_left _ h)))))))))), rfl⟩)
theorem zP12 {q : MethodName × Nat} (h : q ∈ lw_privs_12) : Cond.selects q.1.cls q.1 q.1 ∈ lw_tbl := List.mem_append_left _ (List.mem_map.mpr ⟨q, show q ∈ lw_privs from List.mem_append_right _ (List.mem_append_right _ (List.mem_append_right _ (List.mem_append_right _ (List.mem_append_right _ (List.mem_append_right _ (List.mem_append_right _ (List.mem_append_right _ (List.mem_append_right _ (List.mem_append_right _ (List.mem_append_right _ (List.mem_append_left _ h))))))))))), rfl⟩)
theorem zP13 {q : MethodName × Nat} (h : q ∈ lw_privs_13) : Cond.selects q.1.cls q.1 q.1 ∈ lw_tbl := List.mem_append_left _ (List.mem_map.mpr ⟨q, show q ∈ lw_privs from List.mem_append_right _ (List.mem_append_right _ (List.mem_append_right _ (List.mem_append_right _ (List.mem_append_right _ (List.mem_append_right _ (List.mem_append_right _ (List.mem_append_right _ (List.mem_append_right _ (List.mem_append_right _ (List.mem_append_right _ (List.mem_append_right _ (List.mem_append_left _ h)))))))))))), rfl⟩)
theorem zP14 {q : MethodName × Nat} (h : q ∈ lw_privs_14) : Cond.selects q.1.cls q.1 q.1 ∈ lw_tbl := List.mem_append_left _ (List.mem_map.mpr ⟨q, show q ∈ lw_privs from List.mem_append_right _ (List.mem_append_right _ (List.mem_append_right _ (List.mem_append_right _ (List.mem_append_right _ (List.mem_append_right _ (List.mem_append_right _ (List.mem_append_right _ (List.mem_append_right _ (List.mem_append_right _ (List.mem_append_right _ (List.mem_append_right _ (List.mem_append_right _ (List.mem_append_left _ h))))))))))))), rfl⟩)
theorem zP15 {q : MethodName × Nat} (h : q ∈ lw_privs_15) : Cond.selects q.1.cls q.1 q.1 ∈ lw_tbl := List.mem_append_left _ (List.mem_map.mpr ⟨q, show q ∈ lw_privs from List.mem_append_right _ (List.mem_append_right _ (List.mem_append_right _ (List.mem_append_right _ (List.mem_append_right _ (List.mem_append_right _ (List.mem_append_right _ (List.mem_append_right _ (List.mem_append_right _ (List.mem_append_right _ (List.mem_append_right _ (List.mem_append_right _ (List.mem_append_right _ (List.mem_append_right _ (List.mem_append_left _ h)))))))))))))), rfl⟩)
theorem zP16 {q : MethodName × Nat} (h : q ∈ lw_privs_16) : Cond.selects q.1.cls q.1 q.1 ∈ lw_tbl := List.mem_append_left _ (List.mem_map.mpr ⟨q, show q ∈ lw_privs from List.mem_append_right _ (List.mem_append_right _ (List.mem_append_right _ (List.mem_append_right _ (List.mem_append_right _ (List.mem_append_right _ (List.mem_append_right _ (List.mem_append_right _ (List.mem_append_right _ (List.mem_append_right _ (List.mem_append_right _ (List.mem_append_right _ (List.mem_append_right _ (List.mem_append_right _ (List.mem_append_right _ (List.mem_append_left _ h))))))))))))))), rfl⟩)
theorem zP17 {q : MethodName × Nat} (h : q ∈ lw_privs_17) : Cond.selects q.1.cls q.1 q.1 ∈ lw_tbl := List.mem_append_left _ (List.mem_map.mpr ⟨q, show q ∈ lw_privs from List.mem_append_right _ (List.mem_append_right _ (List.mem_append_right _ (List.mem_append_right _ (List.mem_append_right _ (List.mem_append_right _ (List.mem_append_right _ (List.mem_append_right _ (List.mem_append_right _ (List.mem_append_right _ (List.mem_append_right _ (List.mem_append_right _ (List.mem_append_right _ (List.mem_append_right _ (List.mem_append_right _ (List.mem_append_right _ (List.mem_append_left _ h)))))))))))))))), rfl⟩)
theorem zP18 {q : MethodName × Nat} (h : q ∈ lw_privs_18) : Cond.selects q.1.cls q.1 q.1 ∈ lw_tbl := List.mem_append_left _ (List.mem_map.mpr ⟨q, show q ∈ lw_privs from List.mem_append_right _ (List.mem_append_right _ (List.mem_append_right _ (List.mem_append_right _ (List.mem_append_right _ (List.mem_append_right _ (List.mem_append_right _ (List.mem_append_right _ (List.mem_append_right _ (List.mem_append_right _ (List.mem_append_right _ (List.mem_append_right _ (List.mem_append_right _ (List.mem_append_right _ (List.mem_append_right _ (List.mem_append_right _ (List.mem_append_right _ (List.mem_append_left _ h))))))))))))))))), rfl⟩)
theorem zP19 {q : MethodName × Nat} (h : q ∈ lw_privs_19) : Cond.selects q.1.cls q.1 q.1 ∈ lw_tbl := List.mem_append_left _ (List.mem_map.mpr ⟨q, show q ∈ lw_privs from List.mem_append_right _ (List.mem_append_right _ (List.mem_append_right _ (List.mem_append_right _ (List.mem_append_right _ (List.mem_append_right _ (List.mem_append_right _ (List.mem_append_right _ (List.mem_append_right _ (List.mem_append_right _ (List.mem_append_right _ (List.mem_append_right _ (List.mem_append_right _ (List.mem_append_right _ (List.mem_append_right _ (List.mem_append_right _ (List.mem_append_right _ (List.mem_append_right _ (List.mem_append_left _ h)))))))))))))))))), rfl⟩)
theorem zP20 {q : MethodName × Nat} (h : q ∈ lw_privs_20) : Cond.selects q.1.cls q.1 q.1 ∈ lw_tbl := List.mem_append_left _ (List.mem_map.mpr ⟨q, show q ∈ lw_privs from List.mem_append_right _ (List.mem_append_right _ (List.mem_append_right _ (List.mem_append_right _ (List.mem_append_right _ (List.mem_append_right _ (List.mem_append_right _ (List.mem_append_right _ (List.mem_append_right _ (List.mem_append_right _ (List.mem_append_right _ (List.mem_append_right _ (List.mem_append_right _ (List.mem_append_right _ (List.mem_append_right _ (List.mem_append_right _ (List.mem_append_right _ (List.mem_append_right _ (List.mem_append_right _ (List.mem_append_left _ h))))))))))))))))))), rfl⟩)
theorem zP21 {q : MethodName × Nat} (h : q ∈ lw_privs_21) : Cond.selects q.1.cls q.1 q.1 ∈ lw_tbl := List.mem_append_left _ (List.mem_map.mpr ⟨q, show q ∈ lw_privs from List.mem_append_right _ (List.mem_append_right _ (List.mem_append_right _ (List.mem_append_right _ (List.mem_append_right _ (List.mem_append_right _ (List.mem_append_right _ (List.mem_append_right _ (List.mem_append_right _ (List.mem_append_right _ (List.mem_append_right _ (List.mem_append_right _ (List.mem_append_right _ (List.mem_append_right _ (List.mem_append_right _ (List.mem_append_right _ (List.mem_append_right _ (List.mem_append_right _ (List.mem_append_right _ (List.mem_append_right _ (List.mem_append_left _ h)))))))))))))))))))), rfl⟩)
theorem zP22 {q : MethodName × Nat} (h : q ∈ lw_privs_22) : Cond.selects q.1.cls q.1 q.1 ∈ lw_tbl := List.mem_append_left _ (List.mem_map.mpr ⟨q, show q ∈ lw_privs from List.mem_append_right _ (List.mem_append_right _ (List.mem_append_right _ (List.mem_append_right _ (List.mem_append_right _ (List.mem_append_right _ (List.mem_append_right _ (List.mem_append_right _ (List.mem_append_right _ (List.mem_append_right _ (List.mem_append_right _ (List.mem_append_right _ (List.mem_append_right _ (List.mem_append_right _ (List.mem_append_right _ (List.mem_append_right _ (List.mem_append_right _ (List.mem_append_right _ (List.mem_append_right _ (List.mem_append_right _ (List.mem_append_right _ (List.mem_append_left _ h))))))))))))))))))))), rfl⟩)
theorem zP23 {q : MethodName × Nat} (h : q ∈ lw_privs_23) : Cond.selects q.1.cls q.1 q.1 ∈ lw_tbl := List.mem_append_left _ (List.mem_map.mpr ⟨q, show q ∈ lw_privs from List.mem_append_right _ (List.mem_append_right _ (List.mem_append_right _ (List.mem_append_right _ (List.mem_append_right _ (List.mem_append_right _ (List.mem_append_right _ (List.mem_append_right _ (List.mem_append_right _ (List.mem_append_right _ (List.mem_append_right _ (List.mem_append_right _ (List.mem_append_right _ (List.mem_append_right _ (List.mem_append_right _ (List.mem_append_right _ (List.mem_append_right _ (List.mem_append_right _ (List.mem_append_right _ (List.mem_append_right _ (List.mem_append_right _ (List.mem_append_right _ (List.mem_append_left _ h)))))))))))))))))))))), rfl⟩)
theorem zP24 {q : MethodName × Nat} (h : q ∈ lw_privs_24) : Cond.selects q.1.cls q.1 q.1 ∈ lw_tbl := List.mem_append_left _ (List.mem_map.mpr ⟨q, show q ∈ lw_privs from List.mem_append_right _ (List.mem_append_right _ (List.mem_append_right _ (List.mem_append_right _ (List.mem_append_right _ (List.mem_append_right _ (List.mem_append_right _ (List.mem_append_right _ (List.mem_append_right _ (List.mem_append_right _ (List.mem_append_right _ (List.mem_append_right _ (List.mem_append_right _ (List.mem_append_right _ (List.mem_append_right _ (List.mem_append_right _ (List.mem_append_right _ (List.mem_append_right _ (List.mem_append_right _ (List.mem_append_right _ (List.mem_append_right _ (List.mem_append_right _ (List.mem_append_right _ (List.mem_append_left _ h))))))))))))))))))))))), rfl⟩)
theorem zP25 {q : MethodName × Nat} (h : q ∈ lw_privs_25) : Cond.selects q.1.cls q.1 q.1 ∈ lw_tbl := List.mem_append_left _ (List.mem_map.mpr ⟨q, show q ∈ lw_privs from List.mem_append_right _ (List.mem_append_right _ (List.mem_append_right _ (List.mem_append_right _ (List.mem_append_right _ (List.mem_append_right _ (List.mem_append_right _ (List.mem_append_right _ (List.mem_append_right _ (List.mem_append_right _ (List.mem_append_right _ (List.mem_append_right _ (List.mem_append_right _ (List.mem_append_right _ (List.mem_append_right _ (List.mem_append_right _ (List.mem_append_right _ (List.mem_append_right _ (List.mem_append_right _ (List.mem_append_right _ (List.mem_append_right _ (List.mem_append_right _ (List.mem_append_right _ (List.mem_append_right _ (List.mem_append_left _ h)))))))))))))))))))))))), rfl⟩)
theorem zP26 {q : MethodName × Nat} (h : q ∈ lw_privs_26) : Cond.selects q.1.cls q.1 q.1 ∈ lw_tbl := List.mem_append_left _ (List.mem_map.mpr ⟨q, show q ∈ lw_privs from List.mem_append_right _ (List.mem_append_right _ (List.mem_append_right _ (List.mem_append_right _ (List.mem_append_right _ (List.mem_append_right _ (List.mem_append_right _ (List.mem_append_right _ (List.mem_append_right _ (List.mem_append_right _ (List.mem_append_right _ (List.mem_append_right _ (List.mem_append_right _ (List.mem_append_right _ (List.mem_append_right _ (List.mem_append_right _ (List.mem_append_right _ (List.mem_append_right _ (List.mem_append_right _ (List.mem_append_right _ (List.mem_append_right _ (List.mem_append_right _ (List.mem_append_right _ (List.mem_append_right _ (List.mem_append_right _ (h))))))))))))))))))))))))), rfl⟩)
def zTab (n : Nat) : List Cond := match n with
  | 1 => tables_1_1
  | 2 => tables_1_2
  | 3 => tables_1_3
  | 4 => tables_1_4
  | 5 => tables_1_5
  | 6 => tables_1_6
  | 7 => tables_1_7
  | 8 => tables_1_8
  | 9 => tables_1_9
  | 10 => tables_1_10
  | 11 => tables_1_11
  | 12 => tables_1_12
  | 13 => tables_1_13
  | 14 => tables_1_14
  | 15 => tables_1_15
  | 16 => tables_1_16
  | 17 => tables_1_17
  | 18 => tables_1_18
  | _ => []
theorem zTab_in : ∀ (n : Nat) (w : Cond), w ∈ zTab n → w ∈ lw_tbl := by
  intro n w h
  unfold zTab at h
  split at h
  · exact zT1 h
  · exact zT2 h
  · exact zT3 h
  · exact zT4 h
  · exact zT5 h
  · exact zT6 h
  · exact zT7 h
  · exact zT8 h
  · exact zT9 h
  · exact zT10 h
  · exact zT11 h
  · exact zT12 h
  · exact zT13 h
  · exact zT14 h
  · exact zT15 h
  · exact zT16 h
  · exact zT17 h
  · exact zT18 h
  · exact absurd h List.not_mem_nil
theorem z_in {ws : List Cond} (ps : List (Nat × Nat)) (h : ws.map some = ps.map fun q => (zTab q.1)[q.2]?) : ∀ w ∈ ws, w ∈ lw_tbl := by
  intro w hw
  have h1 : some w ∈ ws.map some := List.mem_map.mpr ⟨w, hw, rfl⟩
  rw [h] at h1
  obtain ⟨q, -, hq⟩ := List.mem_map.mp h1
  exact zTab_in q.1 w (List.mem_of_getElem? hq)
theorem zw0 : Cond.selects RX12 yX12_gather yX12_gather ∈ lw_tbl := zP1 (q := (yX12_gather, 21)) (List.mem_of_getElem? (i := 0) rfl)
theorem zw1 : Cond.selects RX12 yX12_buildOf yX12_buildOf ∈ lw_tbl := zP1 (q := (yX12_buildOf, 21)) (List.mem_of_getElem? (i := 1) rfl)
theorem zw2 : Cond.selects RX12 yX12_allBuilt yX12_allBuilt ∈ lw_tbl := zP1 (q := (yX12_allBuilt, 21)) (List.mem_of_getElem? (i := 2) rfl)
theorem zw3 : Cond.selects RX11 yX11_bars yX11_bars ∈ lw_tbl := zP1 (q := (yX11_bars, 20)) (List.mem_of_getElem? (i := 3) rfl)
theorem zw4 : Cond.selects RX11 yX11_close yX11_close ∈ lw_tbl := zP1 (q := (yX11_close, 20)) (List.mem_of_getElem? (i := 4) rfl)
theorem zw5 : Cond.selects RX12 yX12_fourBytes yX12_fourBytes ∈ lw_tbl := zP1 (q := (yX12_fourBytes, 21)) (List.mem_of_getElem? (i := 5) rfl)
theorem zw6 : Cond.selects RX12 yX12_unused yX12_unused ∈ lw_tbl := zP1 (q := (yX12_unused, 21)) (List.mem_of_getElem? (i := 6) rfl)
theorem zw7 : Cond.selects RX12 yX12_isFull yX12_isFull ∈ lw_tbl := zP1 (q := (yX12_isFull, 21)) (List.mem_of_getElem? (i := 7) rfl)
theorem zw8 : Cond.selects RX9 yX9_scanAll yX9_scanAll ∈ lw_tbl := zP1 (q := (yX9_scanAll, 15)) (List.mem_of_getElem? (i := 8) rfl)
theorem zw9 : Cond.selects RX9 yX9_scan yX9_scan ∈ lw_tbl := zP1 (q := (yX9_scan, 15)) (List.mem_of_getElem? (i := 9) rfl)
theorem zw12 : Cond.selects RX9 yX9_now yX9_now ∈ lw_tbl := zP1 (q := (yX9_now, 15)) (List.mem_of_getElem? (i := 12) rfl)
theorem zw111 : Cond.selects RX12 yX12_keep yX12_keep ∈ lw_tbl := zP7 (q := (yX12_keep, 21)) (List.mem_of_getElem? (i := 15) rfl)
theorem zw112 : Cond.selects RX12 yX12_renewWorld yX12_renewWorld ∈ lw_tbl := zP8 (q := (yX12_renewWorld, 21)) (List.mem_of_getElem? (i := 0) rfl)
theorem zw113 : Cond.selects RX12 yX12_rowOf yX12_rowOf ∈ lw_tbl := zP8 (q := (yX12_rowOf, 21)) (List.mem_of_getElem? (i := 1) rfl)
theorem zw116 : Cond.selects RX12 yX12_tellByte yX12_tellByte ∈ lw_tbl := zP8 (q := (yX12_tellByte, 21)) (List.mem_of_getElem? (i := 4) rfl)
theorem zw117 : Cond.selects RX12 yX12_tellType yX12_tellType ∈ lw_tbl := zP8 (q := (yX12_tellType, 21)) (List.mem_of_getElem? (i := 5) rfl)
theorem zw118 : Cond.selects RX12 yX12_tellLetters yX12_tellLetters ∈ lw_tbl := zP8 (q := (yX12_tellLetters, 21)) (List.mem_of_getElem? (i := 6) rfl)
theorem zw136 : Cond.selects RX12 yX12_countBroken yX12_countBroken ∈ lw_tbl := zP9 (q := (yX12_countBroken, 21)) (List.mem_of_getElem? (i := 8) rfl)
theorem zw138 : Cond.selects RX12 yX12_greatest yX12_greatest ∈ lw_tbl := zP9 (q := (yX12_greatest, 21)) (List.mem_of_getElem? (i := 10) rfl)
theorem zw175 : Cond.selects RX13 yX13_four yX13_four ∈ lw_tbl := zP11 (q := (yX13_four, 180)) (List.mem_of_getElem? (i := 15) rfl)
theorem zw176 : Cond.selects RX13 yX13_isLib yX13_isLib ∈ lw_tbl := zP12 (q := (yX13_isLib, 180)) (List.mem_of_getElem? (i := 0) rfl)
theorem zw177 : Cond.selects RX13 yX13_tokenize yX13_tokenize ∈ lw_tbl := zP12 (q := (yX13_tokenize, 180)) (List.mem_of_getElem? (i := 1) rfl)
theorem zw182 : Cond.selects RX13 yX13_parse yX13_parse ∈ lw_tbl := zP12 (q := (yX13_parse, 180)) (List.mem_of_getElem? (i := 6) rfl)
theorem zw183 : Cond.selects RX13 yX13_kindAt yX13_kindAt ∈ lw_tbl := zP12 (q := (yX13_kindAt, 180)) (List.mem_of_getElem? (i := 7) rfl)
theorem zw199 : Cond.selects RX13 yX13_newMember yX13_newMember ∈ lw_tbl := zP13 (q := (yX13_newMember, 180)) (List.mem_of_getElem? (i := 7) rfl)
theorem zw222 : Cond.selects RX13 yX13_judgeAll yX13_judgeAll ∈ lw_tbl := zP14 (q := (yX13_judgeAll, 180)) (List.mem_of_getElem? (i := 14) rfl)
theorem zw223 : Cond.selects RX13 yX13_heads yX13_heads ∈ lw_tbl := zP14 (q := (yX13_heads, 180)) (List.mem_of_getElem? (i := 15) rfl)
theorem zw234 : Cond.selects RX13 yX13_membersOf yX13_membersOf ∈ lw_tbl := zP15 (q := (yX13_membersOf, 180)) (List.mem_of_getElem? (i := 10) rfl)
theorem zw239 : Cond.selects RX13 yX13_againstAbove yX13_againstAbove ∈ lw_tbl := zP15 (q := (yX13_againstAbove, 180)) (List.mem_of_getElem? (i := 15) rfl)
theorem zw247 : Cond.selects RX13 yX13_makersAndBridges yX13_makersAndBridges ∈ lw_tbl := zP16 (q := (yX13_makersAndBridges, 180)) (List.mem_of_getElem? (i := 7) rfl)
theorem zw253 : Cond.selects RX13 yX13_lacking yX13_lacking ∈ lw_tbl := zP16 (q := (yX13_lacking, 180)) (List.mem_of_getElem? (i := 13) rfl)
theorem zw259 : Cond.selects RX13 yX13_constants yX13_constants ∈ lw_tbl := zP17 (q := (yX13_constants, 180)) (List.mem_of_getElem? (i := 3) rfl)
theorem zw272 : Cond.selects RX13 yX13_bodies yX13_bodies ∈ lw_tbl := zP18 (q := (yX13_bodies, 180)) (List.mem_of_getElem? (i := 0) rfl)
theorem zw300 : Cond.selects RX13 yX13_usesOfAll yX13_usesOfAll ∈ lw_tbl := zP19 (q := (yX13_usesOfAll, 180)) (List.mem_of_getElem? (i := 12) rfl)
theorem zw317 : Cond.selects RX13 yX13_slotAt yX13_slotAt ∈ lw_tbl := zP20 (q := (yX13_slotAt, 180)) (List.mem_of_getElem? (i := 13) rfl)
theorem zw319 : Cond.selects RX13 yX13_settle yX13_settle ∈ lw_tbl := zP20 (q := (yX13_settle, 180)) (List.mem_of_getElem? (i := 15) rfl)
theorem zw320 : Cond.selects RX13 yX13_numberWorld yX13_numberWorld ∈ lw_tbl := zP21 (q := (yX13_numberWorld, 180)) (List.mem_of_getElem? (i := 0) rfl)
theorem zw321 : Cond.selects RX13 yX13_intoWorld yX13_intoWorld ∈ lw_tbl := zP21 (q := (yX13_intoWorld, 180)) (List.mem_of_getElem? (i := 1) rfl)
theorem zw322 : Cond.selects RX13 yX13_clearSet yX13_clearSet ∈ lw_tbl := zP21 (q := (yX13_clearSet, 180)) (List.mem_of_getElem? (i := 2) rfl)
theorem zw323 : Cond.selects RX13 yX13_classAt yX13_classAt ∈ lw_tbl := zP21 (q := (yX13_classAt, 180)) (List.mem_of_getElem? (i := 3) rfl)
theorem zw327 : Cond.selects RX13 yX13_outByte yX13_outByte ∈ lw_tbl := zP21 (q := (yX13_outByte, 180)) (List.mem_of_getElem? (i := 7) rfl)
theorem zw328 : Cond.selects RX13 yX13_outName yX13_outName ∈ lw_tbl := zP21 (q := (yX13_outName, 180)) (List.mem_of_getElem? (i := 8) rfl)
theorem zw333 : Cond.selects RX13 yX13_useAt yX13_useAt ∈ lw_tbl := zP21 (q := (yX13_useAt, 180)) (List.mem_of_getElem? (i := 13) rfl)
theorem zw349 : Cond.selects RX13 yX13_isBroken yX13_isBroken ∈ lw_tbl := zP22 (q := (yX13_isBroken, 180)) (List.mem_of_getElem? (i := 13) rfl)
theorem zw350 : Cond.selects RX13 yX13_named yX13_named ∈ lw_tbl := zP22 (q := (yX13_named, 180)) (List.mem_of_getElem? (i := 14) rfl)
theorem zw410 : Cond.selects RX13 yX13_wordTable yX13_wordTable ∈ lw_tbl := zP26 (q := (yX13_wordTable, 180)) (List.mem_of_getElem? (i := 10) rfl)
theorem zw411 : Cond.selects RX13 yX13_given yX13_given ∈ lw_tbl := zP26 (q := (yX13_given, 180)) (List.mem_of_getElem? (i := 11) rfl)
theorem zw413 : Cond.initialized RX12 ∈ lw_tbl := zT1 (List.mem_of_getElem? (i := 1) rfl)
theorem zw414 : Cond.initialized RX9 ∈ lw_tbl := zT1 (List.mem_of_getElem? (i := 2) rfl)
theorem zw415 : Cond.initialized RX8 ∈ lw_tbl := zT1 (List.mem_of_getElem? (i := 3) rfl)
theorem zw416 : Cond.initialized RJ0 ∈ lw_tbl := zT1 (List.mem_of_getElem? (i := 4) rfl)
theorem zw417 : Cond.initialized RJ1 ∈ lw_tbl := zT1 (List.mem_of_getElem? (i := 5) rfl)
theorem zw418 : Cond.initialized RJ3 ∈ lw_tbl := zT1 (List.mem_of_getElem? (i := 6) rfl)
theorem zw420 : Cond.initialized RX4 ∈ lw_tbl := zT1 (List.mem_of_getElem? (i := 8) rfl)
theorem zw421 : Cond.initialized RX0 ∈ lw_tbl := zT1 (List.mem_of_getElem? (i := 9) rfl)
theorem zw422 : Cond.initialized RX3 ∈ lw_tbl := zT1 (List.mem_of_getElem? (i := 10) rfl)
theorem zw423 : Cond.initialized RX11 ∈ lw_tbl := zT1 (List.mem_of_getElem? (i := 11) rfl)
theorem zw424 : Cond.initialized RX1 ∈ lw_tbl := zT1 (List.mem_of_getElem? (i := 12) rfl)
theorem zw425 : Cond.initialized RX10 ∈ lw_tbl := zT1 (List.mem_of_getElem? (i := 13) rfl)
theorem zw426 : Cond.initialized RX7 ∈ lw_tbl := zT1 (List.mem_of_getElem? (i := 14) rfl)
theorem zw427 : Cond.initialized RJ7 ∈ lw_tbl := zT1 (List.mem_of_getElem? (i := 15) rfl)
theorem zw428 : Cond.initialized RX5 ∈ lw_tbl := zT1 (List.mem_of_getElem? (i := 16) rfl)
theorem zw429 : Cond.initialized RX2 ∈ lw_tbl := zT1 (List.mem_of_getElem? (i := 17) rfl)
theorem zw430 : Cond.initialized RX6 ∈ lw_tbl := zT1 (List.mem_of_getElem? (i := 18) rfl)
theorem zw431 : Cond.initialized RX13 ∈ lw_tbl := zT1 (List.mem_of_getElem? (i := 19) rfl)
theorem zw432 : Cond.initialized RJ9 ∈ lw_tbl := zT1 (List.mem_of_getElem? (i := 20) rfl)
theorem zw433 : Cond.initialized RJ10 ∈ lw_tbl := zT1 (List.mem_of_getElem? (i := 21) rfl)
theorem zw438 : Cond.code yX12_init cX12_init 2 none ∈ lw_tbl := zT1 (List.mem_of_getElem? (i := 26) rfl)
theorem zw439 : Cond.methodLink RX12 3 Lib.objectInit ∈ lw_tbl := zT1 (List.mem_of_getElem? (i := 27) rfl)
theorem zw440 : Cond.instanceMethod Lib.objectInit ∈ lw_tbl := zT1 (List.mem_of_getElem? (i := 28) rfl)
theorem zw441 : Cond.code Lib.objectInit ⟨#[0xb1]⟩ 1 none ∈ lw_tbl := zT1 (List.mem_of_getElem? (i := 29) rfl)
theorem zw442 : Cond.classLink RX12 16 RX1 ∈ lw_tbl := zT1 (List.mem_of_getElem? (i := 30) rfl)
theorem zw443 : Cond.arrayOver (.object "LinkHouse$Build") ∈ lw_tbl := zT1 (List.mem_of_getElem? (i := 31) rfl)
theorem zw444 : Cond.classLink RX12 32 RX9 ∈ lw_tbl := zT1 (List.mem_of_getElem? (i := 32) rfl)
theorem zw445 : Cond.instantiable RX9 15 ∈ lw_tbl := zT1 (List.mem_of_getElem? (i := 33) rfl)
theorem zw446 : Cond.methodLink RX12 34 yX9_init ∈ lw_tbl := zT1 (List.mem_of_getElem? (i := 34) rfl)
theorem zw447 : Cond.instanceMethod yX9_init ∈ lw_tbl := zT1 (List.mem_of_getElem? (i := 35) rfl)
theorem zw448 : Cond.code yX9_init cX9_init 5 none ∈ lw_tbl := zT1 (List.mem_of_getElem? (i := 36) rfl)
theorem zw449 : Cond.methodLink RX9 3 Lib.objectInit ∈ lw_tbl := zT1 (List.mem_of_getElem? (i := 37) rfl)
theorem zw450 : Cond.classLink RX9 28 RX8 ∈ lw_tbl := zT1 (List.mem_of_getElem? (i := 38) rfl)
theorem zw451 : Cond.arrayOver (.object "LinkHouse$Node") ∈ lw_tbl := zT1 (List.mem_of_getElem? (i := 39) rfl)
theorem zw452 : Cond.instantiable RX8 12 ∈ lw_tbl := zT1 (List.mem_of_getElem? (i := 40) rfl)
theorem zw453 : Cond.methodLinkNest RX9 34 yX8_init "LinkHouse" ∈ lw_tbl := zT1 (List.mem_of_getElem? (i := 41) rfl)
theorem zw454 : Cond.instanceMethod yX8_init ∈ lw_tbl := zT1 (List.mem_of_getElem? (i := 42) rfl)
theorem zw455 : Cond.code yX8_init cX8_init 1 none ∈ lw_tbl := zT1 (List.mem_of_getElem? (i := 43) rfl)
theorem zw456 : Cond.methodLink RX8 3 Lib.objectInit ∈ lw_tbl := zT1 (List.mem_of_getElem? (i := 44) rfl)
theorem zw526 : Cond.arrayClass .byte ∈ lw_tbl := zT1 (List.mem_of_getElem? (i := 114) rfl)
theorem zw527 : Cond.arrayClass .int ∈ lw_tbl := zT1 (List.mem_of_getElem? (i := 115) rfl)
theorem zw528 : Cond.arrayClass .long ∈ lw_tbl := zT1 (List.mem_of_getElem? (i := 116) rfl)
theorem zw530 : Cond.methodLink RX9 37 yJ0_length_8abf5 ∈ lw_tbl := zT1 (List.mem_of_getElem? (i := 118) rfl)
theorem zw531 : Cond.instanceMethod yJ0_length_8abf5 ∈ lw_tbl := zT1 (List.mem_of_getElem? (i := 119) rfl)
theorem zw532 : Cond.selects RJ0 yJ0_length_8abf5 yJ0_length_8abf5 ∈ lw_tbl := zT1 (List.mem_of_getElem? (i := 120) rfl)
theorem zw533 : Cond.code yJ0_length_8abf5 cJ0_length_8abf5 1 (some .int) ∈ lw_tbl := zT1 (List.mem_of_getElem? (i := 121) rfl)
theorem zw534 : Cond.methodLink RJ0 335 yJ0_coder_7d493 ∈ lw_tbl := zT1 (List.mem_of_getElem? (i := 122) rfl)
theorem zw535 : Cond.instanceMethod yJ0_coder_7d493 ∈ lw_tbl := zT1 (List.mem_of_getElem? (i := 123) rfl)
theorem zw536 : Cond.selects RJ0 yJ0_coder_7d493 yJ0_coder_7d493 ∈ lw_tbl := zT1 (List.mem_of_getElem? (i := 124) rfl)
theorem zw537 : Cond.code yJ0_coder_7d493 cJ0_coder_7d493 1 (some .byte) ∈ lw_tbl := zT1 (List.mem_of_getElem? (i := 125) rfl)
theorem zw538 : Cond.fieldLink RJ0 38 "java/lang/String" "COMPACT_STRINGS" "Z" ∈ lw_tbl := zT1 (List.mem_of_getElem? (i := 126) rfl)
theorem zw540 : Cond.methodLink RX9 43 yJ0_charAt_5068e ∈ lw_tbl := zT1 (List.mem_of_getElem? (i := 128) rfl)
theorem zw541 : Cond.instanceMethod yJ0_charAt_5068e ∈ lw_tbl := zT1 (List.mem_of_getElem? (i := 129) rfl)
theorem zw542 : Cond.selects RJ0 yJ0_charAt_5068e yJ0_charAt_5068e ∈ lw_tbl := zT1 (List.mem_of_getElem? (i := 130) rfl)
theorem zw543 : Cond.code yJ0_charAt_5068e cJ0_charAt_5068e 2 (some .char) ∈ lw_tbl := zT1 (List.mem_of_getElem? (i := 131) rfl)
theorem zw544 : Cond.methodLink RJ0 492 yJ0_isLatin1_aae02 ∈ lw_tbl := zT1 (List.mem_of_getElem? (i := 132) rfl)
theorem zw545 : Cond.instanceMethod yJ0_isLatin1_aae02 ∈ lw_tbl := zT1 (List.mem_of_getElem? (i := 133) rfl)
theorem zw546 : Cond.selects RJ0 yJ0_isLatin1_aae02 yJ0_isLatin1_aae02 ∈ lw_tbl := zT1 (List.mem_of_getElem? (i := 134) rfl)
theorem zw547 : Cond.code yJ0_isLatin1_aae02 cJ0_isLatin1_aae02 1 (some .boolean) ∈ lw_tbl := zT1 (List.mem_of_getElem? (i := 135) rfl)
theorem zw548 : Cond.methodLink RJ0 495 yJ1_charAt_3b067 ∈ lw_tbl := zT1 (List.mem_of_getElem? (i := 136) rfl)
theorem zw549 : Cond.static yJ1_charAt_3b067 ∈ lw_tbl := zT1 (List.mem_of_getElem? (i := 137) rfl)
theorem zw550 : Cond.code yJ1_charAt_3b067 cJ1_charAt_3b067 2 (some .char) ∈ lw_tbl := zT1 (List.mem_of_getElem? (i := 138) rfl)
theorem zw551 : Cond.methodLink RJ1 9 yJ0_checkIndex_df160 ∈ lw_tbl := zT1 (List.mem_of_getElem? (i := 139) rfl)
theorem zw552 : Cond.static yJ0_checkIndex_df160 ∈ lw_tbl := zT1 (List.mem_of_getElem? (i := 140) rfl)
theorem zw553 : Cond.code yJ0_checkIndex_df160 cJ0_checkIndex_df160 2 none ∈ lw_tbl := zT1 (List.mem_of_getElem? (i := 141) rfl)
theorem zw554 : Cond.fieldLink RJ0 1053 "jdk/internal/util/Preconditions" "SIOOBE_FORMATTER" "Ljava/util/function/BiFunction;" ∈ lw_tbl := zT1 (List.mem_of_getElem? (i := 142) rfl)
theorem zw556 : Cond.methodLink RJ0 1059 yJ3_checkIndex_8e157 ∈ lw_tbl := zT1 (List.mem_of_getElem? (i := 144) rfl)
theorem zw557 : Cond.static yJ3_checkIndex_8e157 ∈ lw_tbl := zT1 (List.mem_of_getElem? (i := 145) rfl)
theorem zw558 : Cond.code yJ3_checkIndex_8e157 cJ3_checkIndex_8e157 3 (some .int) ∈ lw_tbl := zT1 (List.mem_of_getElem? (i := 146) rfl)
theorem zw578 : Cond.methodLink RX9 47 yX9_sixBits ∈ lw_tbl := zT1 (List.mem_of_getElem? (i := 166) rfl)
theorem zw579 : Cond.static yX9_sixBits ∈ lw_tbl := zT1 (List.mem_of_getElem? (i := 167) rfl)
theorem zw580 : Cond.code yX9_sixBits cX9_sixBits 1 (some .long) ∈ lw_tbl := zT1 (List.mem_of_getElem? (i := 168) rfl)
theorem zw581 : Cond.fieldLink RX9 9 "LinkHouse$Reader" "words" "[J" ∈ lw_tbl := zT1 (List.mem_of_getElem? (i := 169) rfl)
theorem zw582 : Cond.fieldLink RX9 15 "LinkHouse$Reader" "kind" "[I" ∈ lw_tbl := zT1 (List.mem_of_getElem? (i := 170) rfl)
theorem zw583 : Cond.fieldLink RX9 19 "LinkHouse$Reader" "from" "[I" ∈ lw_tbl := zT1 (List.mem_of_getElem? (i := 171) rfl)
theorem zw585 : Cond.fieldLink RX9 22 "LinkHouse$Reader" "to" "[I" ∈ lw_tbl := zT1 (List.mem_of_getElem? (i := 173) rfl)
theorem zw586 : Cond.fieldLink RX9 25 "LinkHouse$Reader" "code" "[J" ∈ lw_tbl := zT1 (List.mem_of_getElem? (i := 174) rfl)
theorem zw589 : Cond.fieldLink RX9 111 "LinkHouse$Reader" "count" "I" ∈ lw_tbl := zT1 (List.mem_of_getElem? (i := 177) rfl)
theorem zw590 : Cond.fieldLink RX9 105 "LinkHouse$Reader" "text" "[B" ∈ lw_tbl := zT1 (List.mem_of_getElem? (i := 178) rfl)
theorem zw591 : Cond.fieldLink RX9 109 "LinkHouse$Reader" "length" "I" ∈ lw_tbl := zT1 (List.mem_of_getElem? (i := 179) rfl)
theorem zw592 : Cond.fieldLink RX9 114 "LinkHouse$Reader" "at" "I" ∈ lw_tbl := zT1 (List.mem_of_getElem? (i := 180) rfl)
theorem zw593 : Cond.fieldLink RX9 60 "LinkHouse$Reader" "fault" "I" ∈ lw_tbl := zT1 (List.mem_of_getElem? (i := 181) rfl)
theorem zw595 : Cond.fieldLink RX9 64 "LinkHouse$Reader" "faultToken" "I" ∈ lw_tbl := zT1 (List.mem_of_getElem? (i := 183) rfl)
theorem zw597 : Cond.fieldLink RX9 51 "LinkHouse$Reader" "build" "LLinkHouse$Build;" ∈ lw_tbl := zT1 (List.mem_of_getElem? (i := 185) rfl)
theorem zw599 : Cond.fieldLink RX9 30 "LinkHouse$Reader" "nodes" "[LLinkHouse$Node;" ∈ lw_tbl := zT1 (List.mem_of_getElem? (i := 187) rfl)
theorem zw600 : Cond.fieldLink RX9 67 "LinkHouse$Reader" "nodeCount" "I" ∈ lw_tbl := zT1 (List.mem_of_getElem? (i := 188) rfl)
theorem zw632 : Cond.classLink RX12 39 RX4 ∈ lw_tbl := zT1 (List.mem_of_getElem? (i := 220) rfl)
theorem zw633 : Cond.instantiable RX4 5 ∈ lw_tbl := zT1 (List.mem_of_getElem? (i := 221) rfl)
theorem zw634 : Cond.methodLinkNest RX12 41 yX4_init "LinkHouse" ∈ lw_tbl := zT1 (List.mem_of_getElem? (i := 222) rfl)
theorem zw635 : Cond.instanceMethod yX4_init ∈ lw_tbl := zT1 (List.mem_of_getElem? (i := 223) rfl)
theorem zw636 : Cond.code yX4_init cX4_init 1 none ∈ lw_tbl := zT1 (List.mem_of_getElem? (i := 224) rfl)
theorem zw637 : Cond.methodLink RX4 3 Lib.objectInit ∈ lw_tbl := zT1 (List.mem_of_getElem? (i := 225) rfl)
theorem zw638 : Cond.fieldLink RX4 18 "LinkHouse$Judge" "world" "LLinkHouse$World;" ∈ lw_tbl := zT1 (List.mem_of_getElem? (i := 226) rfl)
theorem zw639 : Cond.fieldLink RX4 22 "LinkHouse$Judge" "build" "LLinkHouse$Build;" ∈ lw_tbl := zT1 (List.mem_of_getElem? (i := 227) rfl)
theorem zw640 : Cond.fieldLink RX4 26 "LinkHouse$Judge" "reader" "LLinkHouse$Reader;" ∈ lw_tbl := zT1 (List.mem_of_getElem? (i := 228) rfl)
theorem zw641 : Cond.fieldLink RX4 9 "LinkHouse$Judge" "fault" "I" ∈ lw_tbl := zT1 (List.mem_of_getElem? (i := 229) rfl)
theorem zw656 : Cond.classLink RX12 46 RX0 ∈ lw_tbl := zT2 (List.mem_of_getElem? (i := 4) rfl)
theorem zw657 : Cond.instantiable RX0 17 ∈ lw_tbl := zT2 (List.mem_of_getElem? (i := 5) rfl)
theorem zw658 : Cond.methodLinkNest RX12 48 yX0_init "LinkHouse" ∈ lw_tbl := zT2 (List.mem_of_getElem? (i := 6) rfl)
theorem zw659 : Cond.instanceMethod yX0_init ∈ lw_tbl := zT2 (List.mem_of_getElem? (i := 7) rfl)
theorem zw660 : Cond.code yX0_init cX0_init 1 none ∈ lw_tbl := zT2 (List.mem_of_getElem? (i := 8) rfl)
theorem zw661 : Cond.methodLink RX0 3 Lib.objectInit ∈ lw_tbl := zT2 (List.mem_of_getElem? (i := 9) rfl)
theorem zw662 : Cond.classLink RX0 18 RX7 ∈ lw_tbl := zT2 (List.mem_of_getElem? (i := 10) rfl)
theorem zw663 : Cond.arrayOver (.object "LinkHouse$Member") ∈ lw_tbl := zT2 (List.mem_of_getElem? (i := 11) rfl)
theorem zw664 : Cond.fieldLink RX0 35 "LinkHouse$Bodies" "world" "LLinkHouse$World;" ∈ lw_tbl := zT2 (List.mem_of_getElem? (i := 12) rfl)
theorem zw665 : Cond.fieldLink RX0 39 "LinkHouse$Bodies" "build" "LLinkHouse$Build;" ∈ lw_tbl := zT2 (List.mem_of_getElem? (i := 13) rfl)
theorem zw666 : Cond.fieldLink RX0 43 "LinkHouse$Bodies" "reader" "LLinkHouse$Reader;" ∈ lw_tbl := zT2 (List.mem_of_getElem? (i := 14) rfl)
theorem zw667 : Cond.fieldLink RX0 28 "LinkHouse$Bodies" "fault" "I" ∈ lw_tbl := zT2 (List.mem_of_getElem? (i := 15) rfl)
theorem zw675 : Cond.fieldLink RX0 9 "LinkHouse$Bodies" "localName" "[J" ∈ lw_tbl := zT2 (List.mem_of_getElem? (i := 23) rfl)
theorem zw676 : Cond.fieldLink RX0 15 "LinkHouse$Bodies" "localType" "[J" ∈ lw_tbl := zT2 (List.mem_of_getElem? (i := 24) rfl)
theorem zw679 : Cond.fieldLink RX0 20 "LinkHouse$Bodies" "candidate" "[LLinkHouse$Member;" ∈ lw_tbl := zT2 (List.mem_of_getElem? (i := 27) rfl)
theorem zw681 : Cond.fieldLink RX0 24 "LinkHouse$Bodies" "places" "[I" ∈ lw_tbl := zT2 (List.mem_of_getElem? (i := 29) rfl)
theorem zw718 : Cond.classLink RX12 53 RX3 ∈ lw_tbl := zT2 (List.mem_of_getElem? (i := 66) rfl)
theorem zw719 : Cond.instantiable RX3 8 ∈ lw_tbl := zT2 (List.mem_of_getElem? (i := 67) rfl)
theorem zw720 : Cond.methodLinkNest RX12 55 yX3_init "LinkHouse" ∈ lw_tbl := zT2 (List.mem_of_getElem? (i := 68) rfl)
theorem zw721 : Cond.instanceMethod yX3_init ∈ lw_tbl := zT2 (List.mem_of_getElem? (i := 69) rfl)
theorem zw722 : Cond.code yX3_init cX3_init 1 none ∈ lw_tbl := zT2 (List.mem_of_getElem? (i := 70) rfl)
theorem zw723 : Cond.methodLink RX3 3 Lib.objectInit ∈ lw_tbl := zT2 (List.mem_of_getElem? (i := 71) rfl)
theorem zw724 : Cond.fieldLink RX3 9 "LinkHouse$Emitter" "world" "LLinkHouse$World;" ∈ lw_tbl := zT2 (List.mem_of_getElem? (i := 72) rfl)
theorem zw725 : Cond.fieldLink RX3 15 "LinkHouse$Emitter" "build" "LLinkHouse$Build;" ∈ lw_tbl := zT2 (List.mem_of_getElem? (i := 73) rfl)
theorem zw726 : Cond.fieldLink RX3 19 "LinkHouse$Emitter" "reader" "LLinkHouse$Reader;" ∈ lw_tbl := zT2 (List.mem_of_getElem? (i := 74) rfl)
theorem zw749 : Cond.classLink RX12 64 RX11 ∈ lw_tbl := zT2 (List.mem_of_getElem? (i := 97) rfl)
theorem zw750 : Cond.instantiable RX11 20 ∈ lw_tbl := zT2 (List.mem_of_getElem? (i := 98) rfl)
theorem zw751 : Cond.methodLink RX12 66 yX11_init ∈ lw_tbl := zT2 (List.mem_of_getElem? (i := 99) rfl)
theorem zw752 : Cond.instanceMethod yX11_init ∈ lw_tbl := zT2 (List.mem_of_getElem? (i := 100) rfl)
theorem zw753 : Cond.code yX11_init cX11_init 4 none ∈ lw_tbl := zT2 (List.mem_of_getElem? (i := 101) rfl)
theorem zw754 : Cond.methodLink RX11 3 Lib.objectInit ∈ lw_tbl := zT2 (List.mem_of_getElem? (i := 102) rfl)
theorem zw755 : Cond.classLink RX11 9 RX10 ∈ lw_tbl := zT2 (List.mem_of_getElem? (i := 103) rfl)
theorem zw756 : Cond.arrayOver (.object "LinkHouse$Row") ∈ lw_tbl := zT2 (List.mem_of_getElem? (i := 104) rfl)
theorem zw757 : Cond.classLink RX11 55 RX7 ∈ lw_tbl := zT2 (List.mem_of_getElem? (i := 105) rfl)
theorem zw758 : Cond.classLink RX11 61 RX1 ∈ lw_tbl := zT2 (List.mem_of_getElem? (i := 106) rfl)
theorem zw759 : Cond.instantiable RX1 18 ∈ lw_tbl := zT2 (List.mem_of_getElem? (i := 107) rfl)
theorem zw760 : Cond.methodLink RX11 63 yX1_init ∈ lw_tbl := zT2 (List.mem_of_getElem? (i := 108) rfl)
theorem zw761 : Cond.instanceMethod yX1_init ∈ lw_tbl := zT2 (List.mem_of_getElem? (i := 109) rfl)
theorem zw762 : Cond.code yX1_init cX1_init 8 none ∈ lw_tbl := zT2 (List.mem_of_getElem? (i := 110) rfl)
theorem zw763 : Cond.methodLink RX1 3 Lib.objectInit ∈ lw_tbl := zT2 (List.mem_of_getElem? (i := 111) rfl)
theorem zw764 : Cond.classLink RX1 9 RX10 ∈ lw_tbl := zT2 (List.mem_of_getElem? (i := 112) rfl)
theorem zw765 : Cond.instantiable RX10 21 ∈ lw_tbl := zT2 (List.mem_of_getElem? (i := 113) rfl)
theorem zw766 : Cond.methodLinkNest RX1 17 yX10_init "LinkHouse" ∈ lw_tbl := zT2 (List.mem_of_getElem? (i := 114) rfl)
theorem zw767 : Cond.instanceMethod yX10_init ∈ lw_tbl := zT2 (List.mem_of_getElem? (i := 115) rfl)
theorem zw768 : Cond.code yX10_init cX10_init 1 none ∈ lw_tbl := zT2 (List.mem_of_getElem? (i := 116) rfl)
theorem zw769 : Cond.methodLink RX10 3 Lib.objectInit ∈ lw_tbl := zT2 (List.mem_of_getElem? (i := 117) rfl)
theorem zw770 : Cond.classLink RX10 19 RX7 ∈ lw_tbl := zT2 (List.mem_of_getElem? (i := 118) rfl)
theorem zw771 : Cond.fieldLink RX10 28 "LinkHouse$Row" "home" "LLinkHouse$Build;" ∈ lw_tbl := zT2 (List.mem_of_getElem? (i := 119) rfl)
theorem zw774 : Cond.fieldLink RX11 76 "LinkHouse$Row" "name" "J" ∈ lw_tbl := zT2 (List.mem_of_getElem? (i := 122) rfl)
theorem zw775 : Cond.fieldLink RX10 34 "LinkHouse$Row" "name" "J" ∈ lw_tbl := zT2 (List.mem_of_getElem? (i := 123) rfl)
theorem zw783 : Cond.fieldLink RX12 278 "LinkHouse$Row" "name" "J" ∈ lw_tbl := zT2 (List.mem_of_getElem? (i := 131) rfl)
theorem zw784 : Cond.fieldLink RX10 38 "LinkHouse$Row" "tok" "I" ∈ lw_tbl := zT2 (List.mem_of_getElem? (i := 132) rfl)
theorem zw789 : Cond.fieldLink RX11 80 "LinkHouse$Row" "open" "Z" ∈ lw_tbl := zT2 (List.mem_of_getElem? (i := 137) rfl)
theorem zw790 : Cond.fieldLink RX10 42 "LinkHouse$Row" "open" "Z" ∈ lw_tbl := zT2 (List.mem_of_getElem? (i := 138) rfl)
theorem zw796 : Cond.fieldLink RX10 46 "LinkHouse$Row" "face" "Z" ∈ lw_tbl := zT2 (List.mem_of_getElem? (i := 144) rfl)
theorem zw799 : Cond.fieldLink RX11 132 "LinkHouse$Row" "face" "Z" ∈ lw_tbl := zT2 (List.mem_of_getElem? (i := 147) rfl)
theorem zw806 : Cond.fieldLink RX10 49 "LinkHouse$Row" "last" "Z" ∈ lw_tbl := zT2 (List.mem_of_getElem? (i := 154) rfl)
theorem zw809 : Cond.fieldLink RX11 159 "LinkHouse$Row" "last" "Z" ∈ lw_tbl := zT2 (List.mem_of_getElem? (i := 157) rfl)
theorem zw813 : Cond.fieldLink RX10 52 "LinkHouse$Row" "bare" "Z" ∈ lw_tbl := zT2 (List.mem_of_getElem? (i := 161) rfl)
theorem zw821 : Cond.fieldLink RX11 102 "LinkHouse$Row" "told" "Z" ∈ lw_tbl := zT2 (List.mem_of_getElem? (i := 169) rfl)
theorem zw822 : Cond.fieldLink RX10 55 "LinkHouse$Row" "told" "Z" ∈ lw_tbl := zT2 (List.mem_of_getElem? (i := 170) rfl)
theorem zw827 : Cond.fieldLink RX11 86 "LinkHouse$Row" "parent" "J" ∈ lw_tbl := zT2 (List.mem_of_getElem? (i := 175) rfl)
theorem zw828 : Cond.fieldLink RX10 60 "LinkHouse$Row" "parent" "J" ∈ lw_tbl := zT2 (List.mem_of_getElem? (i := 176) rfl)
theorem zw835 : Cond.fieldLink RX10 63 "LinkHouse$Row" "within" "J" ∈ lw_tbl := zT2 (List.mem_of_getElem? (i := 183) rfl)
theorem zw837 : Cond.fieldLink RX11 138 "LinkHouse$Row" "within" "J" ∈ lw_tbl := zT2 (List.mem_of_getElem? (i := 185) rfl)
theorem zw842 : Cond.fieldLink RX10 9 "LinkHouse$Row" "listed" "[J" ∈ lw_tbl := zT2 (List.mem_of_getElem? (i := 190) rfl)
theorem zw844 : Cond.fieldLink RX10 15 "LinkHouse$Row" "counts" "[I" ∈ lw_tbl := zT2 (List.mem_of_getElem? (i := 192) rfl)
theorem zw847 : Cond.fieldLink RX11 149 "LinkHouse$Row" "counts" "[I" ∈ lw_tbl := zT2 (List.mem_of_getElem? (i := 195) rfl)
theorem zw852 : Cond.fieldLink RX10 21 "LinkHouse$Row" "items" "[LLinkHouse$Member;" ∈ lw_tbl := zT2 (List.mem_of_getElem? (i := 200) rfl)
theorem zw859 : Cond.fieldLink RX10 72 "LinkHouse$Row" "itemCount" "I" ∈ lw_tbl := zT2 (List.mem_of_getElem? (i := 207) rfl)
theorem zw864 : Cond.fieldLink RX10 25 "LinkHouse$Row" "members" "[LLinkHouse$Member;" ∈ lw_tbl := zT2 (List.mem_of_getElem? (i := 212) rfl)
theorem zw872 : Cond.fieldLink RX10 75 "LinkHouse$Row" "memberCount" "I" ∈ lw_tbl := zT2 (List.mem_of_getElem? (i := 220) rfl)
theorem zw880 : Cond.fieldLink RX10 78 "LinkHouse$Row" "useFrom" "I" ∈ lw_tbl := zT2 (List.mem_of_getElem? (i := 228) rfl)
theorem zw885 : Cond.fieldLink RX5 77 "LinkHouse$Row" "useCount" "I" ∈ lw_tbl := zT2 (List.mem_of_getElem? (i := 233) rfl)
theorem zw886 : Cond.fieldLink RX10 81 "LinkHouse$Row" "useCount" "I" ∈ lw_tbl := zT2 (List.mem_of_getElem? (i := 234) rfl)
theorem zw889 : Cond.fieldLink RX10 84 "LinkHouse$Row" "begin" "LLinkHouse$Member;" ∈ lw_tbl := zT2 (List.mem_of_getElem? (i := 237) rfl)
theorem zw892 : Cond.fieldLink RX10 88 "LinkHouse$Row" "fieldCode" "I" ∈ lw_tbl := zT3 (List.mem_of_getElem? (i := 0) rfl)
theorem zw895 : Cond.fieldLink RX11 105 "LinkHouse$Row" "slots" "I" ∈ lw_tbl := zT3 (List.mem_of_getElem? (i := 3) rfl)
theorem zw896 : Cond.fieldLink RX10 91 "LinkHouse$Row" "slots" "I" ∈ lw_tbl := zT3 (List.mem_of_getElem? (i := 4) rfl)
theorem zw942 : Cond.classLink RX1 18 RX7 ∈ lw_tbl := zT3 (List.mem_of_getElem? (i := 50) rfl)
theorem zw943 : Cond.instantiable RX7 19 ∈ lw_tbl := zT3 (List.mem_of_getElem? (i := 51) rfl)
theorem zw944 : Cond.methodLinkNest RX1 24 yX7_init "LinkHouse" ∈ lw_tbl := zT3 (List.mem_of_getElem? (i := 52) rfl)
theorem zw945 : Cond.instanceMethod yX7_init ∈ lw_tbl := zT3 (List.mem_of_getElem? (i := 53) rfl)
theorem zw946 : Cond.code yX7_init cX7_init 1 none ∈ lw_tbl := zT3 (List.mem_of_getElem? (i := 54) rfl)
theorem zw947 : Cond.methodLink RX7 3 Lib.objectInit ∈ lw_tbl := zT3 (List.mem_of_getElem? (i := 55) rfl)
theorem zw948 : Cond.fieldLink RX7 15 "LinkHouse$Member" "kind" "I" ∈ lw_tbl := zT3 (List.mem_of_getElem? (i := 56) rfl)
theorem zw949 : Cond.fieldLink RX11 120 "LinkHouse$Member" "kind" "I" ∈ lw_tbl := zT3 (List.mem_of_getElem? (i := 57) rfl)
theorem zw959 : Cond.fieldLink RX11 109 "LinkHouse$Member" "access" "I" ∈ lw_tbl := zT3 (List.mem_of_getElem? (i := 67) rfl)
theorem zw960 : Cond.fieldLink RX7 19 "LinkHouse$Member" "access" "I" ∈ lw_tbl := zT3 (List.mem_of_getElem? (i := 68) rfl)
theorem zw967 : Cond.fieldLink RX7 22 "LinkHouse$Member" "fixed" "Z" ∈ lw_tbl := zT3 (List.mem_of_getElem? (i := 75) rfl)
theorem zw978 : Cond.fieldLink RX7 26 "LinkHouse$Member" "last" "Z" ∈ lw_tbl := zT3 (List.mem_of_getElem? (i := 86) rfl)
theorem zw985 : Cond.fieldLink RX7 29 "LinkHouse$Member" "bare" "Z" ∈ lw_tbl := zT3 (List.mem_of_getElem? (i := 93) rfl)
theorem zw994 : Cond.fieldLink RX7 32 "LinkHouse$Member" "bridge" "Z" ∈ lw_tbl := zT3 (List.mem_of_getElem? (i := 102) rfl)
theorem zw1001 : Cond.fieldLink RX7 35 "LinkHouse$Member" "block" "Z" ∈ lw_tbl := zT3 (List.mem_of_getElem? (i := 109) rfl)
theorem zw1008 : Cond.fieldLink RX11 114 "LinkHouse$Member" "name" "J" ∈ lw_tbl := zT3 (List.mem_of_getElem? (i := 116) rfl)
theorem zw1009 : Cond.fieldLink RX7 40 "LinkHouse$Member" "name" "J" ∈ lw_tbl := zT3 (List.mem_of_getElem? (i := 117) rfl)
theorem zw1017 : Cond.fieldLink RX11 117 "LinkHouse$Member" "type" "J" ∈ lw_tbl := zT3 (List.mem_of_getElem? (i := 125) rfl)
theorem zw1018 : Cond.fieldLink RX7 46 "LinkHouse$Member" "type" "J" ∈ lw_tbl := zT3 (List.mem_of_getElem? (i := 126) rfl)
theorem zw1027 : Cond.fieldLink RX7 49 "LinkHouse$Member" "count" "I" ∈ lw_tbl := zT3 (List.mem_of_getElem? (i := 135) rfl)
theorem zw1035 : Cond.fieldLink RX7 9 "LinkHouse$Member" "param" "[J" ∈ lw_tbl := zT3 (List.mem_of_getElem? (i := 143) rfl)
theorem zw1042 : Cond.fieldLink RX7 58 "LinkHouse$Member" "tok" "I" ∈ lw_tbl := zT3 (List.mem_of_getElem? (i := 150) rfl)
theorem zw1046 : Cond.fieldLink RX7 61 "LinkHouse$Member" "from" "I" ∈ lw_tbl := zT3 (List.mem_of_getElem? (i := 154) rfl)
theorem zw1049 : Cond.fieldLink RX7 64 "LinkHouse$Member" "to" "I" ∈ lw_tbl := zT3 (List.mem_of_getElem? (i := 157) rfl)
theorem zw1052 : Cond.fieldLink RX7 67 "LinkHouse$Member" "body" "LLinkHouse$Node;" ∈ lw_tbl := zT3 (List.mem_of_getElem? (i := 160) rfl)
theorem zw1057 : Cond.fieldLink RX7 71 "LinkHouse$Member" "constant" "Z" ∈ lw_tbl := zT3 (List.mem_of_getElem? (i := 165) rfl)
theorem zw1064 : Cond.fieldLink RX7 74 "LinkHouse$Member" "worth" "I" ∈ lw_tbl := zT3 (List.mem_of_getElem? (i := 172) rfl)
theorem zw1071 : Cond.fieldLink RX7 77 "LinkHouse$Member" "code" "I" ∈ lw_tbl := zT3 (List.mem_of_getElem? (i := 179) rfl)
theorem zw1074 : Cond.fieldLink RX7 80 "LinkHouse$Member" "locals" "I" ∈ lw_tbl := zT3 (List.mem_of_getElem? (i := 182) rfl)
theorem zw1117 : Cond.fieldLink RX12 153 "LinkHouse$Build" "library" "I" ∈ lw_tbl := zT3 (List.mem_of_getElem? (i := 225) rfl)
theorem zw1118 : Cond.fieldLink RX12 156 "LinkHouse$Build" "number" "I" ∈ lw_tbl := zT3 (List.mem_of_getElem? (i := 226) rfl)
theorem zw1119 : Cond.fieldLink RX1 11 "LinkHouse$Build" "rows" "[LLinkHouse$Row;" ∈ lw_tbl := zT3 (List.mem_of_getElem? (i := 227) rfl)
theorem zw1122 : Cond.fieldLink RX11 126 "LinkHouse$Build" "rows" "[LLinkHouse$Row;" ∈ lw_tbl := zT3 (List.mem_of_getElem? (i := 230) rfl)
theorem zw1126 : Cond.fieldLink RX1 55 "LinkHouse$Build" "rowCount" "I" ∈ lw_tbl := zT3 (List.mem_of_getElem? (i := 234) rfl)
theorem zw1127 : Cond.fieldLink RX3 23 "LinkHouse$Build" "rowCount" "I" ∈ lw_tbl := zT3 (List.mem_of_getElem? (i := 235) rfl)
theorem zw1129 : Cond.fieldLink RX4 30 "LinkHouse$Build" "rowCount" "I" ∈ lw_tbl := zT3 (List.mem_of_getElem? (i := 237) rfl)
theorem zw1130 : Cond.fieldLink RX0 47 "LinkHouse$Build" "rowCount" "I" ∈ lw_tbl := zT3 (List.mem_of_getElem? (i := 238) rfl)
theorem zw1131 : Cond.fieldLink RX11 129 "LinkHouse$Build" "rowCount" "I" ∈ lw_tbl := zT3 (List.mem_of_getElem? (i := 239) rfl)
theorem zw1133 : Cond.fieldLink RX1 20 "LinkHouse$Build" "pool" "[LLinkHouse$Member;" ∈ lw_tbl := zT4 (List.mem_of_getElem? (i := 1) rfl)
theorem zw1134 : Cond.fieldLink RX1 59 "LinkHouse$Build" "poolCount" "I" ∈ lw_tbl := zT4 (List.mem_of_getElem? (i := 2) rfl)
theorem zw1135 : Cond.fieldLink RX1 25 "LinkHouse$Build" "text" "[B" ∈ lw_tbl := zT4 (List.mem_of_getElem? (i := 3) rfl)
theorem zw1136 : Cond.fieldLink RX9 121 "LinkHouse$Build" "text" "[B" ∈ lw_tbl := zT4 (List.mem_of_getElem? (i := 4) rfl)
theorem zw1137 : Cond.fieldLink RX12 130 "LinkHouse$Build" "text" "[B" ∈ lw_tbl := zT4 (List.mem_of_getElem? (i := 5) rfl)
theorem zw1139 : Cond.fieldLink RX1 62 "LinkHouse$Build" "length" "I" ∈ lw_tbl := zT4 (List.mem_of_getElem? (i := 7) rfl)
theorem zw1140 : Cond.fieldLink RX9 134 "LinkHouse$Build" "length" "I" ∈ lw_tbl := zT4 (List.mem_of_getElem? (i := 8) rfl)
theorem zw1142 : Cond.fieldLink RX1 29 "LinkHouse$Build" "from" "[I" ∈ lw_tbl := zT4 (List.mem_of_getElem? (i := 10) rfl)
theorem zw1143 : Cond.fieldLink RX9 135 "LinkHouse$Build" "from" "[I" ∈ lw_tbl := zT4 (List.mem_of_getElem? (i := 11) rfl)
theorem zw1146 : Cond.fieldLink RX1 33 "LinkHouse$Build" "to" "[I" ∈ lw_tbl := zT4 (List.mem_of_getElem? (i := 14) rfl)
theorem zw1147 : Cond.fieldLink RX9 136 "LinkHouse$Build" "to" "[I" ∈ lw_tbl := zT4 (List.mem_of_getElem? (i := 15) rfl)
theorem zw1150 : Cond.fieldLink RX1 36 "LinkHouse$Build" "useSort" "[I" ∈ lw_tbl := zT4 (List.mem_of_getElem? (i := 18) rfl)
theorem zw1155 : Cond.fieldLink RX1 39 "LinkHouse$Build" "useOwner" "[I" ∈ lw_tbl := zT4 (List.mem_of_getElem? (i := 23) rfl)
theorem zw1158 : Cond.fieldLink RX1 42 "LinkHouse$Build" "useClass" "[J" ∈ lw_tbl := zT4 (List.mem_of_getElem? (i := 26) rfl)
theorem zw1162 : Cond.fieldLink RX1 46 "LinkHouse$Build" "useMember" "[LLinkHouse$Member;" ∈ lw_tbl := zT4 (List.mem_of_getElem? (i := 30) rfl)
theorem zw1166 : Cond.fieldLink RX1 49 "LinkHouse$Build" "useOther" "[J" ∈ lw_tbl := zT4 (List.mem_of_getElem? (i := 34) rfl)
theorem zw1170 : Cond.fieldLink RX1 65 "LinkHouse$Build" "useCount" "I" ∈ lw_tbl := zT4 (List.mem_of_getElem? (i := 38) rfl)
theorem zw1174 : Cond.fieldLink RX1 52 "LinkHouse$Build" "code" "[I" ∈ lw_tbl := zT4 (List.mem_of_getElem? (i := 42) rfl)
theorem zw1177 : Cond.fieldLink RX1 68 "LinkHouse$Build" "codeCount" "I" ∈ lw_tbl := zT4 (List.mem_of_getElem? (i := 45) rfl)
theorem zw1218 : Cond.methodLink RX11 70 yX1_newRow ∈ lw_tbl := zT4 (List.mem_of_getElem? (i := 86) rfl)
theorem zw1219 : Cond.instanceMethod yX1_newRow ∈ lw_tbl := zT4 (List.mem_of_getElem? (i := 87) rfl)
theorem zw1220 : Cond.selects RX1 yX1_newRow yX1_newRow ∈ lw_tbl := zT4 (List.mem_of_getElem? (i := 88) rfl)
theorem zw1221 : Cond.code yX1_newRow cX1_newRow 2 (some (.object "LinkHouse$Row")) ∈ lw_tbl := zT4 (List.mem_of_getElem? (i := 89) rfl)
theorem zw1222 : Cond.methodLink RX1 71 yX10_clear ∈ lw_tbl := zT4 (List.mem_of_getElem? (i := 90) rfl)
theorem zw1223 : Cond.instanceMethod yX10_clear ∈ lw_tbl := zT4 (List.mem_of_getElem? (i := 91) rfl)
theorem zw1224 : Cond.selects RX10 yX10_clear yX10_clear ∈ lw_tbl := zT4 (List.mem_of_getElem? (i := 92) rfl)
theorem zw1225 : Cond.code yX10_clear cX10_clear 2 none ∈ lw_tbl := zT4 (List.mem_of_getElem? (i := 93) rfl)
theorem zw1226 : Cond.constantLong RX10 32 (-4) ∈ lw_tbl := zT4 (List.mem_of_getElem? (i := 94) rfl)
theorem zw1227 : Cond.constantLong RX10 58 (-4031174665287237632) ∈ lw_tbl := zT4 (List.mem_of_getElem? (i := 95) rfl)
theorem zw1228 : Cond.methodLink RX10 66 yJ7_fill_53178 ∈ lw_tbl := zT4 (List.mem_of_getElem? (i := 96) rfl)
theorem zw1229 : Cond.static yJ7_fill_53178 ∈ lw_tbl := zT4 (List.mem_of_getElem? (i := 97) rfl)
theorem zw1230 : Cond.code yJ7_fill_53178 cJ7_fill_53178 4 none ∈ lw_tbl := zT4 (List.mem_of_getElem? (i := 98) rfl)
theorem zw1231 : Cond.constantLong RX11 74 (-4031174665287237632) ∈ lw_tbl := zT4 (List.mem_of_getElem? (i := 99) rfl)
theorem zw1232 : Cond.constantLong RX11 84 (-4) ∈ lw_tbl := zT4 (List.mem_of_getElem? (i := 100) rfl)
theorem zw1233 : Cond.methodLink RX11 88 yX1_newMember ∈ lw_tbl := zT4 (List.mem_of_getElem? (i := 101) rfl)
theorem zw1234 : Cond.instanceMethod yX1_newMember ∈ lw_tbl := zT4 (List.mem_of_getElem? (i := 102) rfl)
theorem zw1235 : Cond.selects RX1 yX1_newMember yX1_newMember ∈ lw_tbl := zT4 (List.mem_of_getElem? (i := 103) rfl)
theorem zw1236 : Cond.code yX1_newMember cX1_newMember 2 (some (.object "LinkHouse$Member")) ∈ lw_tbl := zT4 (List.mem_of_getElem? (i := 104) rfl)
theorem zw1237 : Cond.methodLink RX1 75 yX7_clear ∈ lw_tbl := zT4 (List.mem_of_getElem? (i := 105) rfl)
theorem zw1238 : Cond.instanceMethod yX7_clear ∈ lw_tbl := zT4 (List.mem_of_getElem? (i := 106) rfl)
theorem zw1239 : Cond.selects RX7 yX7_clear yX7_clear ∈ lw_tbl := zT4 (List.mem_of_getElem? (i := 107) rfl)
theorem zw1240 : Cond.code yX7_clear cX7_clear 1 none ∈ lw_tbl := zT4 (List.mem_of_getElem? (i := 108) rfl)
theorem zw1241 : Cond.constantLong RX7 38 (-4) ∈ lw_tbl := zT4 (List.mem_of_getElem? (i := 109) rfl)
theorem zw1242 : Cond.constantLong RX7 44 (-3) ∈ lw_tbl := zT4 (List.mem_of_getElem? (i := 110) rfl)
theorem zw1243 : Cond.methodLink RX7 52 yJ7_fill_d0a16 ∈ lw_tbl := zT4 (List.mem_of_getElem? (i := 111) rfl)
theorem zw1244 : Cond.static yJ7_fill_d0a16 ∈ lw_tbl := zT4 (List.mem_of_getElem? (i := 112) rfl)
theorem zw1245 : Cond.code yJ7_fill_d0a16 cJ7_fill_d0a16 5 none ∈ lw_tbl := zT4 (List.mem_of_getElem? (i := 113) rfl)
theorem zw1246 : Cond.methodLink RX11 92 yX11_openMaker ∈ lw_tbl := zT4 (List.mem_of_getElem? (i := 114) rfl)
theorem zw1247 : Cond.static yX11_openMaker ∈ lw_tbl := zT4 (List.mem_of_getElem? (i := 115) rfl)
theorem zw1248 : Cond.code yX11_openMaker cX11_openMaker 1 (some (.object "LinkHouse$Member")) ∈ lw_tbl := zT4 (List.mem_of_getElem? (i := 116) rfl)
theorem zw1249 : Cond.methodLink RX11 96 yX10_add ∈ lw_tbl := zT4 (List.mem_of_getElem? (i := 117) rfl)
theorem zw1250 : Cond.instanceMethod yX10_add ∈ lw_tbl := zT4 (List.mem_of_getElem? (i := 118) rfl)
theorem zw1251 : Cond.selects RX10 yX10_add yX10_add ∈ lw_tbl := zT4 (List.mem_of_getElem? (i := 119) rfl)
theorem zw1252 : Cond.code yX10_add cX10_add 2 none ∈ lw_tbl := zT4 (List.mem_of_getElem? (i := 120) rfl)
theorem zw1253 : Cond.constantLong RX11 100 (-3887679601769447424) ∈ lw_tbl := zT4 (List.mem_of_getElem? (i := 121) rfl)
theorem zw1254 : Cond.constantLong RX11 112 (40268857453051904) ∈ lw_tbl := zT4 (List.mem_of_getElem? (i := 122) rfl)
theorem zw1255 : Cond.constantLong RX11 115 (-1) ∈ lw_tbl := zT4 (List.mem_of_getElem? (i := 123) rfl)
theorem zw1256 : Cond.fieldLink RX11 66 "LinkHouse$World" "builtIn" "LLinkHouse$Build;" ∈ lw_tbl := zT4 (List.mem_of_getElem? (i := 124) rfl)
theorem zw1258 : Cond.fieldLink RX11 11 "LinkHouse$World" "row" "[LLinkHouse$Row;" ∈ lw_tbl := zT4 (List.mem_of_getElem? (i := 126) rfl)
theorem zw1259 : Cond.fieldLink RX5 73 "LinkHouse$World" "row" "[LLinkHouse$Row;" ∈ lw_tbl := zT4 (List.mem_of_getElem? (i := 127) rfl)
theorem zw1264 : Cond.fieldLink RX12 444 "LinkHouse$World" "row" "[LLinkHouse$Row;" ∈ lw_tbl := zT4 (List.mem_of_getElem? (i := 132) rfl)
theorem zw1265 : Cond.fieldLink RX5 68 "LinkHouse$World" "count" "I" ∈ lw_tbl := zT4 (List.mem_of_getElem? (i := 133) rfl)
theorem zw1266 : Cond.fieldLink RX11 123 "LinkHouse$World" "count" "I" ∈ lw_tbl := zT4 (List.mem_of_getElem? (i := 134) rfl)
theorem zw1267 : Cond.fieldLink RX12 554 "LinkHouse$World" "count" "I" ∈ lw_tbl := zT4 (List.mem_of_getElem? (i := 135) rfl)
theorem zw1268 : Cond.fieldLink RX11 17 "LinkHouse$World" "parent" "[I" ∈ lw_tbl := zT4 (List.mem_of_getElem? (i := 136) rfl)
theorem zw1273 : Cond.fieldLink RX11 21 "LinkHouse$World" "chain" "[I" ∈ lw_tbl := zT4 (List.mem_of_getElem? (i := 141) rfl)
theorem zw1278 : Cond.fieldLink RX11 24 "LinkHouse$World" "face" "[I" ∈ lw_tbl := zT4 (List.mem_of_getElem? (i := 146) rfl)
theorem zw1281 : Cond.fieldLink RX11 27 "LinkHouse$World" "bar" "[I" ∈ lw_tbl := zT4 (List.mem_of_getElem? (i := 149) rfl)
theorem zw1283 : Cond.fieldLink RX11 30 "LinkHouse$World" "host" "[I" ∈ lw_tbl := zT4 (List.mem_of_getElem? (i := 151) rfl)
theorem zw1285 : Cond.fieldLink RX11 33 "LinkHouse$World" "nest" "[I" ∈ lw_tbl := zT4 (List.mem_of_getElem? (i := 153) rfl)
theorem zw1287 : Cond.fieldLink RX11 36 "LinkHouse$World" "up" "[J" ∈ lw_tbl := zT4 (List.mem_of_getElem? (i := 155) rfl)
theorem zw1288 : Cond.fieldLink RX11 40 "LinkHouse$World" "all" "[I" ∈ lw_tbl := zT4 (List.mem_of_getElem? (i := 156) rfl)
theorem zw1292 : Cond.fieldLink RX11 43 "LinkHouse$World" "allCount" "[I" ∈ lw_tbl := zT4 (List.mem_of_getElem? (i := 160) rfl)
theorem zw1293 : Cond.fieldLink RX11 46 "LinkHouse$World" "path" "[I" ∈ lw_tbl := zT4 (List.mem_of_getElem? (i := 161) rfl)
theorem zw1294 : Cond.fieldLink RX11 49 "LinkHouse$World" "step" "[I" ∈ lw_tbl := zT4 (List.mem_of_getElem? (i := 162) rfl)
theorem zw1295 : Cond.fieldLink RX11 52 "LinkHouse$World" "seen" "[I" ∈ lw_tbl := zT4 (List.mem_of_getElem? (i := 163) rfl)
theorem zw1299 : Cond.fieldLink RX11 57 "LinkHouse$World" "best" "[LLinkHouse$Member;" ∈ lw_tbl := zT4 (List.mem_of_getElem? (i := 167) rfl)
theorem zw1349 : Cond.classLink RX12 74 RX5 ∈ lw_tbl := zT4 (List.mem_of_getElem? (i := 217) rfl)
theorem zw1350 : Cond.instantiable RX5 20 ∈ lw_tbl := zT4 (List.mem_of_getElem? (i := 218) rfl)
theorem zw1351 : Cond.methodLink RX12 76 yX5_init ∈ lw_tbl := zT4 (List.mem_of_getElem? (i := 219) rfl)
theorem zw1352 : Cond.instanceMethod yX5_init ∈ lw_tbl := zT4 (List.mem_of_getElem? (i := 220) rfl)
theorem zw1353 : Cond.code yX5_init cX5_init 2 none ∈ lw_tbl := zT4 (List.mem_of_getElem? (i := 221) rfl)
theorem zw1354 : Cond.methodLink RX5 3 Lib.objectInit ∈ lw_tbl := zT4 (List.mem_of_getElem? (i := 222) rfl)
theorem zw1355 : Cond.classLink RX5 45 RX7 ∈ lw_tbl := zT4 (List.mem_of_getElem? (i := 223) rfl)
theorem zw1356 : Cond.fieldLink RX5 51 "LinkHouse$Loader" "world" "LLinkHouse$World;" ∈ lw_tbl := zT4 (List.mem_of_getElem? (i := 224) rfl)
theorem zw1357 : Cond.fieldLink RX5 9 "LinkHouse$Loader" "state" "[I" ∈ lw_tbl := zT4 (List.mem_of_getElem? (i := 225) rfl)
theorem zw1359 : Cond.fieldLink RX12 616 "LinkHouse$Loader" "state" "[I" ∈ lw_tbl := zT4 (List.mem_of_getElem? (i := 227) rfl)
theorem zw1360 : Cond.fieldLink RX5 15 "LinkHouse$Loader" "failure" "[I" ∈ lw_tbl := zT4 (List.mem_of_getElem? (i := 228) rfl)
theorem zw1361 : Cond.fieldLink RX5 18 "LinkHouse$Loader" "event" "[I" ∈ lw_tbl := zT4 (List.mem_of_getElem? (i := 229) rfl)
theorem zw1363 : Cond.fieldLink RX5 61 "LinkHouse$Loader" "eventCount" "I" ∈ lw_tbl := zT4 (List.mem_of_getElem? (i := 231) rfl)
theorem zw1364 : Cond.fieldLink RX12 608 "LinkHouse$Loader" "eventCount" "I" ∈ lw_tbl := zT4 (List.mem_of_getElem? (i := 232) rfl)
theorem zw1365 : Cond.fieldLink RX5 21 "LinkHouse$Loader" "trail" "[I" ∈ lw_tbl := zT4 (List.mem_of_getElem? (i := 233) rfl)
theorem zw1366 : Cond.fieldLink RX5 65 "LinkHouse$Loader" "trailCount" "I" ∈ lw_tbl := zT4 (List.mem_of_getElem? (i := 234) rfl)
theorem zw1368 : Cond.fieldLink RX5 24 "LinkHouse$Loader" "open" "[I" ∈ lw_tbl := zT4 (List.mem_of_getElem? (i := 236) rfl)
theorem zw1369 : Cond.fieldLink RX5 27 "LinkHouse$Loader" "step" "[I" ∈ lw_tbl := zT4 (List.mem_of_getElem? (i := 237) rfl)
theorem zw1370 : Cond.fieldLink RX5 30 "LinkHouse$Loader" "linking" "[I" ∈ lw_tbl := zT4 (List.mem_of_getElem? (i := 238) rfl)
theorem zw1371 : Cond.fieldLink RX5 33 "LinkHouse$Loader" "linkStep" "[I" ∈ lw_tbl := zT4 (List.mem_of_getElem? (i := 239) rfl)
theorem zw1374 : Cond.fieldLink RX12 458 "LinkHouse$Loader" "found" "LLinkHouse$Member;" ∈ lw_tbl := zT5 (List.mem_of_getElem? (i := 2) rfl)
theorem zw1381 : Cond.fieldLink RX5 36 "LinkHouse$Loader" "looked" "[I" ∈ lw_tbl := zT5 (List.mem_of_getElem? (i := 9) rfl)
theorem zw1384 : Cond.fieldLink RX12 465 "LinkHouse$Loader" "lookedCount" "I" ∈ lw_tbl := zT5 (List.mem_of_getElem? (i := 12) rfl)
theorem zw1385 : Cond.fieldLink RX5 39 "LinkHouse$Loader" "useFrom" "[I" ∈ lw_tbl := zT5 (List.mem_of_getElem? (i := 13) rfl)
theorem zw1386 : Cond.fieldLink RX5 42 "LinkHouse$Loader" "asked" "[I" ∈ lw_tbl := zT5 (List.mem_of_getElem? (i := 14) rfl)
theorem zw1387 : Cond.fieldLink RX5 47 "LinkHouse$Loader" "askedMember" "[LLinkHouse$Member;" ∈ lw_tbl := zT5 (List.mem_of_getElem? (i := 15) rfl)
theorem zw1429 : Cond.classLink RX12 89 RX2 ∈ lw_tbl := zT5 (List.mem_of_getElem? (i := 57) rfl)
theorem zw1430 : Cond.instantiable RX2 10 ∈ lw_tbl := zT5 (List.mem_of_getElem? (i := 58) rfl)
theorem zw1431 : Cond.methodLinkNest RX12 91 yX2_init "LinkHouse" ∈ lw_tbl := zT5 (List.mem_of_getElem? (i := 59) rfl)
theorem zw1432 : Cond.instanceMethod yX2_init ∈ lw_tbl := zT5 (List.mem_of_getElem? (i := 60) rfl)
theorem zw1433 : Cond.code yX2_init cX2_init 1 none ∈ lw_tbl := zT5 (List.mem_of_getElem? (i := 61) rfl)
theorem zw1434 : Cond.methodLink RX2 3 Lib.objectInit ∈ lw_tbl := zT5 (List.mem_of_getElem? (i := 62) rfl)
theorem zw1438 : Cond.fieldLink RX2 11 "LinkHouse$Differ" "list" "[I" ∈ lw_tbl := zT5 (List.mem_of_getElem? (i := 66) rfl)
theorem zw1441 : Cond.fieldLink RX12 503 "LinkHouse$Differ" "count" "I" ∈ lw_tbl := zT5 (List.mem_of_getElem? (i := 69) rfl)
theorem zw1446 : Cond.fieldLink RX2 15 "LinkHouse$Differ" "tokensA" "[I" ∈ lw_tbl := zT5 (List.mem_of_getElem? (i := 74) rfl)
theorem zw1447 : Cond.fieldLink RX2 18 "LinkHouse$Differ" "tokensB" "[I" ∈ lw_tbl := zT5 (List.mem_of_getElem? (i := 75) rfl)
theorem zw1469 : Cond.classLink RX12 96 RX6 ∈ lw_tbl := zT5 (List.mem_of_getElem? (i := 97) rfl)
theorem zw1470 : Cond.instantiable RX6 20 ∈ lw_tbl := zT5 (List.mem_of_getElem? (i := 98) rfl)
theorem zw1471 : Cond.methodLinkNest RX12 98 yX6_init "LinkHouse" ∈ lw_tbl := zT5 (List.mem_of_getElem? (i := 99) rfl)
theorem zw1472 : Cond.instanceMethod yX6_init ∈ lw_tbl := zT5 (List.mem_of_getElem? (i := 100) rfl)
theorem zw1473 : Cond.code yX6_init cX6_init 1 none ∈ lw_tbl := zT5 (List.mem_of_getElem? (i := 101) rfl)
theorem zw1474 : Cond.methodLink RX6 3 Lib.objectInit ∈ lw_tbl := zT5 (List.mem_of_getElem? (i := 102) rfl)
theorem zw1475 : Cond.classLink RX6 9 RX5 ∈ lw_tbl := zT5 (List.mem_of_getElem? (i := 103) rfl)
theorem zw1476 : Cond.methodLink RX6 11 yX5_init ∈ lw_tbl := zT5 (List.mem_of_getElem? (i := 104) rfl)
theorem zw1477 : Cond.classLink RX6 24 "[[I" ∈ lw_tbl := zT5 (List.mem_of_getElem? (i := 105) rfl)
theorem zw1479 : Cond.fieldLink RX6 47 "LinkHouse$Machine" "world" "LLinkHouse$World;" ∈ lw_tbl := zT5 (List.mem_of_getElem? (i := 107) rfl)
theorem zw1480 : Cond.fieldLink RX6 14 "LinkHouse$Machine" "loader" "LLinkHouse$Loader;" ∈ lw_tbl := zT5 (List.mem_of_getElem? (i := 108) rfl)
theorem zw1481 : Cond.fieldLink RX12 555 "LinkHouse$Machine" "loader" "LLinkHouse$Loader;" ∈ lw_tbl := zT5 (List.mem_of_getElem? (i := 109) rfl)
theorem zw1482 : Cond.fieldLink RX6 20 "LinkHouse$Machine" "stack" "[I" ∈ lw_tbl := zT5 (List.mem_of_getElem? (i := 110) rfl)
theorem zw1484 : Cond.fieldLink RX6 26 "LinkHouse$Machine" "frame" "[[I" ∈ lw_tbl := zT5 (List.mem_of_getElem? (i := 112) rfl)
theorem zw1487 : Cond.fieldLink RX6 29 "LinkHouse$Machine" "handler" "[I" ∈ lw_tbl := zT5 (List.mem_of_getElem? (i := 115) rfl)
theorem zw1489 : Cond.fieldLink RX6 32 "LinkHouse$Machine" "objectClass" "[I" ∈ lw_tbl := zT5 (List.mem_of_getElem? (i := 117) rfl)
theorem zw1491 : Cond.fieldLink RX6 35 "LinkHouse$Machine" "objectFrom" "[I" ∈ lw_tbl := zT5 (List.mem_of_getElem? (i := 119) rfl)
theorem zw1493 : Cond.fieldLink RX6 55 "LinkHouse$Machine" "objects" "I" ∈ lw_tbl := zT5 (List.mem_of_getElem? (i := 121) rfl)
theorem zw1494 : Cond.fieldLink RX12 602 "LinkHouse$Machine" "objects" "I" ∈ lw_tbl := zT5 (List.mem_of_getElem? (i := 122) rfl)
theorem zw1495 : Cond.fieldLink RX6 38 "LinkHouse$Machine" "field" "[I" ∈ lw_tbl := zT5 (List.mem_of_getElem? (i := 123) rfl)
theorem zw1497 : Cond.fieldLink RX6 59 "LinkHouse$Machine" "fields" "I" ∈ lw_tbl := zT5 (List.mem_of_getElem? (i := 125) rfl)
theorem zw1498 : Cond.fieldLink RX12 605 "LinkHouse$Machine" "fields" "I" ∈ lw_tbl := zT5 (List.mem_of_getElem? (i := 126) rfl)
theorem zw1499 : Cond.fieldLink RX6 41 "LinkHouse$Machine" "statics" "[I" ∈ lw_tbl := zT5 (List.mem_of_getElem? (i := 127) rfl)
theorem zw1501 : Cond.fieldLink RX12 596 "LinkHouse$Machine" "steps" "I" ∈ lw_tbl := zT5 (List.mem_of_getElem? (i := 129) rfl)
theorem zw1502 : Cond.fieldLink RX6 44 "LinkHouse$Machine" "out" "[I" ∈ lw_tbl := zT5 (List.mem_of_getElem? (i := 130) rfl)
theorem zw1505 : Cond.fieldLink RX12 599 "LinkHouse$Machine" "outs" "I" ∈ lw_tbl := zT5 (List.mem_of_getElem? (i := 133) rfl)
theorem zw1509 : Cond.fieldLink RX12 587 "LinkHouse$Machine" "thrown" "I" ∈ lw_tbl := zT5 (List.mem_of_getElem? (i := 137) rfl)
theorem zw1511 : Cond.fieldLink RX12 593 "LinkHouse$Machine" "given" "I" ∈ lw_tbl := zT5 (List.mem_of_getElem? (i := 139) rfl)
theorem zw1553 : Cond.methodLink RX12 103 yX1_init ∈ lw_tbl := zT5 (List.mem_of_getElem? (i := 181) rfl)
theorem zw1554 : Cond.methodLink RX12 106 yJ7_fill_53178 ∈ lw_tbl := zT5 (List.mem_of_getElem? (i := 182) rfl)
theorem zw1555 : Cond.methodLink RX12 112 yX12_gather ∈ lw_tbl := zT5 (List.mem_of_getElem? (i := 183) rfl)
theorem zw1557 : Cond.instanceMethod yX12_gather ∈ lw_tbl := zT5 (List.mem_of_getElem? (i := 185) rfl)
theorem zw1558 : Cond.code yX12_gather cX12_gather 4 none ∈ lw_tbl := zT5 (List.mem_of_getElem? (i := 186) rfl)
theorem zw1559 : Cond.methodLink RX12 172 yX11_clear ∈ lw_tbl := zT5 (List.mem_of_getElem? (i := 187) rfl)
theorem zw1560 : Cond.instanceMethod yX11_clear ∈ lw_tbl := zT5 (List.mem_of_getElem? (i := 188) rfl)
theorem zw1561 : Cond.selects RX11 yX11_clear yX11_clear ∈ lw_tbl := zT5 (List.mem_of_getElem? (i := 189) rfl)
theorem zw1562 : Cond.code yX11_clear cX11_clear 1 none ∈ lw_tbl := zT5 (List.mem_of_getElem? (i := 190) rfl)
theorem zw1563 : Cond.methodLink RX12 139 yX12_buildOf ∈ lw_tbl := zT5 (List.mem_of_getElem? (i := 191) rfl)
theorem zw1565 : Cond.instanceMethod yX12_buildOf ∈ lw_tbl := zT5 (List.mem_of_getElem? (i := 193) rfl)
theorem zw1566 : Cond.code yX12_buildOf cX12_buildOf 5 (some (.object "LinkHouse$Build")) ∈ lw_tbl := zT5 (List.mem_of_getElem? (i := 194) rfl)
theorem zw1567 : Cond.methodLink RX12 149 yX12_allBuilt ∈ lw_tbl := zT5 (List.mem_of_getElem? (i := 195) rfl)
theorem zw1569 : Cond.instanceMethod yX12_allBuilt ∈ lw_tbl := zT5 (List.mem_of_getElem? (i := 197) rfl)
theorem zw1570 : Cond.code yX12_allBuilt cX12_allBuilt 3 (some .int) ∈ lw_tbl := zT5 (List.mem_of_getElem? (i := 198) rfl)
theorem zw1571 : Cond.methodLink RX12 174 yX11_enter ∈ lw_tbl := zT5 (List.mem_of_getElem? (i := 199) rfl)
theorem zw1572 : Cond.instanceMethod yX11_enter ∈ lw_tbl := zT5 (List.mem_of_getElem? (i := 200) rfl)
theorem zw1573 : Cond.selects RX11 yX11_enter yX11_enter ∈ lw_tbl := zT5 (List.mem_of_getElem? (i := 201) rfl)
theorem zw1574 : Cond.code yX11_enter cX11_enter 5 none ∈ lw_tbl := zT5 (List.mem_of_getElem? (i := 202) rfl)
theorem zw1575 : Cond.methodLink RX12 178 yX11_settle ∈ lw_tbl := zT5 (List.mem_of_getElem? (i := 203) rfl)
theorem zw1576 : Cond.instanceMethod yX11_settle ∈ lw_tbl := zT5 (List.mem_of_getElem? (i := 204) rfl)
theorem zw1577 : Cond.selects RX11 yX11_settle yX11_settle ∈ lw_tbl := zT5 (List.mem_of_getElem? (i := 205) rfl)
theorem zw1578 : Cond.code yX11_settle cX11_settle 5 none ∈ lw_tbl := zT5 (List.mem_of_getElem? (i := 206) rfl)
theorem zw1579 : Cond.methodLink RX11 134 yX11_find ∈ lw_tbl := zT5 (List.mem_of_getElem? (i := 207) rfl)
theorem zw1580 : Cond.instanceMethod yX11_find ∈ lw_tbl := zT5 (List.mem_of_getElem? (i := 208) rfl)
theorem zw1581 : Cond.selects RX11 yX11_find yX11_find ∈ lw_tbl := zT5 (List.mem_of_getElem? (i := 209) rfl)
theorem zw1582 : Cond.code yX11_find cX11_find 4 (some .int) ∈ lw_tbl := zT5 (List.mem_of_getElem? (i := 210) rfl)
theorem zw1587 : Cond.methodLink RX11 145 yX11_bars ∈ lw_tbl := zT5 (List.mem_of_getElem? (i := 215) rfl)
theorem zw1589 : Cond.instanceMethod yX11_bars ∈ lw_tbl := zT5 (List.mem_of_getElem? (i := 217) rfl)
theorem zw1590 : Cond.code yX11_bars cX11_bars 5 (some .int) ∈ lw_tbl := zT5 (List.mem_of_getElem? (i := 218) rfl)
theorem zw1595 : Cond.methodLink RX11 156 yX11_close ∈ lw_tbl := zT5 (List.mem_of_getElem? (i := 223) rfl)
theorem zw1597 : Cond.instanceMethod yX11_close ∈ lw_tbl := zT5 (List.mem_of_getElem? (i := 225) rfl)
theorem zw1598 : Cond.code yX11_close cX11_close 7 none ∈ lw_tbl := zT5 (List.mem_of_getElem? (i := 226) rfl)
theorem zw1599 : Cond.methodLink RX12 116 yX6_clear ∈ lw_tbl := zT5 (List.mem_of_getElem? (i := 227) rfl)
theorem zw1600 : Cond.instanceMethod yX6_clear ∈ lw_tbl := zT5 (List.mem_of_getElem? (i := 228) rfl)
theorem zw1601 : Cond.selects RX6 yX6_clear yX6_clear ∈ lw_tbl := zT5 (List.mem_of_getElem? (i := 229) rfl)
theorem zw1602 : Cond.code yX6_clear cX6_clear 2 none ∈ lw_tbl := zT5 (List.mem_of_getElem? (i := 230) rfl)
theorem zw1603 : Cond.methodLink RX6 51 yX5_clear ∈ lw_tbl := zT5 (List.mem_of_getElem? (i := 231) rfl)
theorem zw1604 : Cond.instanceMethod yX5_clear ∈ lw_tbl := zT5 (List.mem_of_getElem? (i := 232) rfl)
theorem zw1605 : Cond.selects RX5 yX5_clear yX5_clear ∈ lw_tbl := zT5 (List.mem_of_getElem? (i := 233) rfl)
theorem zw1606 : Cond.code yX5_clear cX5_clear 4 none ∈ lw_tbl := zT5 (List.mem_of_getElem? (i := 234) rfl)
theorem zw1607 : Cond.methodLink RX5 55 yJ7_fill_53178 ∈ lw_tbl := zT5 (List.mem_of_getElem? (i := 235) rfl)
theorem zw1608 : Cond.methodLink RX6 62 yJ7_fill_53178 ∈ lw_tbl := zT5 (List.mem_of_getElem? (i := 236) rfl)
theorem zw1609 : Cond.fieldLink RX12 9 "LinkHouse" "tape" "[B" ∈ lw_tbl := zT5 (List.mem_of_getElem? (i := 237) rfl)
theorem zw1610 : Cond.fieldLink RX12 120 "LinkHouse" "tapeLength" "I" ∈ lw_tbl := zT5 (List.mem_of_getElem? (i := 238) rfl)
theorem zw1611 : Cond.fieldLink RX12 13 "LinkHouse" "out" "[B" ∈ lw_tbl := zT5 (List.mem_of_getElem? (i := 239) rfl)
theorem zw1612 : Cond.fieldLink RX12 146 "LinkHouse" "outLength" "I" ∈ lw_tbl := zT6 (List.mem_of_getElem? (i := 0) rfl)
theorem zw1613 : Cond.fieldLink RX12 18 "LinkHouse" "store" "[LLinkHouse$Build;" ∈ lw_tbl := zT6 (List.mem_of_getElem? (i := 1) rfl)
theorem zw1614 : Cond.fieldLink RX12 22 "LinkHouse" "built" "[I" ∈ lw_tbl := zT6 (List.mem_of_getElem? (i := 2) rfl)
theorem zw1615 : Cond.fieldLink RX12 26 "LinkHouse" "standing" "[I" ∈ lw_tbl := zT6 (List.mem_of_getElem? (i := 3) rfl)
theorem zw1616 : Cond.fieldLink RX12 29 "LinkHouse" "trial" "[I" ∈ lw_tbl := zT6 (List.mem_of_getElem? (i := 4) rfl)
theorem zw1617 : Cond.fieldLink RX12 35 "LinkHouse" "reader" "LLinkHouse$Reader;" ∈ lw_tbl := zT6 (List.mem_of_getElem? (i := 5) rfl)
theorem zw1618 : Cond.fieldLink RX12 42 "LinkHouse" "judge" "LLinkHouse$Judge;" ∈ lw_tbl := zT6 (List.mem_of_getElem? (i := 6) rfl)
theorem zw1619 : Cond.fieldLink RX12 49 "LinkHouse" "bodies" "LLinkHouse$Bodies;" ∈ lw_tbl := zT6 (List.mem_of_getElem? (i := 7) rfl)
theorem zw1620 : Cond.fieldLink RX12 56 "LinkHouse" "emitter" "LLinkHouse$Emitter;" ∈ lw_tbl := zT6 (List.mem_of_getElem? (i := 8) rfl)
theorem zw1621 : Cond.fieldLink RX12 60 "LinkHouse" "faultPlace" "I" ∈ lw_tbl := zT6 (List.mem_of_getElem? (i := 9) rfl)
theorem zw1622 : Cond.fieldLink RX12 67 "LinkHouse" "world" "LLinkHouse$World;" ∈ lw_tbl := zT6 (List.mem_of_getElem? (i := 10) rfl)
theorem zw1623 : Cond.fieldLink RX12 71 "LinkHouse" "spare" "LLinkHouse$World;" ∈ lw_tbl := zT6 (List.mem_of_getElem? (i := 11) rfl)
theorem zw1624 : Cond.fieldLink RX12 79 "LinkHouse" "meeter" "LLinkHouse$Loader;" ∈ lw_tbl := zT6 (List.mem_of_getElem? (i := 12) rfl)
theorem zw1625 : Cond.fieldLink RX12 83 "LinkHouse" "checker" "LLinkHouse$Loader;" ∈ lw_tbl := zT6 (List.mem_of_getElem? (i := 13) rfl)
theorem zw1626 : Cond.fieldLink RX12 86 "LinkHouse" "lost" "[I" ∈ lw_tbl := zT6 (List.mem_of_getElem? (i := 14) rfl)
theorem zw1627 : Cond.fieldLink RX12 225 "LinkHouse" "lostCount" "I" ∈ lw_tbl := zT6 (List.mem_of_getElem? (i := 15) rfl)
theorem zw1628 : Cond.fieldLink RX12 92 "LinkHouse" "differ" "LLinkHouse$Differ;" ∈ lw_tbl := zT6 (List.mem_of_getElem? (i := 16) rfl)
theorem zw1629 : Cond.fieldLink RX12 99 "LinkHouse" "machine" "LLinkHouse$Machine;" ∈ lw_tbl := zT6 (List.mem_of_getElem? (i := 17) rfl)
theorem zw1673 : Cond.methodLink R_law 13 yX12_feed ∈ lw_tbl := zT6 (List.mem_of_getElem? (i := 61) rfl)
theorem zw1674 : Cond.instanceMethod yX12_feed ∈ lw_tbl := zT6 (List.mem_of_getElem? (i := 62) rfl)
theorem zw1675 : Cond.selects RX12 yX12_feed yX12_feed ∈ lw_tbl := zT6 (List.mem_of_getElem? (i := 63) rfl)
theorem zw1676 : Cond.code yX12_feed cX12_feed 6 (some .int) ∈ lw_tbl := zT6 (List.mem_of_getElem? (i := 64) rfl)
theorem zw1677 : Cond.methodLink RX12 123 yX12_fourBytes ∈ lw_tbl := zT6 (List.mem_of_getElem? (i := 65) rfl)
theorem zw1679 : Cond.instanceMethod yX12_fourBytes ∈ lw_tbl := zT6 (List.mem_of_getElem? (i := 67) rfl)
theorem zw1680 : Cond.code yX12_fourBytes cX12_fourBytes 3 none ∈ lw_tbl := zT6 (List.mem_of_getElem? (i := 68) rfl)
theorem zw1681 : Cond.methodLink R_law 18 yX12_cut ∈ lw_tbl := zT6 (List.mem_of_getElem? (i := 69) rfl)
theorem zw1682 : Cond.instanceMethod yX12_cut ∈ lw_tbl := zT6 (List.mem_of_getElem? (i := 70) rfl)
theorem zw1683 : Cond.selects RX12 yX12_cut yX12_cut ∈ lw_tbl := zT6 (List.mem_of_getElem? (i := 71) rfl)
theorem zw1684 : Cond.code yX12_cut cX12_cut 2 (some .int) ∈ lw_tbl := zT6 (List.mem_of_getElem? (i := 72) rfl)
theorem zw1685 : Cond.methodLink R_law 23 yX12_splice ∈ lw_tbl := zT6 (List.mem_of_getElem? (i := 73) rfl)
theorem zw1686 : Cond.instanceMethod yX12_splice ∈ lw_tbl := zT6 (List.mem_of_getElem? (i := 74) rfl)
theorem zw1687 : Cond.selects RX12 yX12_splice yX12_splice ∈ lw_tbl := zT6 (List.mem_of_getElem? (i := 75) rfl)
theorem zw1688 : Cond.code yX12_splice cX12_splice 6 (some .int) ∈ lw_tbl := zT6 (List.mem_of_getElem? (i := 76) rfl)
theorem zw1689 : Cond.methodLink RX12 126 yX12_unused ∈ lw_tbl := zT6 (List.mem_of_getElem? (i := 77) rfl)
theorem zw1691 : Cond.instanceMethod yX12_unused ∈ lw_tbl := zT6 (List.mem_of_getElem? (i := 79) rfl)
theorem zw1692 : Cond.code yX12_unused cX12_unused 1 (some (.object "LinkHouse$Build")) ∈ lw_tbl := zT6 (List.mem_of_getElem? (i := 80) rfl)
theorem zw1693 : Cond.methodLink RX12 159 yJ9_min_7cf53 ∈ lw_tbl := zT6 (List.mem_of_getElem? (i := 81) rfl)
theorem zw1694 : Cond.static yJ9_min_7cf53 ∈ lw_tbl := zT6 (List.mem_of_getElem? (i := 82) rfl)
theorem zw1695 : Cond.code yJ9_min_7cf53 cJ9_min_7cf53 2 (some .int) ∈ lw_tbl := zT6 (List.mem_of_getElem? (i := 83) rfl)
theorem zw1696 : Cond.methodLink RX12 133 arraycopyName ∈ lw_tbl := zT6 (List.mem_of_getElem? (i := 84) rfl)
theorem zw1697 : Cond.static arraycopyName ∈ lw_tbl := zT6 (List.mem_of_getElem? (i := 85) rfl)
theorem zw1698 : Cond.native arraycopyName ∈ lw_tbl := zT6 (List.mem_of_getElem? (i := 86) rfl)
theorem zw1699 : Cond.methodLink R_law 28 yX12_text ∈ lw_tbl := zT6 (List.mem_of_getElem? (i := 87) rfl)
theorem zw1700 : Cond.instanceMethod yX12_text ∈ lw_tbl := zT6 (List.mem_of_getElem? (i := 88) rfl)
theorem zw1701 : Cond.selects RX12 yX12_text yX12_text ∈ lw_tbl := zT6 (List.mem_of_getElem? (i := 89) rfl)
theorem zw1702 : Cond.code yX12_text cX12_text 4 (some .int) ∈ lw_tbl := zT6 (List.mem_of_getElem? (i := 90) rfl)
theorem zw1703 : Cond.methodLink R_law 33 yX12_size ∈ lw_tbl := zT6 (List.mem_of_getElem? (i := 91) rfl)
theorem zw1704 : Cond.instanceMethod yX12_size ∈ lw_tbl := zT6 (List.mem_of_getElem? (i := 92) rfl)
theorem zw1705 : Cond.selects RX12 yX12_size yX12_size ∈ lw_tbl := zT6 (List.mem_of_getElem? (i := 93) rfl)
theorem zw1706 : Cond.code yX12_size cX12_size 1 (some .int) ∈ lw_tbl := zT6 (List.mem_of_getElem? (i := 94) rfl)
theorem zw1707 : Cond.methodLink R_law 38 yX12_octet ∈ lw_tbl := zT6 (List.mem_of_getElem? (i := 95) rfl)
theorem zw1708 : Cond.instanceMethod yX12_octet ∈ lw_tbl := zT6 (List.mem_of_getElem? (i := 96) rfl)
theorem zw1709 : Cond.selects RX12 yX12_octet yX12_octet ∈ lw_tbl := zT6 (List.mem_of_getElem? (i := 97) rfl)
theorem zw1710 : Cond.code yX12_octet cX12_octet 2 (some .int) ∈ lw_tbl := zT6 (List.mem_of_getElem? (i := 98) rfl)
theorem zw1711 : Cond.methodLink R_law 42 yX12_make ∈ lw_tbl := zT6 (List.mem_of_getElem? (i := 99) rfl)
theorem zw1712 : Cond.instanceMethod yX12_make ∈ lw_tbl := zT6 (List.mem_of_getElem? (i := 100) rfl)
theorem zw1713 : Cond.selects RX12 yX12_make yX12_make ∈ lw_tbl := zT6 (List.mem_of_getElem? (i := 101) rfl)
theorem zw1714 : Cond.code yX12_make cX12_make 5 (some .int) ∈ lw_tbl := zT6 (List.mem_of_getElem? (i := 102) rfl)
theorem zw1715 : Cond.methodLink RX12 181 yX12_isLibrary ∈ lw_tbl := zT6 (List.mem_of_getElem? (i := 103) rfl)
theorem zw1716 : Cond.static yX12_isLibrary ∈ lw_tbl := zT6 (List.mem_of_getElem? (i := 104) rfl)
theorem zw1717 : Cond.code yX12_isLibrary cX12_isLibrary 1 (some .boolean) ∈ lw_tbl := zT6 (List.mem_of_getElem? (i := 105) rfl)
theorem zw1718 : Cond.methodLink RX12 185 yX12_isFull ∈ lw_tbl := zT6 (List.mem_of_getElem? (i := 106) rfl)
theorem zw1720 : Cond.instanceMethod yX12_isFull ∈ lw_tbl := zT6 (List.mem_of_getElem? (i := 108) rfl)
theorem zw1721 : Cond.code yX12_isFull cX12_isFull 2 (some .boolean) ∈ lw_tbl := zT6 (List.mem_of_getElem? (i := 109) rfl)
theorem zw1722 : Cond.methodLink RX12 188 yX9_read ∈ lw_tbl := zT6 (List.mem_of_getElem? (i := 110) rfl)
theorem zw1723 : Cond.instanceMethod yX9_read ∈ lw_tbl := zT6 (List.mem_of_getElem? (i := 111) rfl)
theorem zw1724 : Cond.selects RX9 yX9_read yX9_read ∈ lw_tbl := zT6 (List.mem_of_getElem? (i := 112) rfl)
theorem zw1725 : Cond.code yX9_read cX9_read 7 (some .boolean) ∈ lw_tbl := zT6 (List.mem_of_getElem? (i := 113) rfl)
theorem zw1726 : Cond.methodLink RX9 55 yX1_clear ∈ lw_tbl := zT6 (List.mem_of_getElem? (i := 114) rfl)
theorem zw1727 : Cond.instanceMethod yX1_clear ∈ lw_tbl := zT6 (List.mem_of_getElem? (i := 115) rfl)
theorem zw1728 : Cond.selects RX1 yX1_clear yX1_clear ∈ lw_tbl := zT6 (List.mem_of_getElem? (i := 116) rfl)
theorem zw1729 : Cond.code yX1_clear cX1_clear 1 none ∈ lw_tbl := zT6 (List.mem_of_getElem? (i := 117) rfl)
theorem zw1730 : Cond.methodLink RX9 70 yX9_scanAll ∈ lw_tbl := zT6 (List.mem_of_getElem? (i := 118) rfl)
theorem zw1732 : Cond.instanceMethod yX9_scanAll ∈ lw_tbl := zT6 (List.mem_of_getElem? (i := 120) rfl)
theorem zw1733 : Cond.code yX9_scanAll cX9_scanAll 5 none ∈ lw_tbl := zT6 (List.mem_of_getElem? (i := 121) rfl)
theorem zw1734 : Cond.methodLink RX9 117 yX9_scan ∈ lw_tbl := zT6 (List.mem_of_getElem? (i := 122) rfl)
theorem zw1736 : Cond.instanceMethod yX9_scan ∈ lw_tbl := zT6 (List.mem_of_getElem? (i := 124) rfl)
theorem zw1737 : Cond.code yX9_scan cX9_scan 6 (some .int) ∈ lw_tbl := zT6 (List.mem_of_getElem? (i := 125) rfl)
theorem zw1750 : Cond.methodLink RX9 74 yX9_now ∈ lw_tbl := zT6 (List.mem_of_getElem? (i := 138) rfl)
theorem zw1752 : Cond.instanceMethod yX9_now ∈ lw_tbl := zT6 (List.mem_of_getElem? (i := 140) rfl)
theorem zw1753 : Cond.code yX9_now cX9_now 1 (some .int) ∈ lw_tbl := zT6 (List.mem_of_getElem? (i := 141) rfl)
theorem zw1894 : Cond.methodLink RX12 201 yX4_judge ∈ lw_tbl := zT7 (List.mem_of_getElem? (i := 42) rfl)
theorem zw1895 : Cond.instanceMethod yX4_judge ∈ lw_tbl := zT7 (List.mem_of_getElem? (i := 43) rfl)
theorem zw1896 : Cond.selects RX4 yX4_judge yX4_judge ∈ lw_tbl := zT7 (List.mem_of_getElem? (i := 44) rfl)
theorem zw1897 : Cond.code yX4_judge cX4_judge 6 (some .boolean) ∈ lw_tbl := zT7 (List.mem_of_getElem? (i := 45) rfl)
theorem zw2050 : Cond.methodLink RX12 206 yX0_judge ∈ lw_tbl := zT7 (List.mem_of_getElem? (i := 198) rfl)
theorem zw2051 : Cond.instanceMethod yX0_judge ∈ lw_tbl := zT7 (List.mem_of_getElem? (i := 199) rfl)
theorem zw2052 : Cond.selects RX0 yX0_judge yX0_judge ∈ lw_tbl := zT7 (List.mem_of_getElem? (i := 200) rfl)
theorem zw2053 : Cond.code yX0_judge cX0_judge 7 (some .boolean) ∈ lw_tbl := zT7 (List.mem_of_getElem? (i := 201) rfl)
theorem zw2185 : Cond.static yJ9_max_7cf53 ∈ lw_tbl := zT8 (List.mem_of_getElem? (i := 93) rfl)
theorem zw2186 : Cond.code yJ9_max_7cf53 cJ9_max_7cf53 2 (some .int) ∈ lw_tbl := zT8 (List.mem_of_getElem? (i := 94) rfl)
theorem zw2225 : Cond.methodLink RX12 209 yX3_write ∈ lw_tbl := zT8 (List.mem_of_getElem? (i := 133) rfl)
theorem zw2226 : Cond.instanceMethod yX3_write ∈ lw_tbl := zT8 (List.mem_of_getElem? (i := 134) rfl)
theorem zw2227 : Cond.selects RX3 yX3_write yX3_write ∈ lw_tbl := zT8 (List.mem_of_getElem? (i := 135) rfl)
theorem zw2228 : Cond.code yX3_write cX3_write 7 none ∈ lw_tbl := zT8 (List.mem_of_getElem? (i := 136) rfl)
theorem zw2336 : Cond.methodLink RX12 213 yX9_keep ∈ lw_tbl := zT9 (List.mem_of_getElem? (i := 4) rfl)
theorem zw2337 : Cond.instanceMethod yX9_keep ∈ lw_tbl := zT9 (List.mem_of_getElem? (i := 5) rfl)
theorem zw2338 : Cond.selects RX9 yX9_keep yX9_keep ∈ lw_tbl := zT9 (List.mem_of_getElem? (i := 6) rfl)
theorem zw2339 : Cond.code yX9_keep cX9_keep 1 none ∈ lw_tbl := zT9 (List.mem_of_getElem? (i := 7) rfl)
theorem zw2340 : Cond.methodLink RX9 122 yJ9_min_7cf53 ∈ lw_tbl := zT9 (List.mem_of_getElem? (i := 8) rfl)
theorem zw2341 : Cond.methodLink RX9 128 arraycopyName ∈ lw_tbl := zT9 (List.mem_of_getElem? (i := 9) rfl)
theorem zw2342 : Cond.methodLink RX12 216 yX12_keep ∈ lw_tbl := zT9 (List.mem_of_getElem? (i := 10) rfl)
theorem zw2344 : Cond.instanceMethod yX12_keep ∈ lw_tbl := zT9 (List.mem_of_getElem? (i := 12) rfl)
theorem zw2345 : Cond.code yX12_keep cX12_keep 3 (some .int) ∈ lw_tbl := zT9 (List.mem_of_getElem? (i := 13) rfl)
theorem zw2346 : Cond.methodLink R_law 46 yX12_place ∈ lw_tbl := zT9 (List.mem_of_getElem? (i := 14) rfl)
theorem zw2347 : Cond.instanceMethod yX12_place ∈ lw_tbl := zT9 (List.mem_of_getElem? (i := 15) rfl)
theorem zw2348 : Cond.selects RX12 yX12_place yX12_place ∈ lw_tbl := zT9 (List.mem_of_getElem? (i := 16) rfl)
theorem zw2349 : Cond.code yX12_place cX12_place 1 (some .int) ∈ lw_tbl := zT9 (List.mem_of_getElem? (i := 17) rfl)
theorem zw2350 : Cond.methodLink R_law 50 yX12_builds ∈ lw_tbl := zT9 (List.mem_of_getElem? (i := 18) rfl)
theorem zw2351 : Cond.instanceMethod yX12_builds ∈ lw_tbl := zT9 (List.mem_of_getElem? (i := 19) rfl)
theorem zw2352 : Cond.selects RX12 yX12_builds yX12_builds ∈ lw_tbl := zT9 (List.mem_of_getElem? (i := 20) rfl)
theorem zw2353 : Cond.code yX12_builds cX12_builds 2 (some .int) ∈ lw_tbl := zT9 (List.mem_of_getElem? (i := 21) rfl)
theorem zw2354 : Cond.methodLink R_law 54 yX12_pick ∈ lw_tbl := zT9 (List.mem_of_getElem? (i := 22) rfl)
theorem zw2355 : Cond.instanceMethod yX12_pick ∈ lw_tbl := zT9 (List.mem_of_getElem? (i := 23) rfl)
theorem zw2356 : Cond.selects RX12 yX12_pick yX12_pick ∈ lw_tbl := zT9 (List.mem_of_getElem? (i := 24) rfl)
theorem zw2357 : Cond.code yX12_pick cX12_pick 4 (some .int) ∈ lw_tbl := zT9 (List.mem_of_getElem? (i := 25) rfl)
theorem zw2358 : Cond.methodLink RX12 222 yX12_renewWorld ∈ lw_tbl := zT9 (List.mem_of_getElem? (i := 26) rfl)
theorem zw2360 : Cond.instanceMethod yX12_renewWorld ∈ lw_tbl := zT9 (List.mem_of_getElem? (i := 28) rfl)
theorem zw2361 : Cond.code yX12_renewWorld cX12_renewWorld 1 none ∈ lw_tbl := zT9 (List.mem_of_getElem? (i := 29) rfl)
theorem zw2362 : Cond.methodLink R_law 58 yX12_picked ∈ lw_tbl := zT9 (List.mem_of_getElem? (i := 30) rfl)
theorem zw2363 : Cond.instanceMethod yX12_picked ∈ lw_tbl := zT9 (List.mem_of_getElem? (i := 31) rfl)
theorem zw2364 : Cond.selects RX12 yX12_picked yX12_picked ∈ lw_tbl := zT9 (List.mem_of_getElem? (i := 32) rfl)
theorem zw2365 : Cond.code yX12_picked cX12_picked 2 (some .int) ∈ lw_tbl := zT9 (List.mem_of_getElem? (i := 33) rfl)
theorem zw2366 : Cond.methodLink R_law 62 yX12_classes ∈ lw_tbl := zT9 (List.mem_of_getElem? (i := 34) rfl)
theorem zw2367 : Cond.instanceMethod yX12_classes ∈ lw_tbl := zT9 (List.mem_of_getElem? (i := 35) rfl)
theorem zw2368 : Cond.selects RX12 yX12_classes yX12_classes ∈ lw_tbl := zT9 (List.mem_of_getElem? (i := 36) rfl)
theorem zw2369 : Cond.code yX12_classes cX12_classes 4 (some .int) ∈ lw_tbl := zT9 (List.mem_of_getElem? (i := 37) rfl)
theorem zw2370 : Cond.methodLink R_law 66 yX12_members ∈ lw_tbl := zT9 (List.mem_of_getElem? (i := 38) rfl)
theorem zw2371 : Cond.instanceMethod yX12_members ∈ lw_tbl := zT9 (List.mem_of_getElem? (i := 39) rfl)
theorem zw2372 : Cond.selects RX12 yX12_members yX12_members ∈ lw_tbl := zT9 (List.mem_of_getElem? (i := 40) rfl)
theorem zw2373 : Cond.code yX12_members cX12_members 5 (some .int) ∈ lw_tbl := zT9 (List.mem_of_getElem? (i := 41) rfl)
theorem zw2374 : Cond.methodLink RX12 228 yX12_rowOf ∈ lw_tbl := zT9 (List.mem_of_getElem? (i := 42) rfl)
theorem zw2376 : Cond.instanceMethod yX12_rowOf ∈ lw_tbl := zT9 (List.mem_of_getElem? (i := 44) rfl)
theorem zw2377 : Cond.code yX12_rowOf cX12_rowOf 5 (some (.object "LinkHouse$Row")) ∈ lw_tbl := zT9 (List.mem_of_getElem? (i := 45) rfl)
theorem zw2378 : Cond.methodLink R_law 70 yX12_shape ∈ lw_tbl := zT9 (List.mem_of_getElem? (i := 46) rfl)
theorem zw2379 : Cond.instanceMethod yX12_shape ∈ lw_tbl := zT9 (List.mem_of_getElem? (i := 47) rfl)
theorem zw2380 : Cond.selects RX12 yX12_shape yX12_shape ∈ lw_tbl := zT9 (List.mem_of_getElem? (i := 48) rfl)
theorem zw2381 : Cond.code yX12_shape cX12_shape 6 (some .int) ∈ lw_tbl := zT9 (List.mem_of_getElem? (i := 49) rfl)
theorem zw2394 : Cond.methodLink RX12 377 yX12_tellByte ∈ lw_tbl := zT9 (List.mem_of_getElem? (i := 62) rfl)
theorem zw2396 : Cond.instanceMethod yX12_tellByte ∈ lw_tbl := zT9 (List.mem_of_getElem? (i := 64) rfl)
theorem zw2397 : Cond.code yX12_tellByte cX12_tellByte 2 none ∈ lw_tbl := zT9 (List.mem_of_getElem? (i := 65) rfl)
theorem zw2402 : Cond.methodLink RX12 282 yX12_tellType ∈ lw_tbl := zT9 (List.mem_of_getElem? (i := 70) rfl)
theorem zw2404 : Cond.instanceMethod yX12_tellType ∈ lw_tbl := zT9 (List.mem_of_getElem? (i := 72) rfl)
theorem zw2405 : Cond.code yX12_tellType cX12_tellType 3 none ∈ lw_tbl := zT9 (List.mem_of_getElem? (i := 73) rfl)
theorem zw2406 : Cond.constantLong RX12 382 (-1) ∈ lw_tbl := zT9 (List.mem_of_getElem? (i := 74) rfl)
theorem zw2407 : Cond.constantLong RX12 384 (-3) ∈ lw_tbl := zT9 (List.mem_of_getElem? (i := 75) rfl)
theorem zw2410 : Cond.constantLong RX12 390 (31) ∈ lw_tbl := zT9 (List.mem_of_getElem? (i := 78) rfl)
theorem zw2411 : Cond.methodLink RX12 392 yX12_tellLetters ∈ lw_tbl := zT9 (List.mem_of_getElem? (i := 79) rfl)
theorem zw2413 : Cond.instanceMethod yX12_tellLetters ∈ lw_tbl := zT9 (List.mem_of_getElem? (i := 81) rfl)
theorem zw2414 : Cond.code yX12_tellLetters cX12_tellLetters 5 none ∈ lw_tbl := zT9 (List.mem_of_getElem? (i := 82) rfl)
theorem zw2415 : Cond.constantLong RX12 395 (63) ∈ lw_tbl := zT9 (List.mem_of_getElem? (i := 83) rfl)
theorem zw2454 : Cond.methodLink R_law 75 yX12_uses ∈ lw_tbl := zT9 (List.mem_of_getElem? (i := 122) rfl)
theorem zw2455 : Cond.instanceMethod yX12_uses ∈ lw_tbl := zT9 (List.mem_of_getElem? (i := 123) rfl)
theorem zw2456 : Cond.selects RX12 yX12_uses yX12_uses ∈ lw_tbl := zT9 (List.mem_of_getElem? (i := 124) rfl)
theorem zw2457 : Cond.code yX12_uses cX12_uses 4 (some .int) ∈ lw_tbl := zT9 (List.mem_of_getElem? (i := 125) rfl)
theorem zw2458 : Cond.methodLink R_law 79 yX12_use ∈ lw_tbl := zT9 (List.mem_of_getElem? (i := 126) rfl)
theorem zw2459 : Cond.instanceMethod yX12_use ∈ lw_tbl := zT9 (List.mem_of_getElem? (i := 127) rfl)
theorem zw2460 : Cond.selects RX12 yX12_use yX12_use ∈ lw_tbl := zT9 (List.mem_of_getElem? (i := 128) rfl)
theorem zw2461 : Cond.code yX12_use cX12_use 6 (some .int) ∈ lw_tbl := zT9 (List.mem_of_getElem? (i := 129) rfl)
theorem zw2462 : Cond.methodLink RX12 415 yX12_hasUse ∈ lw_tbl := zT9 (List.mem_of_getElem? (i := 130) rfl)
theorem zw2463 : Cond.static yX12_hasUse ∈ lw_tbl := zT9 (List.mem_of_getElem? (i := 131) rfl)
theorem zw2464 : Cond.code yX12_hasUse cX12_hasUse 2 (some .boolean) ∈ lw_tbl := zT9 (List.mem_of_getElem? (i := 132) rfl)
theorem zw2465 : Cond.methodLink R_law 83 yX12_tell ∈ lw_tbl := zT9 (List.mem_of_getElem? (i := 133) rfl)
theorem zw2466 : Cond.instanceMethod yX12_tell ∈ lw_tbl := zT9 (List.mem_of_getElem? (i := 134) rfl)
theorem zw2467 : Cond.selects RX12 yX12_tell yX12_tell ∈ lw_tbl := zT9 (List.mem_of_getElem? (i := 135) rfl)
theorem zw2468 : Cond.code yX12_tell cX12_tell 7 (some .int) ∈ lw_tbl := zT9 (List.mem_of_getElem? (i := 136) rfl)
theorem zw2476 : Cond.methodLink R_law 87 yX12_meet ∈ lw_tbl := zT9 (List.mem_of_getElem? (i := 144) rfl)
theorem zw2477 : Cond.instanceMethod yX12_meet ∈ lw_tbl := zT9 (List.mem_of_getElem? (i := 145) rfl)
theorem zw2478 : Cond.selects RX12 yX12_meet yX12_meet ∈ lw_tbl := zT9 (List.mem_of_getElem? (i := 146) rfl)
theorem zw2479 : Cond.code yX12_meet cX12_meet 5 (some .int) ∈ lw_tbl := zT9 (List.mem_of_getElem? (i := 147) rfl)
theorem zw2485 : Cond.methodLink RX12 451 yX5_clear ∈ lw_tbl := zT9 (List.mem_of_getElem? (i := 153) rfl)
theorem zw2554 : Cond.methodLink R_law 91 yX12_met ∈ lw_tbl := zT9 (List.mem_of_getElem? (i := 222) rfl)
theorem zw2555 : Cond.instanceMethod yX12_met ∈ lw_tbl := zT9 (List.mem_of_getElem? (i := 223) rfl)
theorem zw2556 : Cond.selects RX12 yX12_met yX12_met ∈ lw_tbl := zT9 (List.mem_of_getElem? (i := 224) rfl)
theorem zw2557 : Cond.code yX12_met cX12_met 1 (some .int) ∈ lw_tbl := zT9 (List.mem_of_getElem? (i := 225) rfl)
theorem zw2558 : Cond.methodLink R_law 95 yX12_looked ∈ lw_tbl := zT9 (List.mem_of_getElem? (i := 226) rfl)
theorem zw2559 : Cond.instanceMethod yX12_looked ∈ lw_tbl := zT9 (List.mem_of_getElem? (i := 227) rfl)
theorem zw2560 : Cond.selects RX12 yX12_looked yX12_looked ∈ lw_tbl := zT9 (List.mem_of_getElem? (i := 228) rfl)
theorem zw2561 : Cond.code yX12_looked cX12_looked 2 (some .int) ∈ lw_tbl := zT9 (List.mem_of_getElem? (i := 229) rfl)
theorem zw2562 : Cond.methodLink R_law 99 yX12_broken ∈ lw_tbl := zT9 (List.mem_of_getElem? (i := 230) rfl)
theorem zw2563 : Cond.instanceMethod yX12_broken ∈ lw_tbl := zT9 (List.mem_of_getElem? (i := 231) rfl)
theorem zw2564 : Cond.selects RX12 yX12_broken yX12_broken ∈ lw_tbl := zT9 (List.mem_of_getElem? (i := 232) rfl)
theorem zw2565 : Cond.code yX12_broken cX12_broken 1 (some .int) ∈ lw_tbl := zT9 (List.mem_of_getElem? (i := 233) rfl)
theorem zw2566 : Cond.methodLink RX12 471 yX12_countBroken ∈ lw_tbl := zT9 (List.mem_of_getElem? (i := 234) rfl)
theorem zw2568 : Cond.instanceMethod yX12_countBroken ∈ lw_tbl := zT9 (List.mem_of_getElem? (i := 236) rfl)
theorem zw2569 : Cond.code yX12_countBroken cX12_countBroken 13 (some .int) ∈ lw_tbl := zT9 (List.mem_of_getElem? (i := 237) rfl)
theorem zw2579 : Cond.methodLink R_law 103 yX12_brokenAt ∈ lw_tbl := zT10 (List.mem_of_getElem? (i := 7) rfl)
theorem zw2580 : Cond.instanceMethod yX12_brokenAt ∈ lw_tbl := zT10 (List.mem_of_getElem? (i := 8) rfl)
theorem zw2581 : Cond.selects RX12 yX12_brokenAt yX12_brokenAt ∈ lw_tbl := zT10 (List.mem_of_getElem? (i := 9) rfl)
theorem zw2582 : Cond.code yX12_brokenAt cX12_brokenAt 3 (some .int) ∈ lw_tbl := zT10 (List.mem_of_getElem? (i := 10) rfl)
theorem zw2583 : Cond.methodLink R_law 107 yX12_stale ∈ lw_tbl := zT10 (List.mem_of_getElem? (i := 11) rfl)
theorem zw2584 : Cond.instanceMethod yX12_stale ∈ lw_tbl := zT10 (List.mem_of_getElem? (i := 12) rfl)
theorem zw2585 : Cond.selects RX12 yX12_stale yX12_stale ∈ lw_tbl := zT10 (List.mem_of_getElem? (i := 13) rfl)
theorem zw2586 : Cond.code yX12_stale cX12_stale 6 (some .int) ∈ lw_tbl := zT10 (List.mem_of_getElem? (i := 14) rfl)
theorem zw2587 : Cond.methodLink R_law 111 yX12_choose ∈ lw_tbl := zT10 (List.mem_of_getElem? (i := 15) rfl)
theorem zw2588 : Cond.instanceMethod yX12_choose ∈ lw_tbl := zT10 (List.mem_of_getElem? (i := 16) rfl)
theorem zw2589 : Cond.selects RX12 yX12_choose yX12_choose ∈ lw_tbl := zT10 (List.mem_of_getElem? (i := 17) rfl)
theorem zw2590 : Cond.code yX12_choose cX12_choose 3 (some .int) ∈ lw_tbl := zT10 (List.mem_of_getElem? (i := 18) rfl)
theorem zw2591 : Cond.methodLink RX12 490 yX12_greatest ∈ lw_tbl := zT10 (List.mem_of_getElem? (i := 19) rfl)
theorem zw2593 : Cond.instanceMethod yX12_greatest ∈ lw_tbl := zT10 (List.mem_of_getElem? (i := 21) rfl)
theorem zw2594 : Cond.code yX12_greatest cX12_greatest 2 (some .int) ∈ lw_tbl := zT10 (List.mem_of_getElem? (i := 22) rfl)
theorem zw2595 : Cond.methodLink RX12 493 yJ9_max_7cf53 ∈ lw_tbl := zT10 (List.mem_of_getElem? (i := 23) rfl)
theorem zw2600 : Cond.methodLink R_law 115 yX12_differ ∈ lw_tbl := zT10 (List.mem_of_getElem? (i := 28) rfl)
theorem zw2601 : Cond.instanceMethod yX12_differ ∈ lw_tbl := zT10 (List.mem_of_getElem? (i := 29) rfl)
theorem zw2602 : Cond.selects RX12 yX12_differ yX12_differ ∈ lw_tbl := zT10 (List.mem_of_getElem? (i := 30) rfl)
theorem zw2603 : Cond.code yX12_differ cX12_differ 6 (some .int) ∈ lw_tbl := zT10 (List.mem_of_getElem? (i := 31) rfl)
theorem zw2688 : Cond.methodLink R_law 119 yX12_change ∈ lw_tbl := zT10 (List.mem_of_getElem? (i := 116) rfl)
theorem zw2689 : Cond.instanceMethod yX12_change ∈ lw_tbl := zT10 (List.mem_of_getElem? (i := 117) rfl)
theorem zw2690 : Cond.selects RX12 yX12_change yX12_change ∈ lw_tbl := zT10 (List.mem_of_getElem? (i := 118) rfl)
theorem zw2691 : Cond.code yX12_change cX12_change 3 (some .int) ∈ lw_tbl := zT10 (List.mem_of_getElem? (i := 119) rfl)
theorem zw2692 : Cond.methodLink R_law 123 yX12_word ∈ lw_tbl := zT10 (List.mem_of_getElem? (i := 120) rfl)
theorem zw2693 : Cond.instanceMethod yX12_word ∈ lw_tbl := zT10 (List.mem_of_getElem? (i := 121) rfl)
theorem zw2694 : Cond.selects RX12 yX12_word yX12_word ∈ lw_tbl := zT10 (List.mem_of_getElem? (i := 122) rfl)
theorem zw2695 : Cond.code yX12_word cX12_word 6 (some .int) ∈ lw_tbl := zT10 (List.mem_of_getElem? (i := 123) rfl)
theorem zw2696 : Cond.methodLink R_law 127 yX12_weave ∈ lw_tbl := zT10 (List.mem_of_getElem? (i := 124) rfl)
theorem zw2697 : Cond.instanceMethod yX12_weave ∈ lw_tbl := zT10 (List.mem_of_getElem? (i := 125) rfl)
theorem zw2698 : Cond.selects RX12 yX12_weave yX12_weave ∈ lw_tbl := zT10 (List.mem_of_getElem? (i := 126) rfl)
theorem zw2699 : Cond.code yX12_weave cX12_weave 15 (some .int) ∈ lw_tbl := zT10 (List.mem_of_getElem? (i := 127) rfl)
theorem zw2723 : Cond.methodLink R_law 131 yX12_fresh ∈ lw_tbl := zT10 (List.mem_of_getElem? (i := 151) rfl)
theorem zw2724 : Cond.instanceMethod yX12_fresh ∈ lw_tbl := zT10 (List.mem_of_getElem? (i := 152) rfl)
theorem zw2725 : Cond.selects RX12 yX12_fresh yX12_fresh ∈ lw_tbl := zT10 (List.mem_of_getElem? (i := 153) rfl)
theorem zw2726 : Cond.code yX12_fresh cX12_fresh 3 (some .int) ∈ lw_tbl := zT10 (List.mem_of_getElem? (i := 154) rfl)
theorem zw2731 : Cond.methodLink R_law 135 yX12_touch ∈ lw_tbl := zT10 (List.mem_of_getElem? (i := 159) rfl)
theorem zw2732 : Cond.instanceMethod yX12_touch ∈ lw_tbl := zT10 (List.mem_of_getElem? (i := 160) rfl)
theorem zw2733 : Cond.selects RX12 yX12_touch yX12_touch ∈ lw_tbl := zT10 (List.mem_of_getElem? (i := 161) rfl)
theorem zw2734 : Cond.code yX12_touch cX12_touch 5 (some .int) ∈ lw_tbl := zT10 (List.mem_of_getElem? (i := 162) rfl)
theorem zw2735 : Cond.methodLink R_law 139 yX12_run ∈ lw_tbl := zT10 (List.mem_of_getElem? (i := 163) rfl)
theorem zw2736 : Cond.instanceMethod yX12_run ∈ lw_tbl := zT10 (List.mem_of_getElem? (i := 164) rfl)
theorem zw2737 : Cond.selects RX12 yX12_run yX12_run ∈ lw_tbl := zT10 (List.mem_of_getElem? (i := 165) rfl)
theorem zw2738 : Cond.code yX12_run cX12_run 5 (some .int) ∈ lw_tbl := zT10 (List.mem_of_getElem? (i := 166) rfl)
theorem zw2739 : Cond.methodLink RX12 561 yX9_isCall ∈ lw_tbl := zT10 (List.mem_of_getElem? (i := 167) rfl)
theorem zw2740 : Cond.instanceMethod yX9_isCall ∈ lw_tbl := zT10 (List.mem_of_getElem? (i := 168) rfl)
theorem zw2741 : Cond.selects RX9 yX9_isCall yX9_isCall ∈ lw_tbl := zT10 (List.mem_of_getElem? (i := 169) rfl)
theorem zw2742 : Cond.code yX9_isCall cX9_isCall 3 (some .boolean) ∈ lw_tbl := zT10 (List.mem_of_getElem? (i := 170) rfl)
theorem zw2874 : Cond.methodLink R_law 143 yX12_value ∈ lw_tbl := zT11 (List.mem_of_getElem? (i := 62) rfl)
theorem zw2875 : Cond.instanceMethod yX12_value ∈ lw_tbl := zT11 (List.mem_of_getElem? (i := 63) rfl)
theorem zw2876 : Cond.selects RX12 yX12_value yX12_value ∈ lw_tbl := zT11 (List.mem_of_getElem? (i := 64) rfl)
theorem zw2877 : Cond.code yX12_value cX12_value 1 (some .int) ∈ lw_tbl := zT11 (List.mem_of_getElem? (i := 65) rfl)
theorem zw2878 : Cond.methodLink R_law 147 yX12_told ∈ lw_tbl := zT11 (List.mem_of_getElem? (i := 66) rfl)
theorem zw2879 : Cond.instanceMethod yX12_told ∈ lw_tbl := zT11 (List.mem_of_getElem? (i := 67) rfl)
theorem zw2880 : Cond.selects RX12 yX12_told yX12_told ∈ lw_tbl := zT11 (List.mem_of_getElem? (i := 68) rfl)
theorem zw2881 : Cond.code yX12_told cX12_told 2 (some .int) ∈ lw_tbl := zT11 (List.mem_of_getElem? (i := 69) rfl)
theorem zw2882 : Cond.methodLink R_law 151 yX12_number ∈ lw_tbl := zT11 (List.mem_of_getElem? (i := 70) rfl)
theorem zw2883 : Cond.instanceMethod yX12_number ∈ lw_tbl := zT11 (List.mem_of_getElem? (i := 71) rfl)
theorem zw2884 : Cond.selects RX12 yX12_number yX12_number ∈ lw_tbl := zT11 (List.mem_of_getElem? (i := 72) rfl)
theorem zw2885 : Cond.code yX12_number cX12_number 2 (some .int) ∈ lw_tbl := zT11 (List.mem_of_getElem? (i := 73) rfl)
theorem zw2886 : Cond.methodLink R_law 155 yX12_event ∈ lw_tbl := zT11 (List.mem_of_getElem? (i := 74) rfl)
theorem zw2887 : Cond.instanceMethod yX12_event ∈ lw_tbl := zT11 (List.mem_of_getElem? (i := 75) rfl)
theorem zw2888 : Cond.selects RX12 yX12_event yX12_event ∈ lw_tbl := zT11 (List.mem_of_getElem? (i := 76) rfl)
theorem zw2889 : Cond.code yX12_event cX12_event 2 (some .int) ∈ lw_tbl := zT11 (List.mem_of_getElem? (i := 77) rfl)
theorem zw2890 : Cond.methodLink R_law 159 yX12_name ∈ lw_tbl := zT11 (List.mem_of_getElem? (i := 78) rfl)
theorem zw2891 : Cond.instanceMethod yX12_name ∈ lw_tbl := zT11 (List.mem_of_getElem? (i := 79) rfl)
theorem zw2892 : Cond.selects RX12 yX12_name yX12_name ∈ lw_tbl := zT11 (List.mem_of_getElem? (i := 80) rfl)
theorem zw2893 : Cond.code yX12_name cX12_name 2 (some .int) ∈ lw_tbl := zT11 (List.mem_of_getElem? (i := 81) rfl)
theorem zw2894 : Cond.methodLink R_law 163 yX12_state ∈ lw_tbl := zT11 (List.mem_of_getElem? (i := 82) rfl)
theorem zw2895 : Cond.instanceMethod yX12_state ∈ lw_tbl := zT11 (List.mem_of_getElem? (i := 83) rfl)
theorem zw2896 : Cond.selects RX12 yX12_state yX12_state ∈ lw_tbl := zT11 (List.mem_of_getElem? (i := 84) rfl)
theorem zw2897 : Cond.code yX12_state cX12_state 2 (some .int) ∈ lw_tbl := zT11 (List.mem_of_getElem? (i := 85) rfl)
theorem zw2898 : Cond.methodLink R_law 167 yX12_classOf ∈ lw_tbl := zT11 (List.mem_of_getElem? (i := 86) rfl)
theorem zw2899 : Cond.instanceMethod yX12_classOf ∈ lw_tbl := zT11 (List.mem_of_getElem? (i := 87) rfl)
theorem zw2900 : Cond.selects RX12 yX12_classOf yX12_classOf ∈ lw_tbl := zT11 (List.mem_of_getElem? (i := 88) rfl)
theorem zw2901 : Cond.code yX12_classOf cX12_classOf 2 (some .int) ∈ lw_tbl := zT11 (List.mem_of_getElem? (i := 89) rfl)
theorem zw2902 : Cond.methodLink R_law 171 yX12_fieldOf ∈ lw_tbl := zT11 (List.mem_of_getElem? (i := 90) rfl)
theorem zw2903 : Cond.instanceMethod yX12_fieldOf ∈ lw_tbl := zT11 (List.mem_of_getElem? (i := 91) rfl)
theorem zw2904 : Cond.selects RX12 yX12_fieldOf yX12_fieldOf ∈ lw_tbl := zT11 (List.mem_of_getElem? (i := 92) rfl)
theorem zw2905 : Cond.code yX12_fieldOf cX12_fieldOf 3 (some .int) ∈ lw_tbl := zT11 (List.mem_of_getElem? (i := 93) rfl)
theorem zw2907 : Cond.methodLink R_law 17 yX13_feed ∈ lw_tbl := zT11 (List.mem_of_getElem? (i := 95) rfl)
theorem zw2908 : Cond.instanceMethod yX13_feed ∈ lw_tbl := zT11 (List.mem_of_getElem? (i := 96) rfl)
theorem zw2909 : Cond.selects RX13 yX13_feed yX13_feed ∈ lw_tbl := zT11 (List.mem_of_getElem? (i := 97) rfl)
theorem zw2910 : Cond.code yX13_feed cX13_feed 6 (some .int) ∈ lw_tbl := zT11 (List.mem_of_getElem? (i := 98) rfl)
theorem zw2911 : Cond.methodLink RX13 60 yX13_four ∈ lw_tbl := zT11 (List.mem_of_getElem? (i := 99) rfl)
theorem zw2913 : Cond.instanceMethod yX13_four ∈ lw_tbl := zT11 (List.mem_of_getElem? (i := 101) rfl)
theorem zw2915 : Cond.code yX13_four cX13_four 3 none ∈ lw_tbl := zT11 (List.mem_of_getElem? (i := 103) rfl)
theorem zw2916 : Cond.methodLink R_law 22 yX13_cut ∈ lw_tbl := zT11 (List.mem_of_getElem? (i := 104) rfl)
theorem zw2917 : Cond.instanceMethod yX13_cut ∈ lw_tbl := zT11 (List.mem_of_getElem? (i := 105) rfl)
theorem zw2918 : Cond.selects RX13 yX13_cut yX13_cut ∈ lw_tbl := zT11 (List.mem_of_getElem? (i := 106) rfl)
theorem zw2919 : Cond.code yX13_cut cX13_cut 2 (some .int) ∈ lw_tbl := zT11 (List.mem_of_getElem? (i := 107) rfl)
theorem zw2920 : Cond.methodLink R_law 27 yX13_splice ∈ lw_tbl := zT11 (List.mem_of_getElem? (i := 108) rfl)
theorem zw2921 : Cond.instanceMethod yX13_splice ∈ lw_tbl := zT11 (List.mem_of_getElem? (i := 109) rfl)
theorem zw2922 : Cond.selects RX13 yX13_splice yX13_splice ∈ lw_tbl := zT11 (List.mem_of_getElem? (i := 110) rfl)
theorem zw2923 : Cond.code yX13_splice cX13_splice 7 (some .int) ∈ lw_tbl := zT11 (List.mem_of_getElem? (i := 111) rfl)
theorem zw2924 : Cond.methodLink R_law 37 yX13_size ∈ lw_tbl := zT11 (List.mem_of_getElem? (i := 112) rfl)
theorem zw2925 : Cond.instanceMethod yX13_size ∈ lw_tbl := zT11 (List.mem_of_getElem? (i := 113) rfl)
theorem zw2926 : Cond.selects RX13 yX13_size yX13_size ∈ lw_tbl := zT11 (List.mem_of_getElem? (i := 114) rfl)
theorem zw2927 : Cond.code yX13_size cX13_size 1 (some .int) ∈ lw_tbl := zT11 (List.mem_of_getElem? (i := 115) rfl)
theorem zw2928 : Cond.methodLink R_law 41 yX13_octet ∈ lw_tbl := zT11 (List.mem_of_getElem? (i := 116) rfl)
theorem zw2929 : Cond.instanceMethod yX13_octet ∈ lw_tbl := zT11 (List.mem_of_getElem? (i := 117) rfl)
theorem zw2930 : Cond.selects RX13 yX13_octet yX13_octet ∈ lw_tbl := zT11 (List.mem_of_getElem? (i := 118) rfl)
theorem zw2931 : Cond.code yX13_octet cX13_octet 2 (some .int) ∈ lw_tbl := zT11 (List.mem_of_getElem? (i := 119) rfl)
theorem zw2932 : Cond.methodLink R_law 45 yX13_make ∈ lw_tbl := zT11 (List.mem_of_getElem? (i := 120) rfl)
theorem zw2933 : Cond.instanceMethod yX13_make ∈ lw_tbl := zT11 (List.mem_of_getElem? (i := 121) rfl)
theorem zw2934 : Cond.selects RX13 yX13_make yX13_make ∈ lw_tbl := zT11 (List.mem_of_getElem? (i := 122) rfl)
theorem zw2935 : Cond.code yX13_make cX13_make 3 (some .int) ∈ lw_tbl := zT11 (List.mem_of_getElem? (i := 123) rfl)
theorem zw2936 : Cond.methodLink RX13 944 yX13_isLib ∈ lw_tbl := zT11 (List.mem_of_getElem? (i := 124) rfl)
theorem zw2938 : Cond.instanceMethod yX13_isLib ∈ lw_tbl := zT11 (List.mem_of_getElem? (i := 126) rfl)
theorem zw2939 : Cond.code yX13_isLib cX13_isLib 2 (some .boolean) ∈ lw_tbl := zT11 (List.mem_of_getElem? (i := 127) rfl)
theorem zw2940 : Cond.methodLink RX13 953 yX13_tokenize ∈ lw_tbl := zT11 (List.mem_of_getElem? (i := 128) rfl)
theorem zw2942 : Cond.instanceMethod yX13_tokenize ∈ lw_tbl := zT11 (List.mem_of_getElem? (i := 130) rfl)
theorem zw2943 : Cond.code yX13_tokenize cX13_tokenize 6 none ∈ lw_tbl := zT11 (List.mem_of_getElem? (i := 131) rfl)
theorem zw2962 : Cond.methodLink RX13 78 yX13_sym ∈ lw_tbl := zT11 (List.mem_of_getElem? (i := 150) rfl)
theorem zw2963 : Cond.static yX13_sym ∈ lw_tbl := zT11 (List.mem_of_getElem? (i := 151) rfl)
theorem zw2964 : Cond.code yX13_sym cX13_sym 1 (some .int) ∈ lw_tbl := zT11 (List.mem_of_getElem? (i := 152) rfl)
theorem zw2965 : Cond.constantLong RX13 5 (2305843009213693952) ∈ lw_tbl := zT11 (List.mem_of_getElem? (i := 153) rfl)
theorem zw2970 : Cond.methodLink RX13 956 yX13_parse ∈ lw_tbl := zT11 (List.mem_of_getElem? (i := 158) rfl)
theorem zw2972 : Cond.instanceMethod yX13_parse ∈ lw_tbl := zT11 (List.mem_of_getElem? (i := 160) rfl)
theorem zw2973 : Cond.code yX13_parse cX13_parse 1 none ∈ lw_tbl := zT11 (List.mem_of_getElem? (i := 161) rfl)
theorem zw2974 : Cond.methodLink RX13 138 yX13_kindAt ∈ lw_tbl := zT11 (List.mem_of_getElem? (i := 162) rfl)
theorem zw2976 : Cond.instanceMethod yX13_kindAt ∈ lw_tbl := zT11 (List.mem_of_getElem? (i := 164) rfl)
theorem zw2977 : Cond.code yX13_kindAt cX13_kindAt 2 (some .int) ∈ lw_tbl := zT11 (List.mem_of_getElem? (i := 165) rfl)
theorem zw2995 : Cond.methodLink RX13 145 yX13_nameOf ∈ lw_tbl := zT11 (List.mem_of_getElem? (i := 183) rfl)
theorem zw2996 : Cond.static yX13_nameOf ∈ lw_tbl := zT11 (List.mem_of_getElem? (i := 184) rfl)
theorem zw2997 : Cond.code yX13_nameOf cX13_nameOf 4 (some .long) ∈ lw_tbl := zT11 (List.mem_of_getElem? (i := 185) rfl)
theorem zw2998 : Cond.methodLink RX13 19 yJ0_length_8abf5 ∈ lw_tbl := zT11 (List.mem_of_getElem? (i := 186) rfl)
theorem zw2999 : Cond.methodLink RX13 25 yJ0_charAt_5068e ∈ lw_tbl := zT11 (List.mem_of_getElem? (i := 187) rfl)
theorem zw3060 : Cond.methodLink RX13 396 yX13_newMember ∈ lw_tbl := zT12 (List.mem_of_getElem? (i := 8) rfl)
theorem zw3062 : Cond.instanceMethod yX13_newMember ∈ lw_tbl := zT12 (List.mem_of_getElem? (i := 10) rfl)
theorem zw3063 : Cond.code yX13_newMember cX13_newMember 2 none ∈ lw_tbl := zT12 (List.mem_of_getElem? (i := 11) rfl)
theorem zw3072 : Cond.constantLong RX13 43 (2) ∈ lw_tbl := zT12 (List.mem_of_getElem? (i := 20) rfl)
theorem zw3166 : Cond.methodLink RX13 959 yX13_judgeAll ∈ lw_tbl := zT12 (List.mem_of_getElem? (i := 114) rfl)
theorem zw3168 : Cond.instanceMethod yX13_judgeAll ∈ lw_tbl := zT12 (List.mem_of_getElem? (i := 116) rfl)
theorem zw3169 : Cond.code yX13_judgeAll cX13_judgeAll 1 none ∈ lw_tbl := zT12 (List.mem_of_getElem? (i := 117) rfl)
theorem zw3170 : Cond.methodLink RX13 968 yX13_heads ∈ lw_tbl := zT12 (List.mem_of_getElem? (i := 118) rfl)
theorem zw3172 : Cond.instanceMethod yX13_heads ∈ lw_tbl := zT12 (List.mem_of_getElem? (i := 120) rfl)
theorem zw3173 : Cond.code yX13_heads cX13_heads 3 none ∈ lw_tbl := zT12 (List.mem_of_getElem? (i := 121) rfl)
theorem zw3188 : Cond.constantLong RX13 7 (-2305843009213693953) ∈ lw_tbl := zT12 (List.mem_of_getElem? (i := 136) rfl)
theorem zw3189 : Cond.constantLong RX13 9 (63) ∈ lw_tbl := zT12 (List.mem_of_getElem? (i := 137) rfl)
theorem zw3194 : Cond.constantLong RX13 522 (2305843009220621209) ∈ lw_tbl := zT12 (List.mem_of_getElem? (i := 142) rfl)
theorem zw3195 : Cond.constantLong RX13 524 (2305843009220653836) ∈ lw_tbl := zT12 (List.mem_of_getElem? (i := 143) rfl)
theorem zw3228 : Cond.methodLink RX13 971 yX13_membersOf ∈ lw_tbl := zT12 (List.mem_of_getElem? (i := 176) rfl)
theorem zw3230 : Cond.instanceMethod yX13_membersOf ∈ lw_tbl := zT12 (List.mem_of_getElem? (i := 178) rfl)
theorem zw3231 : Cond.code yX13_membersOf cX13_membersOf 8 none ∈ lw_tbl := zT12 (List.mem_of_getElem? (i := 179) rfl)
theorem zw3244 : Cond.methodLink RX13 37 yX13_isC ∈ lw_tbl := zT12 (List.mem_of_getElem? (i := 192) rfl)
theorem zw3245 : Cond.static yX13_isC ∈ lw_tbl := zT12 (List.mem_of_getElem? (i := 193) rfl)
theorem zw3246 : Cond.code yX13_isC cX13_isC 2 (some .boolean) ∈ lw_tbl := zT12 (List.mem_of_getElem? (i := 194) rfl)
theorem zw3251 : Cond.methodLink RX13 974 yX13_againstAbove ∈ lw_tbl := zT12 (List.mem_of_getElem? (i := 199) rfl)
theorem zw3253 : Cond.instanceMethod yX13_againstAbove ∈ lw_tbl := zT12 (List.mem_of_getElem? (i := 201) rfl)
theorem zw3254 : Cond.code yX13_againstAbove cX13_againstAbove 6 none ∈ lw_tbl := zT12 (List.mem_of_getElem? (i := 202) rfl)
theorem zw3287 : Cond.methodLink RX13 977 yX13_makersAndBridges ∈ lw_tbl := zT12 (List.mem_of_getElem? (i := 235) rfl)
theorem zw3289 : Cond.instanceMethod yX13_makersAndBridges ∈ lw_tbl := zT12 (List.mem_of_getElem? (i := 237) rfl)
theorem zw3290 : Cond.code yX13_makersAndBridges cX13_makersAndBridges 5 none ∈ lw_tbl := zT12 (List.mem_of_getElem? (i := 238) rfl)
theorem zw3311 : Cond.methodLink RX13 980 yX13_lacking ∈ lw_tbl := zT13 (List.mem_of_getElem? (i := 19) rfl)
theorem zw3313 : Cond.instanceMethod yX13_lacking ∈ lw_tbl := zT13 (List.mem_of_getElem? (i := 21) rfl)
theorem zw3314 : Cond.code yX13_lacking cX13_lacking 6 none ∈ lw_tbl := zT13 (List.mem_of_getElem? (i := 22) rfl)
theorem zw3335 : Cond.methodLink RX13 983 yX13_constants ∈ lw_tbl := zT13 (List.mem_of_getElem? (i := 43) rfl)
theorem zw3337 : Cond.instanceMethod yX13_constants ∈ lw_tbl := zT13 (List.mem_of_getElem? (i := 45) rfl)
theorem zw3338 : Cond.code yX13_constants cX13_constants 7 none ∈ lw_tbl := zT13 (List.mem_of_getElem? (i := 46) rfl)
theorem zw3394 : Cond.methodLink RX13 986 yX13_bodies ∈ lw_tbl := zT13 (List.mem_of_getElem? (i := 102) rfl)
theorem zw3396 : Cond.instanceMethod yX13_bodies ∈ lw_tbl := zT13 (List.mem_of_getElem? (i := 104) rfl)
theorem zw3397 : Cond.code yX13_bodies cX13_bodies 4 none ∈ lw_tbl := zT13 (List.mem_of_getElem? (i := 105) rfl)
theorem zw3509 : Cond.methodLink RX13 989 yX13_usesOfAll ∈ lw_tbl := zT13 (List.mem_of_getElem? (i := 217) rfl)
theorem zw3511 : Cond.instanceMethod yX13_usesOfAll ∈ lw_tbl := zT13 (List.mem_of_getElem? (i := 219) rfl)
theorem zw3512 : Cond.code yX13_usesOfAll cX13_usesOfAll 2 none ∈ lw_tbl := zT13 (List.mem_of_getElem? (i := 220) rfl)
theorem zw3577 : Cond.methodLink R_law 49 yX13_place ∈ lw_tbl := zT14 (List.mem_of_getElem? (i := 45) rfl)
theorem zw3578 : Cond.instanceMethod yX13_place ∈ lw_tbl := zT14 (List.mem_of_getElem? (i := 46) rfl)
theorem zw3579 : Cond.selects RX13 yX13_place yX13_place ∈ lw_tbl := zT14 (List.mem_of_getElem? (i := 47) rfl)
theorem zw3580 : Cond.code yX13_place cX13_place 1 (some .int) ∈ lw_tbl := zT14 (List.mem_of_getElem? (i := 48) rfl)
theorem zw3581 : Cond.methodLink R_law 53 yX13_builds ∈ lw_tbl := zT14 (List.mem_of_getElem? (i := 49) rfl)
theorem zw3582 : Cond.instanceMethod yX13_builds ∈ lw_tbl := zT14 (List.mem_of_getElem? (i := 50) rfl)
theorem zw3583 : Cond.selects RX13 yX13_builds yX13_builds ∈ lw_tbl := zT14 (List.mem_of_getElem? (i := 51) rfl)
theorem zw3584 : Cond.code yX13_builds cX13_builds 2 (some .int) ∈ lw_tbl := zT14 (List.mem_of_getElem? (i := 52) rfl)
theorem zw3585 : Cond.methodLink R_law 32 yX13_text ∈ lw_tbl := zT14 (List.mem_of_getElem? (i := 53) rfl)
theorem zw3586 : Cond.instanceMethod yX13_text ∈ lw_tbl := zT14 (List.mem_of_getElem? (i := 54) rfl)
theorem zw3587 : Cond.selects RX13 yX13_text yX13_text ∈ lw_tbl := zT14 (List.mem_of_getElem? (i := 55) rfl)
theorem zw3588 : Cond.code yX13_text cX13_text 5 (some .int) ∈ lw_tbl := zT14 (List.mem_of_getElem? (i := 56) rfl)
theorem zw3589 : Cond.methodLink RX13 992 yX13_slotAt ∈ lw_tbl := zT14 (List.mem_of_getElem? (i := 57) rfl)
theorem zw3591 : Cond.instanceMethod yX13_slotAt ∈ lw_tbl := zT14 (List.mem_of_getElem? (i := 59) rfl)
theorem zw3592 : Cond.code yX13_slotAt cX13_slotAt 3 (some .int) ∈ lw_tbl := zT14 (List.mem_of_getElem? (i := 60) rfl)
theorem zw3593 : Cond.methodLink R_law 57 yX13_pick ∈ lw_tbl := zT14 (List.mem_of_getElem? (i := 61) rfl)
theorem zw3594 : Cond.instanceMethod yX13_pick ∈ lw_tbl := zT14 (List.mem_of_getElem? (i := 62) rfl)
theorem zw3595 : Cond.selects RX13 yX13_pick yX13_pick ∈ lw_tbl := zT14 (List.mem_of_getElem? (i := 63) rfl)
theorem zw3596 : Cond.code yX13_pick cX13_pick 4 (some .int) ∈ lw_tbl := zT14 (List.mem_of_getElem? (i := 64) rfl)
theorem zw3597 : Cond.methodLink RX13 995 yX13_picked ∈ lw_tbl := zT14 (List.mem_of_getElem? (i := 65) rfl)
theorem zw3598 : Cond.instanceMethod yX13_picked ∈ lw_tbl := zT14 (List.mem_of_getElem? (i := 66) rfl)
theorem zw3599 : Cond.selects RX13 yX13_picked yX13_picked ∈ lw_tbl := zT14 (List.mem_of_getElem? (i := 67) rfl)
theorem zw3600 : Cond.code yX13_picked cX13_picked 2 (some .int) ∈ lw_tbl := zT14 (List.mem_of_getElem? (i := 68) rfl)
theorem zw3605 : Cond.methodLink RX13 998 yX13_settle ∈ lw_tbl := zT14 (List.mem_of_getElem? (i := 73) rfl)
theorem zw3607 : Cond.instanceMethod yX13_settle ∈ lw_tbl := zT14 (List.mem_of_getElem? (i := 75) rfl)
theorem zw3608 : Cond.code yX13_settle cX13_settle 2 none ∈ lw_tbl := zT14 (List.mem_of_getElem? (i := 76) rfl)
theorem zw3609 : Cond.methodLink RX13 1192 yX13_numberWorld ∈ lw_tbl := zT14 (List.mem_of_getElem? (i := 77) rfl)
theorem zw3611 : Cond.instanceMethod yX13_numberWorld ∈ lw_tbl := zT14 (List.mem_of_getElem? (i := 79) rfl)
theorem zw3612 : Cond.code yX13_numberWorld cX13_numberWorld 4 none ∈ lw_tbl := zT14 (List.mem_of_getElem? (i := 80) rfl)
theorem zw3613 : Cond.methodLink RX13 1074 yX13_intoWorld ∈ lw_tbl := zT14 (List.mem_of_getElem? (i := 81) rfl)
theorem zw3615 : Cond.instanceMethod yX13_intoWorld ∈ lw_tbl := zT14 (List.mem_of_getElem? (i := 83) rfl)
theorem zw3616 : Cond.code yX13_intoWorld cX13_intoWorld 2 none ∈ lw_tbl := zT14 (List.mem_of_getElem? (i := 84) rfl)
theorem zw3617 : Cond.methodLink RX13 1163 yX13_clearSet ∈ lw_tbl := zT14 (List.mem_of_getElem? (i := 85) rfl)
theorem zw3619 : Cond.instanceMethod yX13_clearSet ∈ lw_tbl := zT14 (List.mem_of_getElem? (i := 87) rfl)
theorem zw3620 : Cond.code yX13_clearSet cX13_clearSet 3 none ∈ lw_tbl := zT14 (List.mem_of_getElem? (i := 88) rfl)
theorem zw3621 : Cond.methodLink R_law 61 yX13_picked ∈ lw_tbl := zT14 (List.mem_of_getElem? (i := 89) rfl)
theorem zw3622 : Cond.methodLink R_law 65 yX13_classes ∈ lw_tbl := zT14 (List.mem_of_getElem? (i := 90) rfl)
theorem zw3623 : Cond.instanceMethod yX13_classes ∈ lw_tbl := zT14 (List.mem_of_getElem? (i := 91) rfl)
theorem zw3624 : Cond.selects RX13 yX13_classes yX13_classes ∈ lw_tbl := zT14 (List.mem_of_getElem? (i := 92) rfl)
theorem zw3625 : Cond.code yX13_classes cX13_classes 4 (some .int) ∈ lw_tbl := zT14 (List.mem_of_getElem? (i := 93) rfl)
theorem zw3626 : Cond.methodLink R_law 69 yX13_members ∈ lw_tbl := zT14 (List.mem_of_getElem? (i := 94) rfl)
theorem zw3627 : Cond.instanceMethod yX13_members ∈ lw_tbl := zT14 (List.mem_of_getElem? (i := 95) rfl)
theorem zw3628 : Cond.selects RX13 yX13_members yX13_members ∈ lw_tbl := zT14 (List.mem_of_getElem? (i := 96) rfl)
theorem zw3629 : Cond.code yX13_members cX13_members 5 (some .int) ∈ lw_tbl := zT14 (List.mem_of_getElem? (i := 97) rfl)
theorem zw3630 : Cond.methodLink RX13 1004 yX13_classAt ∈ lw_tbl := zT14 (List.mem_of_getElem? (i := 98) rfl)
theorem zw3632 : Cond.instanceMethod yX13_classAt ∈ lw_tbl := zT14 (List.mem_of_getElem? (i := 100) rfl)
theorem zw3633 : Cond.code yX13_classAt cX13_classAt 5 (some .int) ∈ lw_tbl := zT14 (List.mem_of_getElem? (i := 101) rfl)
theorem zw3638 : Cond.methodLink R_law 74 yX13_shape ∈ lw_tbl := zT14 (List.mem_of_getElem? (i := 106) rfl)
theorem zw3639 : Cond.instanceMethod yX13_shape ∈ lw_tbl := zT14 (List.mem_of_getElem? (i := 107) rfl)
theorem zw3640 : Cond.selects RX13 yX13_shape yX13_shape ∈ lw_tbl := zT14 (List.mem_of_getElem? (i := 108) rfl)
theorem zw3641 : Cond.code yX13_shape cX13_shape 7 (some .int) ∈ lw_tbl := zT14 (List.mem_of_getElem? (i := 109) rfl)
theorem zw3652 : Cond.methodLink RX13 29 yX13_outByte ∈ lw_tbl := zT14 (List.mem_of_getElem? (i := 120) rfl)
theorem zw3654 : Cond.instanceMethod yX13_outByte ∈ lw_tbl := zT14 (List.mem_of_getElem? (i := 122) rfl)
theorem zw3655 : Cond.code yX13_outByte cX13_outByte 2 none ∈ lw_tbl := zT14 (List.mem_of_getElem? (i := 123) rfl)
theorem zw3660 : Cond.methodLink RX13 53 yX13_outName ∈ lw_tbl := zT14 (List.mem_of_getElem? (i := 128) rfl)
theorem zw3662 : Cond.instanceMethod yX13_outName ∈ lw_tbl := zT14 (List.mem_of_getElem? (i := 130) rfl)
theorem zw3663 : Cond.code yX13_outName cX13_outName 7 none ∈ lw_tbl := zT14 (List.mem_of_getElem? (i := 131) rfl)
theorem zw3664 : Cond.methodLink RX13 33 yX13_letter ∈ lw_tbl := zT14 (List.mem_of_getElem? (i := 132) rfl)
theorem zw3665 : Cond.static yX13_letter ∈ lw_tbl := zT14 (List.mem_of_getElem? (i := 133) rfl)
theorem zw3666 : Cond.code yX13_letter cX13_letter 1 (some .int) ∈ lw_tbl := zT14 (List.mem_of_getElem? (i := 134) rfl)
theorem zw3696 : Cond.methodLink R_law 78 yX13_uses ∈ lw_tbl := zT14 (List.mem_of_getElem? (i := 164) rfl)
theorem zw3697 : Cond.instanceMethod yX13_uses ∈ lw_tbl := zT14 (List.mem_of_getElem? (i := 165) rfl)
theorem zw3698 : Cond.selects RX13 yX13_uses yX13_uses ∈ lw_tbl := zT14 (List.mem_of_getElem? (i := 166) rfl)
theorem zw3699 : Cond.code yX13_uses cX13_uses 4 (some .int) ∈ lw_tbl := zT14 (List.mem_of_getElem? (i := 167) rfl)
theorem zw3700 : Cond.methodLink R_law 82 yX13_use ∈ lw_tbl := zT14 (List.mem_of_getElem? (i := 168) rfl)
theorem zw3701 : Cond.instanceMethod yX13_use ∈ lw_tbl := zT14 (List.mem_of_getElem? (i := 169) rfl)
theorem zw3702 : Cond.selects RX13 yX13_use yX13_use ∈ lw_tbl := zT14 (List.mem_of_getElem? (i := 170) rfl)
theorem zw3703 : Cond.code yX13_use cX13_use 6 (some .int) ∈ lw_tbl := zT14 (List.mem_of_getElem? (i := 171) rfl)
theorem zw3704 : Cond.methodLink RX13 1062 yX13_useAt ∈ lw_tbl := zT14 (List.mem_of_getElem? (i := 172) rfl)
theorem zw3706 : Cond.instanceMethod yX13_useAt ∈ lw_tbl := zT14 (List.mem_of_getElem? (i := 174) rfl)
theorem zw3707 : Cond.code yX13_useAt cX13_useAt 5 (some .int) ∈ lw_tbl := zT14 (List.mem_of_getElem? (i := 175) rfl)
theorem zw3708 : Cond.methodLink R_law 86 yX13_tell ∈ lw_tbl := zT14 (List.mem_of_getElem? (i := 176) rfl)
theorem zw3709 : Cond.instanceMethod yX13_tell ∈ lw_tbl := zT14 (List.mem_of_getElem? (i := 177) rfl)
theorem zw3710 : Cond.selects RX13 yX13_tell yX13_tell ∈ lw_tbl := zT14 (List.mem_of_getElem? (i := 178) rfl)
theorem zw3711 : Cond.code yX13_tell cX13_tell 6 (some .int) ∈ lw_tbl := zT14 (List.mem_of_getElem? (i := 179) rfl)
theorem zw3716 : Cond.methodLink R_law 90 yX13_meet ∈ lw_tbl := zT14 (List.mem_of_getElem? (i := 184) rfl)
theorem zw3717 : Cond.instanceMethod yX13_meet ∈ lw_tbl := zT14 (List.mem_of_getElem? (i := 185) rfl)
theorem zw3718 : Cond.selects RX13 yX13_meet yX13_meet ∈ lw_tbl := zT14 (List.mem_of_getElem? (i := 186) rfl)
theorem zw3719 : Cond.code yX13_meet cX13_meet 7 (some .int) ∈ lw_tbl := zT14 (List.mem_of_getElem? (i := 187) rfl)
theorem zw3776 : Cond.methodLink R_law 94 yX13_met ∈ lw_tbl := zT15 (List.mem_of_getElem? (i := 4) rfl)
theorem zw3777 : Cond.instanceMethod yX13_met ∈ lw_tbl := zT15 (List.mem_of_getElem? (i := 5) rfl)
theorem zw3778 : Cond.selects RX13 yX13_met yX13_met ∈ lw_tbl := zT15 (List.mem_of_getElem? (i := 6) rfl)
theorem zw3779 : Cond.code yX13_met cX13_met 2 (some .int) ∈ lw_tbl := zT15 (List.mem_of_getElem? (i := 7) rfl)
theorem zw3780 : Cond.methodLink R_law 98 yX13_looked ∈ lw_tbl := zT15 (List.mem_of_getElem? (i := 8) rfl)
theorem zw3781 : Cond.instanceMethod yX13_looked ∈ lw_tbl := zT15 (List.mem_of_getElem? (i := 9) rfl)
theorem zw3782 : Cond.selects RX13 yX13_looked yX13_looked ∈ lw_tbl := zT15 (List.mem_of_getElem? (i := 10) rfl)
theorem zw3783 : Cond.code yX13_looked cX13_looked 2 (some .int) ∈ lw_tbl := zT15 (List.mem_of_getElem? (i := 11) rfl)
theorem zw3784 : Cond.methodLink R_law 102 yX13_broken ∈ lw_tbl := zT15 (List.mem_of_getElem? (i := 12) rfl)
theorem zw3785 : Cond.instanceMethod yX13_broken ∈ lw_tbl := zT15 (List.mem_of_getElem? (i := 13) rfl)
theorem zw3786 : Cond.selects RX13 yX13_broken yX13_broken ∈ lw_tbl := zT15 (List.mem_of_getElem? (i := 14) rfl)
theorem zw3787 : Cond.code yX13_broken cX13_broken 6 (some .int) ∈ lw_tbl := zT15 (List.mem_of_getElem? (i := 15) rfl)
theorem zw3788 : Cond.methodLink R_law 106 yX13_brokenAt ∈ lw_tbl := zT15 (List.mem_of_getElem? (i := 16) rfl)
theorem zw3789 : Cond.instanceMethod yX13_brokenAt ∈ lw_tbl := zT15 (List.mem_of_getElem? (i := 17) rfl)
theorem zw3790 : Cond.selects RX13 yX13_brokenAt yX13_brokenAt ∈ lw_tbl := zT15 (List.mem_of_getElem? (i := 18) rfl)
theorem zw3791 : Cond.code yX13_brokenAt cX13_brokenAt 3 (some .int) ∈ lw_tbl := zT15 (List.mem_of_getElem? (i := 19) rfl)
theorem zw3792 : Cond.methodLink R_law 110 yX13_stale ∈ lw_tbl := zT15 (List.mem_of_getElem? (i := 20) rfl)
theorem zw3793 : Cond.instanceMethod yX13_stale ∈ lw_tbl := zT15 (List.mem_of_getElem? (i := 21) rfl)
theorem zw3794 : Cond.selects RX13 yX13_stale yX13_stale ∈ lw_tbl := zT15 (List.mem_of_getElem? (i := 22) rfl)
theorem zw3795 : Cond.code yX13_stale cX13_stale 6 (some .int) ∈ lw_tbl := zT15 (List.mem_of_getElem? (i := 23) rfl)
theorem zw3796 : Cond.methodLink R_law 114 yX13_choose ∈ lw_tbl := zT15 (List.mem_of_getElem? (i := 24) rfl)
theorem zw3797 : Cond.instanceMethod yX13_choose ∈ lw_tbl := zT15 (List.mem_of_getElem? (i := 25) rfl)
theorem zw3798 : Cond.selects RX13 yX13_choose yX13_choose ∈ lw_tbl := zT15 (List.mem_of_getElem? (i := 26) rfl)
theorem zw3799 : Cond.code yX13_choose cX13_choose 4 (some .int) ∈ lw_tbl := zT15 (List.mem_of_getElem? (i := 27) rfl)
theorem zw3800 : Cond.methodLink RX13 1195 yX13_isBroken ∈ lw_tbl := zT15 (List.mem_of_getElem? (i := 28) rfl)
theorem zw3802 : Cond.instanceMethod yX13_isBroken ∈ lw_tbl := zT15 (List.mem_of_getElem? (i := 30) rfl)
theorem zw3803 : Cond.code yX13_isBroken cX13_isBroken 5 (some .boolean) ∈ lw_tbl := zT15 (List.mem_of_getElem? (i := 31) rfl)
theorem zw3804 : Cond.methodLink R_law 134 yX13_fresh ∈ lw_tbl := zT15 (List.mem_of_getElem? (i := 32) rfl)
theorem zw3805 : Cond.instanceMethod yX13_fresh ∈ lw_tbl := zT15 (List.mem_of_getElem? (i := 33) rfl)
theorem zw3806 : Cond.selects RX13 yX13_fresh yX13_fresh ∈ lw_tbl := zT15 (List.mem_of_getElem? (i := 34) rfl)
theorem zw3807 : Cond.code yX13_fresh cX13_fresh 4 (some .int) ∈ lw_tbl := zT15 (List.mem_of_getElem? (i := 35) rfl)
theorem zw3808 : Cond.methodLink R_law 138 yX13_touch ∈ lw_tbl := zT15 (List.mem_of_getElem? (i := 36) rfl)
theorem zw3809 : Cond.instanceMethod yX13_touch ∈ lw_tbl := zT15 (List.mem_of_getElem? (i := 37) rfl)
theorem zw3810 : Cond.selects RX13 yX13_touch yX13_touch ∈ lw_tbl := zT15 (List.mem_of_getElem? (i := 38) rfl)
theorem zw3811 : Cond.code yX13_touch cX13_touch 5 (some .int) ∈ lw_tbl := zT15 (List.mem_of_getElem? (i := 39) rfl)
theorem zw3812 : Cond.methodLink R_law 142 yX13_run ∈ lw_tbl := zT15 (List.mem_of_getElem? (i := 40) rfl)
theorem zw3813 : Cond.instanceMethod yX13_run ∈ lw_tbl := zT15 (List.mem_of_getElem? (i := 41) rfl)
theorem zw3814 : Cond.selects RX13 yX13_run yX13_run ∈ lw_tbl := zT15 (List.mem_of_getElem? (i := 42) rfl)
theorem zw3815 : Cond.code yX13_run cX13_run 3 (some .int) ∈ lw_tbl := zT15 (List.mem_of_getElem? (i := 43) rfl)
theorem zw3816 : Cond.methodLink RX13 1370 yX13_named ∈ lw_tbl := zT15 (List.mem_of_getElem? (i := 44) rfl)
theorem zw3818 : Cond.instanceMethod yX13_named ∈ lw_tbl := zT15 (List.mem_of_getElem? (i := 46) rfl)
theorem zw3819 : Cond.code yX13_named cX13_named 10 (some .int) ∈ lw_tbl := zT15 (List.mem_of_getElem? (i := 47) rfl)
theorem zw3960 : Cond.methodLink R_law 146 yX13_value ∈ lw_tbl := zT15 (List.mem_of_getElem? (i := 188) rfl)
theorem zw3961 : Cond.instanceMethod yX13_value ∈ lw_tbl := zT15 (List.mem_of_getElem? (i := 189) rfl)
theorem zw3962 : Cond.selects RX13 yX13_value yX13_value ∈ lw_tbl := zT15 (List.mem_of_getElem? (i := 190) rfl)
theorem zw3963 : Cond.code yX13_value cX13_value 1 (some .int) ∈ lw_tbl := zT15 (List.mem_of_getElem? (i := 191) rfl)
theorem zw3964 : Cond.methodLink R_law 150 yX13_told ∈ lw_tbl := zT15 (List.mem_of_getElem? (i := 192) rfl)
theorem zw3965 : Cond.instanceMethod yX13_told ∈ lw_tbl := zT15 (List.mem_of_getElem? (i := 193) rfl)
theorem zw3966 : Cond.selects RX13 yX13_told yX13_told ∈ lw_tbl := zT15 (List.mem_of_getElem? (i := 194) rfl)
theorem zw3967 : Cond.code yX13_told cX13_told 2 (some .int) ∈ lw_tbl := zT15 (List.mem_of_getElem? (i := 195) rfl)
theorem zw3968 : Cond.methodLink R_law 154 yX13_number ∈ lw_tbl := zT15 (List.mem_of_getElem? (i := 196) rfl)
theorem zw3969 : Cond.instanceMethod yX13_number ∈ lw_tbl := zT15 (List.mem_of_getElem? (i := 197) rfl)
theorem zw3970 : Cond.selects RX13 yX13_number yX13_number ∈ lw_tbl := zT15 (List.mem_of_getElem? (i := 198) rfl)
theorem zw3971 : Cond.code yX13_number cX13_number 2 (some .int) ∈ lw_tbl := zT15 (List.mem_of_getElem? (i := 199) rfl)
theorem zw3972 : Cond.methodLink R_law 158 yX13_event_ ∈ lw_tbl := zT15 (List.mem_of_getElem? (i := 200) rfl)
theorem zw3973 : Cond.instanceMethod yX13_event_ ∈ lw_tbl := zT15 (List.mem_of_getElem? (i := 201) rfl)
theorem zw3974 : Cond.selects RX13 yX13_event_ yX13_event_ ∈ lw_tbl := zT15 (List.mem_of_getElem? (i := 202) rfl)
theorem zw3975 : Cond.code yX13_event_ cX13_event_ 2 (some .int) ∈ lw_tbl := zT15 (List.mem_of_getElem? (i := 203) rfl)
theorem zw3976 : Cond.methodLink R_law 162 yX13_name ∈ lw_tbl := zT15 (List.mem_of_getElem? (i := 204) rfl)
theorem zw3977 : Cond.instanceMethod yX13_name ∈ lw_tbl := zT15 (List.mem_of_getElem? (i := 205) rfl)
theorem zw3978 : Cond.selects RX13 yX13_name yX13_name ∈ lw_tbl := zT15 (List.mem_of_getElem? (i := 206) rfl)
theorem zw3979 : Cond.code yX13_name cX13_name 2 (some .int) ∈ lw_tbl := zT15 (List.mem_of_getElem? (i := 207) rfl)
theorem zw3980 : Cond.methodLink R_law 166 yX13_state ∈ lw_tbl := zT15 (List.mem_of_getElem? (i := 208) rfl)
theorem zw3981 : Cond.instanceMethod yX13_state ∈ lw_tbl := zT15 (List.mem_of_getElem? (i := 209) rfl)
theorem zw3982 : Cond.selects RX13 yX13_state yX13_state ∈ lw_tbl := zT15 (List.mem_of_getElem? (i := 210) rfl)
theorem zw3983 : Cond.code yX13_state cX13_state 2 (some .int) ∈ lw_tbl := zT15 (List.mem_of_getElem? (i := 211) rfl)
theorem zw3984 : Cond.methodLink R_law 170 yX13_classOf ∈ lw_tbl := zT15 (List.mem_of_getElem? (i := 212) rfl)
theorem zw3985 : Cond.instanceMethod yX13_classOf ∈ lw_tbl := zT15 (List.mem_of_getElem? (i := 213) rfl)
theorem zw3986 : Cond.selects RX13 yX13_classOf yX13_classOf ∈ lw_tbl := zT15 (List.mem_of_getElem? (i := 214) rfl)
theorem zw3987 : Cond.code yX13_classOf cX13_classOf 2 (some .int) ∈ lw_tbl := zT15 (List.mem_of_getElem? (i := 215) rfl)
theorem zw3988 : Cond.methodLink R_law 174 yX13_fieldOf ∈ lw_tbl := zT15 (List.mem_of_getElem? (i := 216) rfl)
theorem zw3989 : Cond.instanceMethod yX13_fieldOf ∈ lw_tbl := zT15 (List.mem_of_getElem? (i := 217) rfl)
theorem zw3990 : Cond.selects RX13 yX13_fieldOf yX13_fieldOf ∈ lw_tbl := zT15 (List.mem_of_getElem? (i := 218) rfl)
theorem zw3991 : Cond.code yX13_fieldOf cX13_fieldOf 4 (some .int) ∈ lw_tbl := zT15 (List.mem_of_getElem? (i := 219) rfl)
theorem zw3992 : Cond.methodLink R_law 118 yX13_differ ∈ lw_tbl := zT15 (List.mem_of_getElem? (i := 220) rfl)
theorem zw3993 : Cond.instanceMethod yX13_differ ∈ lw_tbl := zT15 (List.mem_of_getElem? (i := 221) rfl)
theorem zw3994 : Cond.selects RX13 yX13_differ yX13_differ ∈ lw_tbl := zT15 (List.mem_of_getElem? (i := 222) rfl)
theorem zw3995 : Cond.code yX13_differ cX13_differ 6 (some .int) ∈ lw_tbl := zT15 (List.mem_of_getElem? (i := 223) rfl)
theorem zw4060 : Cond.methodLink R_law 122 yX13_change ∈ lw_tbl := zT16 (List.mem_of_getElem? (i := 48) rfl)
theorem zw4061 : Cond.instanceMethod yX13_change ∈ lw_tbl := zT16 (List.mem_of_getElem? (i := 49) rfl)
theorem zw4062 : Cond.selects RX13 yX13_change yX13_change ∈ lw_tbl := zT16 (List.mem_of_getElem? (i := 50) rfl)
theorem zw4063 : Cond.code yX13_change cX13_change 3 (some .int) ∈ lw_tbl := zT16 (List.mem_of_getElem? (i := 51) rfl)
theorem zw4064 : Cond.methodLink R_law 126 yX13_word ∈ lw_tbl := zT16 (List.mem_of_getElem? (i := 52) rfl)
theorem zw4065 : Cond.instanceMethod yX13_word ∈ lw_tbl := zT16 (List.mem_of_getElem? (i := 53) rfl)
theorem zw4066 : Cond.selects RX13 yX13_word yX13_word ∈ lw_tbl := zT16 (List.mem_of_getElem? (i := 54) rfl)
theorem zw4067 : Cond.code yX13_word cX13_word 10 (some .int) ∈ lw_tbl := zT16 (List.mem_of_getElem? (i := 55) rfl)
theorem zw4074 : Cond.methodLink R_law 130 yX13_weave ∈ lw_tbl := zT16 (List.mem_of_getElem? (i := 62) rfl)
theorem zw4075 : Cond.instanceMethod yX13_weave ∈ lw_tbl := zT16 (List.mem_of_getElem? (i := 63) rfl)
theorem zw4076 : Cond.selects RX13 yX13_weave yX13_weave ∈ lw_tbl := zT16 (List.mem_of_getElem? (i := 64) rfl)
theorem zw4077 : Cond.code yX13_weave cX13_weave 11 (some .int) ∈ lw_tbl := zT16 (List.mem_of_getElem? (i := 65) rfl)
theorem zw4113 : Cond.code yX13_init cX13_init 2 none ∈ lw_tbl := zT16 (List.mem_of_getElem? (i := 101) rfl)
theorem zw4114 : Cond.methodLink RX13 1480 Lib.objectInit ∈ lw_tbl := zT16 (List.mem_of_getElem? (i := 102) rfl)
theorem zw4115 : Cond.constant RX13 1485 (64000) ∈ lw_tbl := zT16 (List.mem_of_getElem? (i := 103) rfl)
theorem zw4116 : Cond.constant RX13 1486 (122400) ∈ lw_tbl := zT16 (List.mem_of_getElem? (i := 104) rfl)
theorem zw4117 : Cond.methodLink RX13 1487 yX13_wordTable ∈ lw_tbl := zT16 (List.mem_of_getElem? (i := 105) rfl)
theorem zw4119 : Cond.instanceMethod yX13_wordTable ∈ lw_tbl := zT16 (List.mem_of_getElem? (i := 107) rfl)
theorem zw4120 : Cond.code yX13_wordTable cX13_wordTable 4 none ∈ lw_tbl := zT16 (List.mem_of_getElem? (i := 108) rfl)
theorem zw4122 : Cond.methodLink RX13 1490 yX13_given ∈ lw_tbl := zT16 (List.mem_of_getElem? (i := 110) rfl)
theorem zw4124 : Cond.instanceMethod yX13_given ∈ lw_tbl := zT16 (List.mem_of_getElem? (i := 112) rfl)
theorem zw4125 : Cond.code yX13_given cX13_given 4 none ∈ lw_tbl := zT16 (List.mem_of_getElem? (i := 113) rfl)
theorem zw4127 : Cond.fieldLink RX13 63 "LinkHouseModel" "tape" "[I" ∈ lw_tbl := zT16 (List.mem_of_getElem? (i := 115) rfl)
theorem zw4128 : Cond.fieldLink RX13 57 "LinkHouseModel" "size" "I" ∈ lw_tbl := zT16 (List.mem_of_getElem? (i := 116) rfl)
theorem zw4129 : Cond.fieldLink RX13 11 "LinkHouseModel" "outRow" "[I" ∈ lw_tbl := zT16 (List.mem_of_getElem? (i := 117) rfl)
theorem zw4130 : Cond.fieldLink RX13 15 "LinkHouseModel" "outSize" "I" ∈ lw_tbl := zT16 (List.mem_of_getElem? (i := 118) rfl)
theorem zw4131 : Cond.fieldLink RX13 66 "LinkHouseModel" "spliceRow" "[I" ∈ lw_tbl := zT16 (List.mem_of_getElem? (i := 119) rfl)
theorem zw4132 : Cond.fieldLink RX13 87 "LinkHouseModel" "text" "[B" ∈ lw_tbl := zT16 (List.mem_of_getElem? (i := 120) rfl)
theorem zw4133 : Cond.fieldLink RX13 81 "LinkHouseModel" "textSize" "[I" ∈ lw_tbl := zT16 (List.mem_of_getElem? (i := 121) rfl)
theorem zw4134 : Cond.fieldLink RX13 538 "LinkHouseModel" "libOf" "[I" ∈ lw_tbl := zT16 (List.mem_of_getElem? (i := 122) rfl)
theorem zw4135 : Cond.fieldLink RX13 965 "LinkHouseModel" "slotOf" "[I" ∈ lw_tbl := zT16 (List.mem_of_getElem? (i := 123) rfl)
theorem zw4136 : Cond.fieldLink RX13 947 "LinkHouseModel" "buildMany" "[I" ∈ lw_tbl := zT16 (List.mem_of_getElem? (i := 124) rfl)
theorem zw4137 : Cond.fieldLink RX13 950 "LinkHouseModel" "slots" "I" ∈ lw_tbl := zT16 (List.mem_of_getElem? (i := 125) rfl)
theorem zw4138 : Cond.fieldLink RX13 103 "LinkHouseModel" "tKind" "[I" ∈ lw_tbl := zT16 (List.mem_of_getElem? (i := 126) rfl)
theorem zw4139 : Cond.fieldLink RX13 94 "LinkHouseModel" "tAt" "[I" ∈ lw_tbl := zT16 (List.mem_of_getElem? (i := 127) rfl)
theorem zw4140 : Cond.fieldLink RX13 110 "LinkHouseModel" "tEnd" "[I" ∈ lw_tbl := zT16 (List.mem_of_getElem? (i := 128) rfl)
theorem zw4141 : Cond.fieldLink RX13 97 "LinkHouseModel" "tName" "[J" ∈ lw_tbl := zT16 (List.mem_of_getElem? (i := 129) rfl)
theorem zw4142 : Cond.fieldLink RX13 100 "LinkHouseModel" "tValue" "[I" ∈ lw_tbl := zT16 (List.mem_of_getElem? (i := 130) rfl)
theorem zw4143 : Cond.fieldLink RX13 113 "LinkHouseModel" "tokens" "[I" ∈ lw_tbl := zT16 (List.mem_of_getElem? (i := 131) rfl)
theorem zw4144 : Cond.fieldLink RX13 71 "LinkHouseModel" "words" "[J" ∈ lw_tbl := zT16 (List.mem_of_getElem? (i := 132) rfl)
theorem zw4145 : Cond.fieldLink RX13 75 "LinkHouseModel" "wordMany" "I" ∈ lw_tbl := zT16 (List.mem_of_getElem? (i := 133) rfl)
theorem zw4146 : Cond.fieldLink RX13 84 "LinkHouseModel" "slot" "I" ∈ lw_tbl := zT16 (List.mem_of_getElem? (i := 134) rfl)
theorem zw4147 : Cond.fieldLink RX13 129 "LinkHouseModel" "flaw" "I" ∈ lw_tbl := zT16 (List.mem_of_getElem? (i := 135) rfl)
theorem zw4148 : Cond.fieldLink RX13 132 "LinkHouseModel" "flawAt" "I" ∈ lw_tbl := zT16 (List.mem_of_getElem? (i := 136) rfl)
theorem zw4149 : Cond.fieldLink RX13 135 "LinkHouseModel" "p" "I" ∈ lw_tbl := zT16 (List.mem_of_getElem? (i := 137) rfl)
theorem zw4150 : Cond.fieldLink RX13 230 "LinkHouseModel" "clsMany" "[I" ∈ lw_tbl := zT16 (List.mem_of_getElem? (i := 138) rfl)
theorem zw4151 : Cond.fieldLink RX13 256 "LinkHouseModel" "cName" "[J" ∈ lw_tbl := zT16 (List.mem_of_getElem? (i := 139) rfl)
theorem zw4152 : Cond.fieldLink RX13 259 "LinkHouseModel" "cAt" "[I" ∈ lw_tbl := zT16 (List.mem_of_getElem? (i := 140) rfl)
theorem zw4153 : Cond.fieldLink RX13 262 "LinkHouseModel" "cOpen" "[Z" ∈ lw_tbl := zT16 (List.mem_of_getElem? (i := 141) rfl)
theorem zw4154 : Cond.fieldLink RX13 266 "LinkHouseModel" "cSort" "[I" ∈ lw_tbl := zT16 (List.mem_of_getElem? (i := 142) rfl)
theorem zw4155 : Cond.fieldLink RX13 269 "LinkHouseModel" "cParent" "[J" ∈ lw_tbl := zT16 (List.mem_of_getElem? (i := 143) rfl)
theorem zw4156 : Cond.fieldLink RX13 280 "LinkHouseModel" "cParentAt" "[I" ∈ lw_tbl := zT16 (List.mem_of_getElem? (i := 144) rfl)
theorem zw4157 : Cond.fieldLink RX13 288 "LinkHouseModel" "cFace" "[J" ∈ lw_tbl := zT16 (List.mem_of_getElem? (i := 145) rfl)
theorem zw4158 : Cond.fieldLink RX13 291 "LinkHouseModel" "cFaceAt" "[I" ∈ lw_tbl := zT16 (List.mem_of_getElem? (i := 146) rfl)
theorem zw4159 : Cond.fieldLink RX13 283 "LinkHouseModel" "cFaces" "[I" ∈ lw_tbl := zT16 (List.mem_of_getElem? (i := 147) rfl)
theorem zw4160 : Cond.fieldLink RX13 272 "LinkHouseModel" "cIn" "[J" ∈ lw_tbl := zT16 (List.mem_of_getElem? (i := 148) rfl)
theorem zw4161 : Cond.fieldLink RX13 300 "LinkHouseModel" "cInAt" "[I" ∈ lw_tbl := zT16 (List.mem_of_getElem? (i := 149) rfl)
theorem zw4162 : Cond.fieldLink RX13 308 "LinkHouseModel" "cWith" "[J" ∈ lw_tbl := zT16 (List.mem_of_getElem? (i := 150) rfl)
theorem zw4163 : Cond.fieldLink RX13 311 "LinkHouseModel" "cWithAt" "[I" ∈ lw_tbl := zT16 (List.mem_of_getElem? (i := 151) rfl)
theorem zw4164 : Cond.fieldLink RX13 303 "LinkHouseModel" "cWiths" "[I" ∈ lw_tbl := zT16 (List.mem_of_getElem? (i := 152) rfl)
theorem zw4165 : Cond.fieldLink RX13 319 "LinkHouseModel" "cOnly" "[J" ∈ lw_tbl := zT16 (List.mem_of_getElem? (i := 153) rfl)
theorem zw4166 : Cond.fieldLink RX13 322 "LinkHouseModel" "cOnlyAt" "[I" ∈ lw_tbl := zT16 (List.mem_of_getElem? (i := 154) rfl)
theorem zw4167 : Cond.fieldLink RX13 314 "LinkHouseModel" "cOnlys" "[I" ∈ lw_tbl := zT16 (List.mem_of_getElem? (i := 155) rfl)
theorem zw4168 : Cond.fieldLink RX13 275 "LinkHouseModel" "mMany" "[I" ∈ lw_tbl := zT16 (List.mem_of_getElem? (i := 156) rfl)
theorem zw4169 : Cond.fieldLink RX13 402 "LinkHouseModel" "mKind" "[I" ∈ lw_tbl := zT16 (List.mem_of_getElem? (i := 157) rfl)
theorem zw4170 : Cond.fieldLink RX13 399 "LinkHouseModel" "mTold" "[I" ∈ lw_tbl := zT16 (List.mem_of_getElem? (i := 158) rfl)
theorem zw4171 : Cond.fieldLink RX13 433 "LinkHouseModel" "mAccess" "[I" ∈ lw_tbl := zT16 (List.mem_of_getElem? (i := 159) rfl)
theorem zw4172 : Cond.fieldLink RX13 341 "LinkHouseModel" "mStatic" "[Z" ∈ lw_tbl := zT16 (List.mem_of_getElem? (i := 160) rfl)
theorem zw4173 : Cond.fieldLink RX13 344 "LinkHouseModel" "mFinal" "[Z" ∈ lw_tbl := zT16 (List.mem_of_getElem? (i := 161) rfl)
theorem zw4174 : Cond.fieldLink RX13 436 "LinkHouseModel" "mBare" "[Z" ∈ lw_tbl := zT16 (List.mem_of_getElem? (i := 162) rfl)
theorem zw4175 : Cond.fieldLink RX13 347 "LinkHouseModel" "mBareTold" "[Z" ∈ lw_tbl := zT16 (List.mem_of_getElem? (i := 163) rfl)
theorem zw4176 : Cond.fieldLink RX13 350 "LinkHouseModel" "mBridge" "[Z" ∈ lw_tbl := zT16 (List.mem_of_getElem? (i := 164) rfl)
theorem zw4177 : Cond.fieldLink RX13 353 "LinkHouseModel" "mGiven" "[Z" ∈ lw_tbl := zT16 (List.mem_of_getElem? (i := 165) rfl)
theorem zw4178 : Cond.fieldLink RX13 356 "LinkHouseModel" "mName" "[J" ∈ lw_tbl := zT16 (List.mem_of_getElem? (i := 166) rfl)
theorem zw4179 : Cond.fieldLink RX13 405 "LinkHouseModel" "mAt" "[I" ∈ lw_tbl := zT16 (List.mem_of_getElem? (i := 167) rfl)
theorem zw4180 : Cond.fieldLink RX13 359 "LinkHouseModel" "mType" "[J" ∈ lw_tbl := zT16 (List.mem_of_getElem? (i := 168) rfl)
theorem zw4181 : Cond.fieldLink RX13 420 "LinkHouseModel" "mTypeAt" "[I" ∈ lw_tbl := zT16 (List.mem_of_getElem? (i := 169) rfl)
theorem zw4182 : Cond.fieldLink RX13 362 "LinkHouseModel" "mParams" "[I" ∈ lw_tbl := zT16 (List.mem_of_getElem? (i := 170) rfl)
theorem zw4183 : Cond.fieldLink RX13 442 "LinkHouseModel" "mParam" "[J" ∈ lw_tbl := zT16 (List.mem_of_getElem? (i := 171) rfl)
theorem zw4184 : Cond.fieldLink RX13 439 "LinkHouseModel" "mParamAt" "[I" ∈ lw_tbl := zT16 (List.mem_of_getElem? (i := 172) rfl)
theorem zw4185 : Cond.fieldLink RX13 445 "LinkHouseModel" "mParamName" "[J" ∈ lw_tbl := zT16 (List.mem_of_getElem? (i := 173) rfl)
theorem zw4186 : Cond.fieldLink RX13 448 "LinkHouseModel" "mParamNameAt" "[I" ∈ lw_tbl := zT16 (List.mem_of_getElem? (i := 174) rfl)
theorem zw4187 : Cond.fieldLink RX13 365 "LinkHouseModel" "mExpr" "[I" ∈ lw_tbl := zT16 (List.mem_of_getElem? (i := 175) rfl)
theorem zw4188 : Cond.fieldLink RX13 368 "LinkHouseModel" "mBlock" "[I" ∈ lw_tbl := zT16 (List.mem_of_getElem? (i := 176) rfl)
theorem zw4189 : Cond.fieldLink RX13 371 "LinkHouseModel" "mTokFrom" "[I" ∈ lw_tbl := zT16 (List.mem_of_getElem? (i := 177) rfl)
theorem zw4190 : Cond.fieldLink RX13 374 "LinkHouseModel" "mTokTo" "[I" ∈ lw_tbl := zT16 (List.mem_of_getElem? (i := 178) rfl)
theorem zw4191 : Cond.fieldLink RX13 377 "LinkHouseModel" "mConst" "[Z" ∈ lw_tbl := zT16 (List.mem_of_getElem? (i := 179) rfl)
theorem zw4192 : Cond.fieldLink RX13 380 "LinkHouseModel" "mValue" "[I" ∈ lw_tbl := zT16 (List.mem_of_getElem? (i := 180) rfl)
theorem zw4193 : Cond.fieldLink RX13 383 "LinkHouseModel" "mTarget" "[J" ∈ lw_tbl := zT16 (List.mem_of_getElem? (i := 181) rfl)
theorem zw4194 : Cond.fieldLink RX13 386 "LinkHouseModel" "mUse" "[I" ∈ lw_tbl := zT16 (List.mem_of_getElem? (i := 182) rfl)
theorem zw4195 : Cond.fieldLink RX13 389 "LinkHouseModel" "mLocals" "[I" ∈ lw_tbl := zT16 (List.mem_of_getElem? (i := 183) rfl)
theorem zw4196 : Cond.fieldLink RX13 170 "LinkHouseModel" "nodeMany" "[I" ∈ lw_tbl := zT16 (List.mem_of_getElem? (i := 184) rfl)
theorem zw4197 : Cond.fieldLink RX13 173 "LinkHouseModel" "nKind" "[I" ∈ lw_tbl := zT16 (List.mem_of_getElem? (i := 185) rfl)
theorem zw4198 : Cond.fieldLink RX13 176 "LinkHouseModel" "nAt" "[I" ∈ lw_tbl := zT16 (List.mem_of_getElem? (i := 186) rfl)
theorem zw4199 : Cond.fieldLink RX13 179 "LinkHouseModel" "nNameAt" "[I" ∈ lw_tbl := zT16 (List.mem_of_getElem? (i := 187) rfl)
theorem zw4200 : Cond.fieldLink RX13 182 "LinkHouseModel" "nCAt" "[I" ∈ lw_tbl := zT16 (List.mem_of_getElem? (i := 188) rfl)
theorem zw4201 : Cond.fieldLink RX13 185 "LinkHouseModel" "nName" "[J" ∈ lw_tbl := zT16 (List.mem_of_getElem? (i := 189) rfl)
theorem zw4202 : Cond.fieldLink RX13 188 "LinkHouseModel" "nC" "[J" ∈ lw_tbl := zT16 (List.mem_of_getElem? (i := 190) rfl)
theorem zw4203 : Cond.fieldLink RX13 191 "LinkHouseModel" "nT" "[J" ∈ lw_tbl := zT16 (List.mem_of_getElem? (i := 191) rfl)
theorem zw4204 : Cond.fieldLink RX13 194 "LinkHouseModel" "nA" "[I" ∈ lw_tbl := zT16 (List.mem_of_getElem? (i := 192) rfl)
theorem zw4205 : Cond.fieldLink RX13 197 "LinkHouseModel" "nB" "[I" ∈ lw_tbl := zT16 (List.mem_of_getElem? (i := 193) rfl)
theorem zw4206 : Cond.fieldLink RX13 200 "LinkHouseModel" "nD" "[I" ∈ lw_tbl := zT16 (List.mem_of_getElem? (i := 194) rfl)
theorem zw4207 : Cond.fieldLink RX13 203 "LinkHouseModel" "nNext" "[I" ∈ lw_tbl := zT16 (List.mem_of_getElem? (i := 195) rfl)
theorem zw4208 : Cond.fieldLink RX13 206 "LinkHouseModel" "nValue" "[I" ∈ lw_tbl := zT16 (List.mem_of_getElem? (i := 196) rfl)
theorem zw4209 : Cond.fieldLink RX13 209 "LinkHouseModel" "nMean" "[I" ∈ lw_tbl := zT16 (List.mem_of_getElem? (i := 197) rfl)
theorem zw4210 : Cond.fieldLink RX13 212 "LinkHouseModel" "nX" "[J" ∈ lw_tbl := zT16 (List.mem_of_getElem? (i := 198) rfl)
theorem zw4211 : Cond.fieldLink RX13 215 "LinkHouseModel" "nRes" "[J" ∈ lw_tbl := zT16 (List.mem_of_getElem? (i := 199) rfl)
theorem zw4212 : Cond.fieldLink RX13 218 "LinkHouseModel" "nParams" "[I" ∈ lw_tbl := zT16 (List.mem_of_getElem? (i := 200) rfl)
theorem zw4213 : Cond.fieldLink RX13 825 "LinkHouseModel" "nParam" "[J" ∈ lw_tbl := zT16 (List.mem_of_getElem? (i := 201) rfl)
theorem zw4214 : Cond.fieldLink RX13 221 "LinkHouseModel" "nUse" "[I" ∈ lw_tbl := zT16 (List.mem_of_getElem? (i := 202) rfl)
theorem zw4215 : Cond.fieldLink RX13 224 "LinkHouseModel" "nUse2" "[I" ∈ lw_tbl := zT16 (List.mem_of_getElem? (i := 203) rfl)
theorem zw4216 : Cond.fieldLink RX13 227 "LinkHouseModel" "depth" "I" ∈ lw_tbl := zT16 (List.mem_of_getElem? (i := 204) rfl)
theorem zw4217 : Cond.fieldLink RX13 535 "LinkHouseModel" "world" "[I" ∈ lw_tbl := zT16 (List.mem_of_getElem? (i := 205) rfl)
theorem zw4218 : Cond.fieldLink RX13 528 "LinkHouseModel" "judged" "I" ∈ lw_tbl := zT16 (List.mem_of_getElem? (i := 206) rfl)
theorem zw4220 : Cond.fieldLink RX13 567 "LinkHouseModel" "added" "[I" ∈ lw_tbl := zT16 (List.mem_of_getElem? (i := 208) rfl)
theorem zw4221 : Cond.fieldLink RX13 570 "LinkHouseModel" "opened" "[I" ∈ lw_tbl := zT16 (List.mem_of_getElem? (i := 209) rfl)
theorem zw4223 : Cond.fieldLink RX13 576 "LinkHouseModel" "pile" "[I" ∈ lw_tbl := zT16 (List.mem_of_getElem? (i := 211) rfl)
theorem zw4224 : Cond.fieldLink RX13 611 "LinkHouseModel" "lookedRow" "[I" ∈ lw_tbl := zT16 (List.mem_of_getElem? (i := 212) rfl)
theorem zw4226 : Cond.fieldLink RX13 637 "LinkHouseModel" "special" "[I" ∈ lw_tbl := zT16 (List.mem_of_getElem? (i := 214) rfl)
theorem zw4227 : Cond.fieldLink RX13 630 "LinkHouseModel" "specialFaces" "[I" ∈ lw_tbl := zT16 (List.mem_of_getElem? (i := 215) rfl)
theorem zw4229 : Cond.fieldLink RX13 668 "LinkHouseModel" "above" "[I" ∈ lw_tbl := zT16 (List.mem_of_getElem? (i := 217) rfl)
theorem zw4231 : Cond.fieldLink RX13 674 "LinkHouseModel" "aboveFaces" "[I" ∈ lw_tbl := zT16 (List.mem_of_getElem? (i := 219) rfl)
theorem zw4232 : Cond.fieldLink RX13 705 "LinkHouseModel" "wholeFaces" "[I" ∈ lw_tbl := zT16 (List.mem_of_getElem? (i := 220) rfl)
theorem zw4233 : Cond.fieldLink RX13 726 "LinkHouseModel" "path" "[I" ∈ lw_tbl := zT16 (List.mem_of_getElem? (i := 221) rfl)
theorem zw4238 : Cond.fieldLink RX13 780 "LinkHouseModel" "localName" "[J" ∈ lw_tbl := zT16 (List.mem_of_getElem? (i := 226) rfl)
theorem zw4239 : Cond.fieldLink RX13 783 "LinkHouseModel" "localType" "[J" ∈ lw_tbl := zT16 (List.mem_of_getElem? (i := 227) rfl)
theorem zw4241 : Cond.fieldLink RX13 841 "LinkHouseModel" "candidates" "[I" ∈ lw_tbl := zT16 (List.mem_of_getElem? (i := 229) rfl)
theorem zw4243 : Cond.fieldLink RX13 844 "LinkHouseModel" "candidateFaces" "[I" ∈ lw_tbl := zT16 (List.mem_of_getElem? (i := 231) rfl)
theorem zw4244 : Cond.fieldLink RX13 863 "LinkHouseModel" "uMany" "[I" ∈ lw_tbl := zT16 (List.mem_of_getElem? (i := 232) rfl)
theorem zw4245 : Cond.fieldLink RX13 866 "LinkHouseModel" "uSort" "[I" ∈ lw_tbl := zT16 (List.mem_of_getElem? (i := 233) rfl)
theorem zw4246 : Cond.fieldLink RX13 869 "LinkHouseModel" "uClass" "[I" ∈ lw_tbl := zT16 (List.mem_of_getElem? (i := 234) rfl)
theorem zw4247 : Cond.fieldLink RX13 872 "LinkHouseModel" "uC" "[J" ∈ lw_tbl := zT16 (List.mem_of_getElem? (i := 235) rfl)
theorem zw4248 : Cond.fieldLink RX13 875 "LinkHouseModel" "uName" "[J" ∈ lw_tbl := zT16 (List.mem_of_getElem? (i := 236) rfl)
theorem zw4249 : Cond.fieldLink RX13 878 "LinkHouseModel" "uType" "[J" ∈ lw_tbl := zT16 (List.mem_of_getElem? (i := 237) rfl)
theorem zw4250 : Cond.fieldLink RX13 881 "LinkHouseModel" "uParams" "[I" ∈ lw_tbl := zT16 (List.mem_of_getElem? (i := 238) rfl)
theorem zw4251 : Cond.fieldLink RX13 890 "LinkHouseModel" "uParam" "[J" ∈ lw_tbl := zT16 (List.mem_of_getElem? (i := 239) rfl)
theorem zw4252 : Cond.fieldLink RX13 884 "LinkHouseModel" "uSecond" "[J" ∈ lw_tbl := zT17 (List.mem_of_getElem? (i := 0) rfl)
theorem zw4253 : Cond.fieldLink RX13 887 "LinkHouseModel" "uValue" "[I" ∈ lw_tbl := zT17 (List.mem_of_getElem? (i := 1) rfl)
theorem zw4254 : Cond.fieldLink RX13 962 "LinkHouseModel" "placed" "I" ∈ lw_tbl := zT17 (List.mem_of_getElem? (i := 2) rfl)
theorem zw4255 : Cond.fieldLink RX13 1071 "LinkHouseModel" "worldMany" "I" ∈ lw_tbl := zT17 (List.mem_of_getElem? (i := 3) rfl)
theorem zw4256 : Cond.fieldLink RX13 1077 "LinkHouseModel" "worldClass" "[I" ∈ lw_tbl := zT17 (List.mem_of_getElem? (i := 4) rfl)
theorem zw4257 : Cond.fieldLink RX13 1068 "LinkHouseModel" "worldNumber" "[I" ∈ lw_tbl := zT17 (List.mem_of_getElem? (i := 5) rfl)
theorem zw4258 : Cond.fieldLink RX13 1089 "LinkHouseModel" "state" "[I" ∈ lw_tbl := zT17 (List.mem_of_getElem? (i := 6) rfl)
theorem zw4259 : Cond.fieldLink RX13 1092 "LinkHouseModel" "failure" "[I" ∈ lw_tbl := zT17 (List.mem_of_getElem? (i := 7) rfl)
theorem zw4261 : Cond.fieldLink RX13 1083 "LinkHouseModel" "events" "[I" ∈ lw_tbl := zT17 (List.mem_of_getElem? (i := 9) rfl)
theorem zw4262 : Cond.fieldLink RX13 1086 "LinkHouseModel" "eventMany" "I" ∈ lw_tbl := zT17 (List.mem_of_getElem? (i := 10) rfl)
theorem zw4263 : Cond.fieldLink RX13 1171 "LinkHouseModel" "metMember" "I" ∈ lw_tbl := zT17 (List.mem_of_getElem? (i := 11) rfl)
theorem zw4264 : Cond.fieldLink RX13 1177 "LinkHouseModel" "seenRow" "[I" ∈ lw_tbl := zT17 (List.mem_of_getElem? (i := 12) rfl)
theorem zw4265 : Cond.fieldLink RX13 1174 "LinkHouseModel" "seenMany" "I" ∈ lw_tbl := zT17 (List.mem_of_getElem? (i := 13) rfl)
theorem zw4267 : Cond.fieldLink RX13 1118 "LinkHouseModel" "seenNow" "[I" ∈ lw_tbl := zT17 (List.mem_of_getElem? (i := 15) rfl)
theorem zw4269 : Cond.fieldLink RX13 1148 "LinkHouseModel" "askedFaces" "[I" ∈ lw_tbl := zT17 (List.mem_of_getElem? (i := 17) rfl)
theorem zw4270 : Cond.fieldLink RX13 1183 "LinkHouseModel" "brokenRow" "[I" ∈ lw_tbl := zT17 (List.mem_of_getElem? (i := 18) rfl)
theorem zw4271 : Cond.fieldLink RX13 1180 "LinkHouseModel" "brokenMany" "I" ∈ lw_tbl := zT17 (List.mem_of_getElem? (i := 19) rfl)
theorem zw4272 : Cond.fieldLink RX13 1189 "LinkHouseModel" "chosen" "[I" ∈ lw_tbl := zT17 (List.mem_of_getElem? (i := 20) rfl)
theorem zw4273 : Cond.fieldLink RX13 1186 "LinkHouseModel" "stood" "[I" ∈ lw_tbl := zT17 (List.mem_of_getElem? (i := 21) rfl)
theorem zw4274 : Cond.fieldLink RX13 1204 "LinkHouseModel" "statics" "[I" ∈ lw_tbl := zT17 (List.mem_of_getElem? (i := 22) rfl)
theorem zw4275 : Cond.fieldLink RX13 1216 "LinkHouseModel" "objectClass" "[I" ∈ lw_tbl := zT17 (List.mem_of_getElem? (i := 23) rfl)
theorem zw4276 : Cond.fieldLink RX13 1262 "LinkHouseModel" "objectFrom" "[I" ∈ lw_tbl := zT17 (List.mem_of_getElem? (i := 24) rfl)
theorem zw4277 : Cond.fieldLink RX13 1198 "LinkHouseModel" "objects" "I" ∈ lw_tbl := zT17 (List.mem_of_getElem? (i := 25) rfl)
theorem zw4278 : Cond.fieldLink RX13 1265 "LinkHouseModel" "fields" "[I" ∈ lw_tbl := zT17 (List.mem_of_getElem? (i := 26) rfl)
theorem zw4279 : Cond.fieldLink RX13 1201 "LinkHouseModel" "fieldMany" "I" ∈ lw_tbl := zT17 (List.mem_of_getElem? (i := 27) rfl)
theorem zw4280 : Cond.fieldLink RX13 1282 "LinkHouseModel" "cells" "[I" ∈ lw_tbl := zT17 (List.mem_of_getElem? (i := 28) rfl)
theorem zw4282 : Cond.fieldLink RX13 1297 "LinkHouseModel" "taskNode" "[I" ∈ lw_tbl := zT17 (List.mem_of_getElem? (i := 30) rfl)
theorem zw4283 : Cond.fieldLink RX13 1303 "LinkHouseModel" "taskState" "[I" ∈ lw_tbl := zT17 (List.mem_of_getElem? (i := 31) rfl)
theorem zw4284 : Cond.fieldLink RX13 1328 "LinkHouseModel" "taskValue" "[I" ∈ lw_tbl := zT17 (List.mem_of_getElem? (i := 32) rfl)
theorem zw4285 : Cond.fieldLink RX13 1306 "LinkHouseModel" "taskTo" "[I" ∈ lw_tbl := zT17 (List.mem_of_getElem? (i := 33) rfl)
theorem zw4286 : Cond.fieldLink RX13 1349 "LinkHouseModel" "taskArg" "[I" ∈ lw_tbl := zT17 (List.mem_of_getElem? (i := 34) rfl)
theorem zw4289 : Cond.fieldLink RX13 1268 "LinkHouseModel" "steps" "I" ∈ lw_tbl := zT17 (List.mem_of_getElem? (i := 37) rfl)
theorem zw4293 : Cond.fieldLink RX13 1373 "LinkHouseModel" "runValue" "I" ∈ lw_tbl := zT17 (List.mem_of_getElem? (i := 41) rfl)
theorem zw4294 : Cond.fieldLink RX13 1361 "LinkHouseModel" "outs" "[I" ∈ lw_tbl := zT17 (List.mem_of_getElem? (i := 42) rfl)
theorem zw4295 : Cond.fieldLink RX13 1358 "LinkHouseModel" "toldMany" "I" ∈ lw_tbl := zT17 (List.mem_of_getElem? (i := 43) rfl)
theorem zw4296 : Cond.fieldLink RX13 1245 "LinkHouseModel" "faceSeen" "[I" ∈ lw_tbl := zT17 (List.mem_of_getElem? (i := 44) rfl)
theorem zw4298 : Cond.fieldLink RX13 1239 "LinkHouseModel" "facePile" "[I" ∈ lw_tbl := zT17 (List.mem_of_getElem? (i := 46) rfl)
theorem zw4300 : Cond.fieldLink RX13 1379 "LinkHouseModel" "changes" "[I" ∈ lw_tbl := zT17 (List.mem_of_getElem? (i := 48) rfl)
theorem zw4301 : Cond.fieldLink RX13 1376 "LinkHouseModel" "changeMany" "I" ∈ lw_tbl := zT17 (List.mem_of_getElem? (i := 49) rfl)
theorem zw4302 : Cond.fieldLink RX13 1429 "LinkHouseModel" "restA" "[I" ∈ lw_tbl := zT17 (List.mem_of_getElem? (i := 50) rfl)
theorem zw4303 : Cond.fieldLink RX13 1435 "LinkHouseModel" "restB" "[I" ∈ lw_tbl := zT17 (List.mem_of_getElem? (i := 51) rfl)
theorem zw4304 : Cond.fieldLink RX13 1441 "LinkHouseModel" "keptChanges" "[I" ∈ lw_tbl := zT17 (List.mem_of_getElem? (i := 52) rfl)
theorem zw4305 : Cond.fieldLink RX13 1474 "LinkHouseModel" "useMap" "[I" ∈ lw_tbl := zT17 (List.mem_of_getElem? (i := 53) rfl)
theorem zw4667 : Cond.arrayClass .boolean ∈ lw_tbl := zT18 (List.mem_of_getElem? (i := 175) rfl)
theorem zw4668 : Cond.fieldLink RJ0 9 "java/lang/String" "value" "[B" ∈ lw_tbl := zT18 (List.mem_of_getElem? (i := 176) rfl)
theorem zw4669 : Cond.fieldLink RJ0 15 "java/lang/String" "coder" "B" ∈ lw_tbl := zT18 (List.mem_of_getElem? (i := 177) rfl)
end
