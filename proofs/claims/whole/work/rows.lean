section
-- ===== PART A: goes FIRST, ahead of the names: the tables' words, and 'selects' of the private methods out of them =====
/-- a private method of a class that the tables say can be made, by its rows of tables_1 -/
def lw_okq (q : MethodName × Nat) : Prop := (q.1.cls ≠ "java/lang/invoke/MethodHandle" ∧ q.1.cls ≠ "java/lang/invoke/VarHandle") ∧ Cond.instantiable q.1.cls q.2 ∈ tables_1 ∧ Cond.privateMethod q.1 ∈ tables_1 ∧ Cond.instanceMethod q.1 ∈ tables_1
theorem lw_p0 : lw_okq (⟨"java/lang/Throwable", "fillInStackTrace", "(I)Ljava/lang/Throwable;"⟩, 6) := ⟨⟨by decide +kernel, by decide +kernel⟩, List.mem_of_getElem? (i := 271) (by decide +kernel), List.mem_of_getElem? (i := 269) (by decide +kernel), List.mem_of_getElem? (i := 270) (by decide +kernel)⟩
theorem lw_p1 : lw_okq (⟨"UmbrellaSchool", "change", "(LUmbrellaSchool$Command;IIII)I"⟩, 9) := ⟨⟨by decide +kernel, by decide +kernel⟩, List.mem_of_getElem? (i := 32) (by decide +kernel), List.mem_of_getElem? (i := 361) (by decide +kernel), List.mem_of_getElem? (i := 362) (by decide +kernel)⟩
theorem lw_p2 : lw_okq (⟨"UmbrellaSchool", "refusalOf", "(LUmbrellaSchool$Command;IIII)LUmbrellaSchool$Refusal;"⟩, 9) := ⟨⟨by decide +kernel, by decide +kernel⟩, List.mem_of_getElem? (i := 32) (by decide +kernel), List.mem_of_getElem? (i := 365) (by decide +kernel), List.mem_of_getElem? (i := 366) (by decide +kernel)⟩
theorem lw_p3 : lw_okq (⟨"UmbrellaSchool", "refusalFor", "(IZ)LUmbrellaSchool$Refusal;"⟩, 9) := ⟨⟨by decide +kernel, by decide +kernel⟩, List.mem_of_getElem? (i := 32) (by decide +kernel), List.mem_of_getElem? (i := 389) (by decide +kernel), List.mem_of_getElem? (i := 390) (by decide +kernel)⟩
theorem lw_p4 : lw_okq (⟨"UmbrellaSchool", "keepForUndo", "()V"⟩, 9) := ⟨⟨by decide +kernel, by decide +kernel⟩, List.mem_of_getElem? (i := 32) (by decide +kernel), List.mem_of_getElem? (i := 433) (by decide +kernel), List.mem_of_getElem? (i := 434) (by decide +kernel)⟩
theorem lw_p5 : lw_okq (⟨"UmbrellaSchool", "perform", "(LUmbrellaSchool$Command;IIII)I"⟩, 9) := ⟨⟨by decide +kernel, by decide +kernel⟩, List.mem_of_getElem? (i := 32) (by decide +kernel), List.mem_of_getElem? (i := 437) (by decide +kernel), List.mem_of_getElem? (i := 438) (by decide +kernel)⟩
theorem lw_p6 : lw_okq (⟨"UmbrellaSchool", "countChange", "()V"⟩, 9) := ⟨⟨by decide +kernel, by decide +kernel⟩, List.mem_of_getElem? (i := 32) (by decide +kernel), List.mem_of_getElem? (i := 533) (by decide +kernel), List.mem_of_getElem? (i := 534) (by decide +kernel)⟩
theorem lw_p7 : lw_okq (⟨"UmbrellaSchool", "moveOldestToEnd", "()V"⟩, 9) := ⟨⟨by decide +kernel, by decide +kernel⟩, List.mem_of_getElem? (i := 32) (by decide +kernel), List.mem_of_getElem? (i := 537) (by decide +kernel), List.mem_of_getElem? (i := 538) (by decide +kernel)⟩
theorem lw_p8 : lw_okq (⟨"UmbrellaSchool", "rankedSituation", "(II)I"⟩, 9) := ⟨⟨by decide +kernel, by decide +kernel⟩, List.mem_of_getElem? (i := 32) (by decide +kernel), List.mem_of_getElem? (i := 799) (by decide +kernel), List.mem_of_getElem? (i := 800) (by decide +kernel)⟩
theorem lw_p9 : lw_okq (⟨"UmbrellaSchool", "findFormError", "()I"⟩, 9) := ⟨⟨by decide +kernel, by decide +kernel⟩, List.mem_of_getElem? (i := 32) (by decide +kernel), List.mem_of_getElem? (i := 1241) (by decide +kernel), List.mem_of_getElem? (i := 1242) (by decide +kernel)⟩
theorem lw_p10 : lw_okq (⟨"UmbrellaSchool", "commandEnd", "(I)I"⟩, 9) := ⟨⟨by decide +kernel, by decide +kernel⟩, List.mem_of_getElem? (i := 32) (by decide +kernel), List.mem_of_getElem? (i := 1245) (by decide +kernel), List.mem_of_getElem? (i := 1246) (by decide +kernel)⟩
theorem lw_p11 : lw_okq (⟨"UmbrellaSchool", "commandAt", "(II)LUmbrellaSchool$Command;"⟩, 9) := ⟨⟨by decide +kernel, by decide +kernel⟩, List.mem_of_getElem? (i := 32) (by decide +kernel), List.mem_of_getElem? (i := 1249) (by decide +kernel), List.mem_of_getElem? (i := 1250) (by decide +kernel)⟩
theorem lw_p12 : lw_okq (⟨"UmbrellaSchool", "matchedLength", "(Ljava/lang/String;I)I"⟩, 9) := ⟨⟨by decide +kernel, by decide +kernel⟩, List.mem_of_getElem? (i := 32) (by decide +kernel), List.mem_of_getElem? (i := 1255) (by decide +kernel), List.mem_of_getElem? (i := 1256) (by decide +kernel)⟩
theorem lw_p13 : lw_okq (⟨"UmbrellaSchool", "longestMatch", "(I)I"⟩, 9) := ⟨⟨by decide +kernel, by decide +kernel⟩, List.mem_of_getElem? (i := 32) (by decide +kernel), List.mem_of_getElem? (i := 1281) (by decide +kernel), List.mem_of_getElem? (i := 1282) (by decide +kernel)⟩
theorem lw_p14 : lw_okq (⟨"UmbrellaSchool", "countCommands", "()I"⟩, 9) := ⟨⟨by decide +kernel, by decide +kernel⟩, List.mem_of_getElem? (i := 32) (by decide +kernel), List.mem_of_getElem? (i := 1287) (by decide +kernel), List.mem_of_getElem? (i := 1288) (by decide +kernel)⟩
theorem lw_p15 : lw_okq (⟨"UmbrellaSchool", "runCommand", "(I)Z"⟩, 9) := ⟨⟨by decide +kernel, by decide +kernel⟩, List.mem_of_getElem? (i := 32) (by decide +kernel), List.mem_of_getElem? (i := 1291) (by decide +kernel), List.mem_of_getElem? (i := 1292) (by decide +kernel)⟩
def lw_privs_1 : List (MethodName × Nat) := [(⟨"java/lang/Throwable", "fillInStackTrace", "(I)Ljava/lang/Throwable;"⟩, 6), (⟨"UmbrellaSchool", "change", "(LUmbrellaSchool$Command;IIII)I"⟩, 9), (⟨"UmbrellaSchool", "refusalOf", "(LUmbrellaSchool$Command;IIII)LUmbrellaSchool$Refusal;"⟩, 9), (⟨"UmbrellaSchool", "refusalFor", "(IZ)LUmbrellaSchool$Refusal;"⟩, 9), (⟨"UmbrellaSchool", "keepForUndo", "()V"⟩, 9), (⟨"UmbrellaSchool", "perform", "(LUmbrellaSchool$Command;IIII)I"⟩, 9), (⟨"UmbrellaSchool", "countChange", "()V"⟩, 9), (⟨"UmbrellaSchool", "moveOldestToEnd", "()V"⟩, 9), (⟨"UmbrellaSchool", "rankedSituation", "(II)I"⟩, 9), (⟨"UmbrellaSchool", "findFormError", "()I"⟩, 9), (⟨"UmbrellaSchool", "commandEnd", "(I)I"⟩, 9), (⟨"UmbrellaSchool", "commandAt", "(II)LUmbrellaSchool$Command;"⟩, 9), (⟨"UmbrellaSchool", "matchedLength", "(Ljava/lang/String;I)I"⟩, 9), (⟨"UmbrellaSchool", "longestMatch", "(I)I"⟩, 9), (⟨"UmbrellaSchool", "countCommands", "()I"⟩, 9), (⟨"UmbrellaSchool", "runCommand", "(I)Z"⟩, 9)]
theorem lw_r1 : ∀ q ∈ lw_privs_1, lw_okq q := List.forall_mem_cons.mpr ⟨lw_p0, List.forall_mem_cons.mpr ⟨lw_p1, List.forall_mem_cons.mpr ⟨lw_p2, List.forall_mem_cons.mpr ⟨lw_p3, List.forall_mem_cons.mpr ⟨lw_p4, List.forall_mem_cons.mpr ⟨lw_p5, List.forall_mem_cons.mpr ⟨lw_p6, List.forall_mem_cons.mpr ⟨lw_p7, List.forall_mem_cons.mpr ⟨lw_p8, List.forall_mem_cons.mpr ⟨lw_p9, List.forall_mem_cons.mpr ⟨lw_p10, List.forall_mem_cons.mpr ⟨lw_p11, List.forall_mem_cons.mpr ⟨lw_p12, List.forall_mem_cons.mpr ⟨lw_p13, List.forall_mem_cons.mpr ⟨lw_p14, List.forall_mem_cons.mpr ⟨lw_p15, fun _ h => absurd h List.not_mem_nil⟩⟩⟩⟩⟩⟩⟩⟩⟩⟩⟩⟩⟩⟩⟩⟩
theorem lw_p16 : lw_okq (⟨"UmbrellaSchool", "digitAt", "(III)I"⟩, 9) := ⟨⟨by decide +kernel, by decide +kernel⟩, List.mem_of_getElem? (i := 32) (by decide +kernel), List.mem_of_getElem? (i := 1295) (by decide +kernel), List.mem_of_getElem? (i := 1296) (by decide +kernel)⟩
theorem lw_p17 : lw_okq (⟨"UmbrellaSchool", "takeBack", "()V"⟩, 9) := ⟨⟨by decide +kernel, by decide +kernel⟩, List.mem_of_getElem? (i := 32) (by decide +kernel), List.mem_of_getElem? (i := 1299) (by decide +kernel), List.mem_of_getElem? (i := 1300) (by decide +kernel)⟩
theorem lw_p18 : lw_okq (⟨"UmbrellaSchoolModel", "notAdd", "(I)I"⟩, 18) := ⟨⟨by decide +kernel, by decide +kernel⟩, List.mem_of_getElem? (i := 1340) (by decide +kernel), List.mem_of_getElem? (i := 1406) (by decide +kernel), List.mem_of_getElem? (i := 1407) (by decide +kernel)⟩
theorem lw_p19 : lw_okq (⟨"UmbrellaSchoolModel", "fails", "(I)I"⟩, 18) := ⟨⟨by decide +kernel, by decide +kernel⟩, List.mem_of_getElem? (i := 1340) (by decide +kernel), List.mem_of_getElem? (i := 1413) (by decide +kernel), List.mem_of_getElem? (i := 1414) (by decide +kernel)⟩
theorem lw_p20 : lw_okq (⟨"UmbrellaSchoolModel", "remembers", "()V"⟩, 18) := ⟨⟨by decide +kernel, by decide +kernel⟩, List.mem_of_getElem? (i := 1340) (by decide +kernel), List.mem_of_getElem? (i := 1417) (by decide +kernel), List.mem_of_getElem? (i := 1418) (by decide +kernel)⟩
theorem lw_p21 : lw_okq (⟨"UmbrellaSchoolModel", "copies", "()V"⟩, 18) := ⟨⟨by decide +kernel, by decide +kernel⟩, List.mem_of_getElem? (i := 1340) (by decide +kernel), List.mem_of_getElem? (i := 1421) (by decide +kernel), List.mem_of_getElem? (i := 1422) (by decide +kernel)⟩
theorem lw_p22 : lw_okq (⟨"UmbrellaSchoolModel", "keeps", "()V"⟩, 18) := ⟨⟨by decide +kernel, by decide +kernel⟩, List.mem_of_getElem? (i := 1340) (by decide +kernel), List.mem_of_getElem? (i := 1425) (by decide +kernel), List.mem_of_getElem? (i := 1426) (by decide +kernel)⟩
theorem lw_p23 : lw_okq (⟨"UmbrellaSchoolModel", "addsUmbrella", "(I)I"⟩, 18) := ⟨⟨by decide +kernel, by decide +kernel⟩, List.mem_of_getElem? (i := 1340) (by decide +kernel), List.mem_of_getElem? (i := 1429) (by decide +kernel), List.mem_of_getElem? (i := 1430) (by decide +kernel)⟩
theorem lw_p24 : lw_okq (⟨"UmbrellaSchoolModel", "puts", "(III)V"⟩, 18) := ⟨⟨by decide +kernel, by decide +kernel⟩, List.mem_of_getElem? (i := 1340) (by decide +kernel), List.mem_of_getElem? (i := 1433) (by decide +kernel), List.mem_of_getElem? (i := 1434) (by decide +kernel)⟩
theorem lw_p25 : lw_okq (⟨"UmbrellaSchoolModel", "notTrain", "(IIII)I"⟩, 18) := ⟨⟨by decide +kernel, by decide +kernel⟩, List.mem_of_getElem? (i := 1340) (by decide +kernel), List.mem_of_getElem? (i := 1441) (by decide +kernel), List.mem_of_getElem? (i := 1442) (by decide +kernel)⟩
theorem lw_p26 : lw_okq (⟨"UmbrellaSchoolModel", "isUmbrella", "(I)Z"⟩, 18) := ⟨⟨by decide +kernel, by decide +kernel⟩, List.mem_of_getElem? (i := 1340) (by decide +kernel), List.mem_of_getElem? (i := 1445) (by decide +kernel), List.mem_of_getElem? (i := 1446) (by decide +kernel)⟩
theorem lw_p27 : lw_okq (⟨"UmbrellaSchoolModel", "trains", "(IIII)I"⟩, 18) := ⟨⟨by decide +kernel, by decide +kernel⟩, List.mem_of_getElem? (i := 1340) (by decide +kernel), List.mem_of_getElem? (i := 1452) (by decide +kernel), List.mem_of_getElem? (i := 1453) (by decide +kernel)⟩
theorem lw_p28 : lw_okq (⟨"UmbrellaSchoolModel", "tries", "(III)I"⟩, 18) := ⟨⟨by decide +kernel, by decide +kernel⟩, List.mem_of_getElem? (i := 1340) (by decide +kernel), List.mem_of_getElem? (i := 1456) (by decide +kernel), List.mem_of_getElem? (i := 1457) (by decide +kernel)⟩
theorem lw_p29 : lw_okq (⟨"UmbrellaSchoolModel", "habit", "(III)I"⟩, 18) := ⟨⟨by decide +kernel, by decide +kernel⟩, List.mem_of_getElem? (i := 1340) (by decide +kernel), List.mem_of_getElem? (i := 1460) (by decide +kernel), List.mem_of_getElem? (i := 1461) (by decide +kernel)⟩
theorem lw_p30 : lw_okq (⟨"UmbrellaSchoolModel", "triedTimes", "(IIII)I"⟩, 18) := ⟨⟨by decide +kernel, by decide +kernel⟩, List.mem_of_getElem? (i := 1340) (by decide +kernel), List.mem_of_getElem? (i := 1464) (by decide +kernel), List.mem_of_getElem? (i := 1465) (by decide +kernel)⟩
theorem lw_p31 : lw_okq (⟨"UmbrellaSchoolModel", "of", "(II)I"⟩, 18) := ⟨⟨by decide +kernel, by decide +kernel⟩, List.mem_of_getElem? (i := 1340) (by decide +kernel), List.mem_of_getElem? (i := 1468) (by decide +kernel), List.mem_of_getElem? (i := 1469) (by decide +kernel)⟩
def lw_privs_2 : List (MethodName × Nat) := [(⟨"UmbrellaSchool", "digitAt", "(III)I"⟩, 9), (⟨"UmbrellaSchool", "takeBack", "()V"⟩, 9), (⟨"UmbrellaSchoolModel", "notAdd", "(I)I"⟩, 18), (⟨"UmbrellaSchoolModel", "fails", "(I)I"⟩, 18), (⟨"UmbrellaSchoolModel", "remembers", "()V"⟩, 18), (⟨"UmbrellaSchoolModel", "copies", "()V"⟩, 18), (⟨"UmbrellaSchoolModel", "keeps", "()V"⟩, 18), (⟨"UmbrellaSchoolModel", "addsUmbrella", "(I)I"⟩, 18), (⟨"UmbrellaSchoolModel", "puts", "(III)V"⟩, 18), (⟨"UmbrellaSchoolModel", "notTrain", "(IIII)I"⟩, 18), (⟨"UmbrellaSchoolModel", "isUmbrella", "(I)Z"⟩, 18), (⟨"UmbrellaSchoolModel", "trains", "(IIII)I"⟩, 18), (⟨"UmbrellaSchoolModel", "tries", "(III)I"⟩, 18), (⟨"UmbrellaSchoolModel", "habit", "(III)I"⟩, 18), (⟨"UmbrellaSchoolModel", "triedTimes", "(IIII)I"⟩, 18), (⟨"UmbrellaSchoolModel", "of", "(II)I"⟩, 18)]
theorem lw_r2 : ∀ q ∈ lw_privs_2, lw_okq q := List.forall_mem_cons.mpr ⟨lw_p16, List.forall_mem_cons.mpr ⟨lw_p17, List.forall_mem_cons.mpr ⟨lw_p18, List.forall_mem_cons.mpr ⟨lw_p19, List.forall_mem_cons.mpr ⟨lw_p20, List.forall_mem_cons.mpr ⟨lw_p21, List.forall_mem_cons.mpr ⟨lw_p22, List.forall_mem_cons.mpr ⟨lw_p23, List.forall_mem_cons.mpr ⟨lw_p24, List.forall_mem_cons.mpr ⟨lw_p25, List.forall_mem_cons.mpr ⟨lw_p26, List.forall_mem_cons.mpr ⟨lw_p27, List.forall_mem_cons.mpr ⟨lw_p28, List.forall_mem_cons.mpr ⟨lw_p29, List.forall_mem_cons.mpr ⟨lw_p30, List.forall_mem_cons.mpr ⟨lw_p31, fun _ h => absurd h List.not_mem_nil⟩⟩⟩⟩⟩⟩⟩⟩⟩⟩⟩⟩⟩⟩⟩⟩
theorem lw_p32 : lw_okq (⟨"UmbrellaSchoolModel", "sumOf", "(IIII)I"⟩, 18) := ⟨⟨by decide +kernel, by decide +kernel⟩, List.mem_of_getElem? (i := 1340) (by decide +kernel), List.mem_of_getElem? (i := 1472) (by decide +kernel), List.mem_of_getElem? (i := 1473) (by decide +kernel)⟩
theorem lw_p33 : lw_okq (⟨"UmbrellaSchoolModel", "explores", "(I)Z"⟩, 18) := ⟨⟨by decide +kernel, by decide +kernel⟩, List.mem_of_getElem? (i := 1340) (by decide +kernel), List.mem_of_getElem? (i := 1479) (by decide +kernel), List.mem_of_getElem? (i := 1480) (by decide +kernel)⟩
theorem lw_p34 : lw_okq (⟨"UmbrellaSchoolModel", "rewardNow", "(III)I"⟩, 18) := ⟨⟨by decide +kernel, by decide +kernel⟩, List.mem_of_getElem? (i := 1340) (by decide +kernel), List.mem_of_getElem? (i := 1483) (by decide +kernel), List.mem_of_getElem? (i := 1484) (by decide +kernel)⟩
theorem lw_p35 : lw_okq (⟨"UmbrellaSchoolModel", "learns", "(II)V"⟩, 18) := ⟨⟨by decide +kernel, by decide +kernel⟩, List.mem_of_getElem? (i := 1340) (by decide +kernel), List.mem_of_getElem? (i := 1490) (by decide +kernel), List.mem_of_getElem? (i := 1491) (by decide +kernel)⟩
theorem lw_p36 : lw_okq (⟨"UmbrellaSchoolModel", "adds", "(III)V"⟩, 18) := ⟨⟨by decide +kernel, by decide +kernel⟩, List.mem_of_getElem? (i := 1340) (by decide +kernel), List.mem_of_getElem? (i := 1494) (by decide +kernel), List.mem_of_getElem? (i := 1495) (by decide +kernel)⟩
theorem lw_p37 : lw_okq (⟨"UmbrellaSchoolModel", "notPeriod", "(II)I"⟩, 18) := ⟨⟨by decide +kernel, by decide +kernel⟩, List.mem_of_getElem? (i := 1340) (by decide +kernel), List.mem_of_getElem? (i := 1502) (by decide +kernel), List.mem_of_getElem? (i := 1503) (by decide +kernel)⟩
theorem lw_p38 : lw_okq (⟨"UmbrellaSchoolModel", "setsPeriod", "(II)I"⟩, 18) := ⟨⟨by decide +kernel, by decide +kernel⟩, List.mem_of_getElem? (i := 1340) (by decide +kernel), List.mem_of_getElem? (i := 1506) (by decide +kernel), List.mem_of_getElem? (i := 1507) (by decide +kernel)⟩
theorem lw_p39 : lw_okq (⟨"UmbrellaSchoolModel", "setsChecked", "(II)I"⟩, 18) := ⟨⟨by decide +kernel, by decide +kernel⟩, List.mem_of_getElem? (i := 1340) (by decide +kernel), List.mem_of_getElem? (i := 1514) (by decide +kernel), List.mem_of_getElem? (i := 1515) (by decide +kernel)⟩
theorem lw_p40 : lw_okq (⟨"UmbrellaSchoolModel", "sets", "(II)I"⟩, 18) := ⟨⟨by decide +kernel, by decide +kernel⟩, List.mem_of_getElem? (i := 1340) (by decide +kernel), List.mem_of_getElem? (i := 1521) (by decide +kernel), List.mem_of_getElem? (i := 1522) (by decide +kernel)⟩
theorem lw_p41 : lw_okq (⟨"UmbrellaSchoolModel", "notOne", "(II)I"⟩, 18) := ⟨⟨by decide +kernel, by decide +kernel⟩, List.mem_of_getElem? (i := 1340) (by decide +kernel), List.mem_of_getElem? (i := 1533) (by decide +kernel), List.mem_of_getElem? (i := 1534) (by decide +kernel)⟩
theorem lw_p42 : lw_okq (⟨"UmbrellaSchoolModel", "forgets", "(II)I"⟩, 18) := ⟨⟨by decide +kernel, by decide +kernel⟩, List.mem_of_getElem? (i := 1340) (by decide +kernel), List.mem_of_getElem? (i := 1537) (by decide +kernel), List.mem_of_getElem? (i := 1538) (by decide +kernel)⟩
theorem lw_p43 : lw_okq (⟨"UmbrellaSchoolModel", "examines", "(II)I"⟩, 18) := ⟨⟨by decide +kernel, by decide +kernel⟩, List.mem_of_getElem? (i := 1340) (by decide +kernel), List.mem_of_getElem? (i := 1548) (by decide +kernel), List.mem_of_getElem? (i := 1549) (by decide +kernel)⟩
theorem lw_p44 : lw_okq (⟨"UmbrellaSchoolModel", "isRight", "(III)Z"⟩, 18) := ⟨⟨by decide +kernel, by decide +kernel⟩, List.mem_of_getElem? (i := 1340) (by decide +kernel), List.mem_of_getElem? (i := 1552) (by decide +kernel), List.mem_of_getElem? (i := 1553) (by decide +kernel)⟩
theorem lw_p45 : lw_okq (⟨"UmbrellaSchoolModel", "isRightToOpen", "(II)Z"⟩, 18) := ⟨⟨by decide +kernel, by decide +kernel⟩, List.mem_of_getElem? (i := 1340) (by decide +kernel), List.mem_of_getElem? (i := 1556) (by decide +kernel), List.mem_of_getElem? (i := 1557) (by decide +kernel)⟩
theorem lw_p46 : lw_okq (⟨"UmbrellaSchoolModel", "hasExamOf", "(II)Z"⟩, 18) := ⟨⟨by decide +kernel, by decide +kernel⟩, List.mem_of_getElem? (i := 1340) (by decide +kernel), List.mem_of_getElem? (i := 1560) (by decide +kernel), List.mem_of_getElem? (i := 1561) (by decide +kernel)⟩
theorem lw_p47 : lw_okq (⟨"UmbrellaSchoolModel", "notEnd", "()I"⟩, 18) := ⟨⟨by decide +kernel, by decide +kernel⟩, List.mem_of_getElem? (i := 1340) (by decide +kernel), List.mem_of_getElem? (i := 1568) (by decide +kernel), List.mem_of_getElem? (i := 1569) (by decide +kernel)⟩
def lw_privs_3 : List (MethodName × Nat) := [(⟨"UmbrellaSchoolModel", "sumOf", "(IIII)I"⟩, 18), (⟨"UmbrellaSchoolModel", "explores", "(I)Z"⟩, 18), (⟨"UmbrellaSchoolModel", "rewardNow", "(III)I"⟩, 18), (⟨"UmbrellaSchoolModel", "learns", "(II)V"⟩, 18), (⟨"UmbrellaSchoolModel", "adds", "(III)V"⟩, 18), (⟨"UmbrellaSchoolModel", "notPeriod", "(II)I"⟩, 18), (⟨"UmbrellaSchoolModel", "setsPeriod", "(II)I"⟩, 18), (⟨"UmbrellaSchoolModel", "setsChecked", "(II)I"⟩, 18), (⟨"UmbrellaSchoolModel", "sets", "(II)I"⟩, 18), (⟨"UmbrellaSchoolModel", "notOne", "(II)I"⟩, 18), (⟨"UmbrellaSchoolModel", "forgets", "(II)I"⟩, 18), (⟨"UmbrellaSchoolModel", "examines", "(II)I"⟩, 18), (⟨"UmbrellaSchoolModel", "isRight", "(III)Z"⟩, 18), (⟨"UmbrellaSchoolModel", "isRightToOpen", "(II)Z"⟩, 18), (⟨"UmbrellaSchoolModel", "hasExamOf", "(II)Z"⟩, 18), (⟨"UmbrellaSchoolModel", "notEnd", "()I"⟩, 18)]
theorem lw_r3 : ∀ q ∈ lw_privs_3, lw_okq q := List.forall_mem_cons.mpr ⟨lw_p32, List.forall_mem_cons.mpr ⟨lw_p33, List.forall_mem_cons.mpr ⟨lw_p34, List.forall_mem_cons.mpr ⟨lw_p35, List.forall_mem_cons.mpr ⟨lw_p36, List.forall_mem_cons.mpr ⟨lw_p37, List.forall_mem_cons.mpr ⟨lw_p38, List.forall_mem_cons.mpr ⟨lw_p39, List.forall_mem_cons.mpr ⟨lw_p40, List.forall_mem_cons.mpr ⟨lw_p41, List.forall_mem_cons.mpr ⟨lw_p42, List.forall_mem_cons.mpr ⟨lw_p43, List.forall_mem_cons.mpr ⟨lw_p44, List.forall_mem_cons.mpr ⟨lw_p45, List.forall_mem_cons.mpr ⟨lw_p46, List.forall_mem_cons.mpr ⟨lw_p47, fun _ h => absurd h List.not_mem_nil⟩⟩⟩⟩⟩⟩⟩⟩⟩⟩⟩⟩⟩⟩⟩⟩
theorem lw_p48 : lw_okq (⟨"UmbrellaSchoolModel", "endsTerm", "()I"⟩, 18) := ⟨⟨by decide +kernel, by decide +kernel⟩, List.mem_of_getElem? (i := 1340) (by decide +kernel), List.mem_of_getElem? (i := 1572) (by decide +kernel), List.mem_of_getElem? (i := 1573) (by decide +kernel)⟩
theorem lw_p49 : lw_okq (⟨"UmbrellaSchoolModel", "asks", "(I)I"⟩, 18) := ⟨⟨by decide +kernel, by decide +kernel⟩, List.mem_of_getElem? (i := 1340) (by decide +kernel), List.mem_of_getElem? (i := 1580) (by decide +kernel), List.mem_of_getElem? (i := 1581) (by decide +kernel)⟩
theorem lw_p50 : lw_okq (⟨"UmbrellaSchoolModel", "asksUmbrella", "(II)I"⟩, 18) := ⟨⟨by decide +kernel, by decide +kernel⟩, List.mem_of_getElem? (i := 1340) (by decide +kernel), List.mem_of_getElem? (i := 1588) (by decide +kernel), List.mem_of_getElem? (i := 1589) (by decide +kernel)⟩
theorem lw_p51 : lw_okq (⟨"UmbrellaSchoolModel", "trialAt", "(II)I"⟩, 18) := ⟨⟨by decide +kernel, by decide +kernel⟩, List.mem_of_getElem? (i := 1340) (by decide +kernel), List.mem_of_getElem? (i := 1608) (by decide +kernel), List.mem_of_getElem? (i := 1609) (by decide +kernel)⟩
theorem lw_p52 : lw_okq (⟨"UmbrellaSchoolModel", "notAsk", "(III)I"⟩, 18) := ⟨⟨by decide +kernel, by decide +kernel⟩, List.mem_of_getElem? (i := 1340) (by decide +kernel), List.mem_of_getElem? (i := 1632) (by decide +kernel), List.mem_of_getElem? (i := 1633) (by decide +kernel)⟩
theorem lw_p53 : lw_okq (⟨"UmbrellaSchoolModel", "trialsIn", "(II)I"⟩, 18) := ⟨⟨by decide +kernel, by decide +kernel⟩, List.mem_of_getElem? (i := 1340) (by decide +kernel), List.mem_of_getElem? (i := 1665) (by decide +kernel), List.mem_of_getElem? (i := 1666) (by decide +kernel)⟩
theorem lw_p54 : lw_okq (⟨"UmbrellaSchoolModel", "situationAt", "(II)I"⟩, 18) := ⟨⟨by decide +kernel, by decide +kernel⟩, List.mem_of_getElem? (i := 1340) (by decide +kernel), List.mem_of_getElem? (i := 1673) (by decide +kernel), List.mem_of_getElem? (i := 1674) (by decide +kernel)⟩
theorem lw_p55 : lw_okq (⟨"UmbrellaSchoolModel", "isAhead", "(II)Z"⟩, 18) := ⟨⟨by decide +kernel, by decide +kernel⟩, List.mem_of_getElem? (i := 1340) (by decide +kernel), List.mem_of_getElem? (i := 1705) (by decide +kernel), List.mem_of_getElem? (i := 1706) (by decide +kernel)⟩
theorem lw_p56 : lw_okq (⟨"UmbrellaSchoolModel", "rewardAll", "()I"⟩, 18) := ⟨⟨by decide +kernel, by decide +kernel⟩, List.mem_of_getElem? (i := 1340) (by decide +kernel), List.mem_of_getElem? (i := 1725) (by decide +kernel), List.mem_of_getElem? (i := 1726) (by decide +kernel)⟩
theorem lw_p57 : lw_okq (⟨"UmbrellaSchoolModel", "writes", "(I)V"⟩, 18) := ⟨⟨by decide +kernel, by decide +kernel⟩, List.mem_of_getElem? (i := 1340) (by decide +kernel), List.mem_of_getElem? (i := 1749) (by decide +kernel), List.mem_of_getElem? (i := 1750) (by decide +kernel)⟩
theorem lw_p58 : lw_okq (⟨"UmbrellaSchoolModel", "writesNumber", "(I)V"⟩, 18) := ⟨⟨by decide +kernel, by decide +kernel⟩, List.mem_of_getElem? (i := 1340) (by decide +kernel), List.mem_of_getElem? (i := 1757) (by decide +kernel), List.mem_of_getElem? (i := 1758) (by decide +kernel)⟩
theorem lw_p59 : lw_okq (⟨"UmbrellaSchoolModel", "readsAll", "()Z"⟩, 18) := ⟨⟨by decide +kernel, by decide +kernel⟩, List.mem_of_getElem? (i := 1340) (by decide +kernel), List.mem_of_getElem? (i := 1773) (by decide +kernel), List.mem_of_getElem? (i := 1774) (by decide +kernel)⟩
theorem lw_p60 : lw_okq (⟨"UmbrellaSchoolModel", "readsCommand", "()Z"⟩, 18) := ⟨⟨by decide +kernel, by decide +kernel⟩, List.mem_of_getElem? (i := 1340) (by decide +kernel), List.mem_of_getElem? (i := 1777) (by decide +kernel), List.mem_of_getElem? (i := 1778) (by decide +kernel)⟩
theorem lw_p61 : lw_okq (⟨"UmbrellaSchoolModel", "nextChar", "()I"⟩, 18) := ⟨⟨by decide +kernel, by decide +kernel⟩, List.mem_of_getElem? (i := 1340) (by decide +kernel), List.mem_of_getElem? (i := 1781) (by decide +kernel), List.mem_of_getElem? (i := 1782) (by decide +kernel)⟩
theorem lw_p62 : lw_okq (⟨"UmbrellaSchoolModel", "reads", "(I)Z"⟩, 18) := ⟨⟨by decide +kernel, by decide +kernel⟩, List.mem_of_getElem? (i := 1340) (by decide +kernel), List.mem_of_getElem? (i := 1785) (by decide +kernel), List.mem_of_getElem? (i := 1786) (by decide +kernel)⟩
theorem lw_p63 : lw_okq (⟨"UmbrellaSchoolModel", "readsNumber", "(I)Z"⟩, 18) := ⟨⟨by decide +kernel, by decide +kernel⟩, List.mem_of_getElem? (i := 1340) (by decide +kernel), List.mem_of_getElem? (i := 1789) (by decide +kernel), List.mem_of_getElem? (i := 1790) (by decide +kernel)⟩
def lw_privs_4 : List (MethodName × Nat) := [(⟨"UmbrellaSchoolModel", "endsTerm", "()I"⟩, 18), (⟨"UmbrellaSchoolModel", "asks", "(I)I"⟩, 18), (⟨"UmbrellaSchoolModel", "asksUmbrella", "(II)I"⟩, 18), (⟨"UmbrellaSchoolModel", "trialAt", "(II)I"⟩, 18), (⟨"UmbrellaSchoolModel", "notAsk", "(III)I"⟩, 18), (⟨"UmbrellaSchoolModel", "trialsIn", "(II)I"⟩, 18), (⟨"UmbrellaSchoolModel", "situationAt", "(II)I"⟩, 18), (⟨"UmbrellaSchoolModel", "isAhead", "(II)Z"⟩, 18), (⟨"UmbrellaSchoolModel", "rewardAll", "()I"⟩, 18), (⟨"UmbrellaSchoolModel", "writes", "(I)V"⟩, 18), (⟨"UmbrellaSchoolModel", "writesNumber", "(I)V"⟩, 18), (⟨"UmbrellaSchoolModel", "readsAll", "()Z"⟩, 18), (⟨"UmbrellaSchoolModel", "readsCommand", "()Z"⟩, 18), (⟨"UmbrellaSchoolModel", "nextChar", "()I"⟩, 18), (⟨"UmbrellaSchoolModel", "reads", "(I)Z"⟩, 18), (⟨"UmbrellaSchoolModel", "readsNumber", "(I)Z"⟩, 18)]
theorem lw_r4 : ∀ q ∈ lw_privs_4, lw_okq q := List.forall_mem_cons.mpr ⟨lw_p48, List.forall_mem_cons.mpr ⟨lw_p49, List.forall_mem_cons.mpr ⟨lw_p50, List.forall_mem_cons.mpr ⟨lw_p51, List.forall_mem_cons.mpr ⟨lw_p52, List.forall_mem_cons.mpr ⟨lw_p53, List.forall_mem_cons.mpr ⟨lw_p54, List.forall_mem_cons.mpr ⟨lw_p55, List.forall_mem_cons.mpr ⟨lw_p56, List.forall_mem_cons.mpr ⟨lw_p57, List.forall_mem_cons.mpr ⟨lw_p58, List.forall_mem_cons.mpr ⟨lw_p59, List.forall_mem_cons.mpr ⟨lw_p60, List.forall_mem_cons.mpr ⟨lw_p61, List.forall_mem_cons.mpr ⟨lw_p62, List.forall_mem_cons.mpr ⟨lw_p63, fun _ h => absurd h List.not_mem_nil⟩⟩⟩⟩⟩⟩⟩⟩⟩⟩⟩⟩⟩⟩⟩⟩
theorem lw_p64 : lw_okq (⟨"UmbrellaSchoolModel", "readsDigit", "(I)Z"⟩, 18) := ⟨⟨by decide +kernel, by decide +kernel⟩, List.mem_of_getElem? (i := 1340) (by decide +kernel), List.mem_of_getElem? (i := 1793) (by decide +kernel), List.mem_of_getElem? (i := 1794) (by decide +kernel)⟩
theorem lw_p65 : lw_okq (⟨"UmbrellaSchoolModel", "readsT", "()Z"⟩, 18) := ⟨⟨by decide +kernel, by decide +kernel⟩, List.mem_of_getElem? (i := 1340) (by decide +kernel), List.mem_of_getElem? (i := 1797) (by decide +kernel), List.mem_of_getElem? (i := 1798) (by decide +kernel)⟩
theorem lw_p66 : lw_okq (⟨"UmbrellaSchoolModel", "readsTrain", "()Z"⟩, 18) := ⟨⟨by decide +kernel, by decide +kernel⟩, List.mem_of_getElem? (i := 1340) (by decide +kernel), List.mem_of_getElem? (i := 1801) (by decide +kernel), List.mem_of_getElem? (i := 1802) (by decide +kernel)⟩
theorem lw_p67 : lw_okq (⟨"UmbrellaSchoolModel", "readsTwo", "()Z"⟩, 18) := ⟨⟨by decide +kernel, by decide +kernel⟩, List.mem_of_getElem? (i := 1340) (by decide +kernel), List.mem_of_getElem? (i := 1805) (by decide +kernel), List.mem_of_getElem? (i := 1806) (by decide +kernel)⟩
theorem lw_p68 : lw_okq (⟨"UmbrellaSchoolModel", "doesAll", "()Z"⟩, 18) := ⟨⟨by decide +kernel, by decide +kernel⟩, List.mem_of_getElem? (i := 1340) (by decide +kernel), List.mem_of_getElem? (i := 1809) (by decide +kernel), List.mem_of_getElem? (i := 1810) (by decide +kernel)⟩
theorem lw_p69 : lw_okq (⟨"UmbrellaSchoolModel", "notNow", "()I"⟩, 18) := ⟨⟨by decide +kernel, by decide +kernel⟩, List.mem_of_getElem? (i := 1340) (by decide +kernel), List.mem_of_getElem? (i := 1813) (by decide +kernel), List.mem_of_getElem? (i := 1814) (by decide +kernel)⟩
theorem lw_p70 : lw_okq (⟨"UmbrellaSchoolModel", "doesNow", "()I"⟩, 18) := ⟨⟨by decide +kernel, by decide +kernel⟩, List.mem_of_getElem? (i := 1340) (by decide +kernel), List.mem_of_getElem? (i := 1817) (by decide +kernel), List.mem_of_getElem? (i := 1818) (by decide +kernel)⟩
theorem lw_p71 : lw_okq (⟨"UmbrellaSchoolModel", "goesBack", "()V"⟩, 18) := ⟨⟨by decide +kernel, by decide +kernel⟩, List.mem_of_getElem? (i := 1340) (by decide +kernel), List.mem_of_getElem? (i := 1821) (by decide +kernel), List.mem_of_getElem? (i := 1822) (by decide +kernel)⟩
def lw_privs_5 : List (MethodName × Nat) := [(⟨"UmbrellaSchoolModel", "readsDigit", "(I)Z"⟩, 18), (⟨"UmbrellaSchoolModel", "readsT", "()Z"⟩, 18), (⟨"UmbrellaSchoolModel", "readsTrain", "()Z"⟩, 18), (⟨"UmbrellaSchoolModel", "readsTwo", "()Z"⟩, 18), (⟨"UmbrellaSchoolModel", "doesAll", "()Z"⟩, 18), (⟨"UmbrellaSchoolModel", "notNow", "()I"⟩, 18), (⟨"UmbrellaSchoolModel", "doesNow", "()I"⟩, 18), (⟨"UmbrellaSchoolModel", "goesBack", "()V"⟩, 18)]
theorem lw_r5 : ∀ q ∈ lw_privs_5, lw_okq q := List.forall_mem_cons.mpr ⟨lw_p64, List.forall_mem_cons.mpr ⟨lw_p65, List.forall_mem_cons.mpr ⟨lw_p66, List.forall_mem_cons.mpr ⟨lw_p67, List.forall_mem_cons.mpr ⟨lw_p68, List.forall_mem_cons.mpr ⟨lw_p69, List.forall_mem_cons.mpr ⟨lw_p70, List.forall_mem_cons.mpr ⟨lw_p71, fun _ h => absurd h List.not_mem_nil⟩⟩⟩⟩⟩⟩⟩⟩
def lw_privs : List (MethodName × Nat) := lw_privs_1 ++ (lw_privs_2 ++ (lw_privs_3 ++ (lw_privs_4 ++ (lw_privs_5))))
def lw_tbl : List Cond := k2_sels lw_privs ++ tables_1
theorem lw_privs_ok : ∀ q ∈ lw_privs, lw_okq q := by
  show ∀ q ∈ lw_privs_1 ++ (lw_privs_2 ++ (lw_privs_3 ++ (lw_privs_4 ++ (lw_privs_5)))), lw_okq q
  exact List.forall_mem_append.mpr ⟨lw_r1, List.forall_mem_append.mpr ⟨lw_r2, List.forall_mem_append.mpr ⟨lw_r3, List.forall_mem_append.mpr ⟨lw_r4, lw_r5⟩⟩⟩⟩
/-- the streams that the claim lets the run draw from -/
abbrev lw_cs : List Choice := [Jvm.Choice.named "NaN.bits"]
theorem lw_bits : nanBits ∈ lw_cs := by first | decide | exact List.mem_cons_self | simp [lw_cs, nanBits]
-- ===== end of PART A; then your names; then what follows =====
end
section
/-! ===== BEGIN words of one list among another's, by their places ===== -/
theorem goodIn_r {big : List Cond} (ws : List Cond) (ps : List Nat) (hp : ws = ps.filterMap (fun i => big[i]?)) (h : ws.all goodWord = true) : GoodIn big ws := by
  intro w hw
  have h1 := List.all_eq_true.mp h w hw
  rw [hp] at hw
  obtain ⟨i, -, hi⟩ := List.mem_filterMap.mp hw
  have hm : w ∈ big := by first | exact List.mem_of_getElem? hi | exact List.getElem?_mem hi
  exact ⟨hm, good_of_word h1⟩
theorem goodIn_app {big a b : List Cond} (ha : GoodIn big a) (hb : GoodIn big b) : GoodIn big (a ++ b) := fun w h => (List.mem_append.mp h).elim (ha w) (hb w)
theorem goodIn_ca {big a b : List Cond} {c : Cond} (ha : GoodIn big (c :: a)) (hb : GoodIn big b) : GoodIn big (c :: (a ++ b)) := fun w h => (List.mem_cons.mp h).elim (fun e => ha w (List.mem_cons.mpr (Or.inl e))) (fun h => (List.mem_append.mp h).elim (fun h => ha w (List.mem_cons.mpr (Or.inr h))) (hb w))
theorem goodIn_sub {big ws : List Cond} (hm : ∀ w ∈ ws, w ∈ big) (h : ws.all goodWord = true) : GoodIn big ws := fun w hw => ⟨hm w hw, good_of_word (List.all_eq_true.mp h w hw)⟩
/-! ===== END ===== -/

/-! ===== BEGIN exceptions that leave a method, and their catching by the caller (launches without stack traces) ===== -/
section VXA
/-! The laws vx_back, vx_callV, vx_callS, vx_callSW, vx_throw0, vx_throwS follow proofs of the library, with one case more: JvmDerived/Free/Laws.lean (Back.of_free), Shelf42/LK1.lean (callV, callS), Shelf/KitTraced.lean (throwNew0V, throwNewS). -/
/-- where a method has thrown q: the class by its name, the cell, what was written, the world -/
def vx_T (XC : String → State → State → Prop) (st : State) (q : Addr) (t : State) (mc ms : Nat) (free : Addr → Prop) : Prop :=
  ∃ (E : String) (ce : Cell) (L : List Loc), XC E st t ∧ t.heap[q]? = some ce ∧ ce.vm = .none ∧ st.vm.findClass E = some ce.cls ∧ st.WarmedH t.vm ∧ st.sameButNew ({ t with vm := st.vm } : State) L mc ms ∧ ∀ z ∈ L, free z.base
def vx_Q (Qc : Array Value → State → Outcome → State → Prop) (XC : String → State → State → Prop) (mc ms : Nat) (free : Addr → Prop) : Array Value → State → Outcome → State → Prop := fun a st o t =>
  (Qc a st o t ∧ ∃ L, FrameEnd st o t L mc ms ∧ ∀ q ∈ L, free q.base) ∨ ∃ q, o = .threw q ∧ vx_T XC st q t mc ms free
/-- a callee that returns or throws -/
def vx_Met (l : Launch) (y : MethodName) (ws : List Cond) (rm : Room) (Pc : Array Value → State → Prop) (Qc : Array Value → State → Outcome → State → Prop) (XC : String → State → State → Prop) (mc ms : Nat) (free : Addr → Prop) : Prop :=
  MetFree l y (headSpec ws rm) Pc (fun _ _ _ _ _ => True) (vx_Q Qc XC mc ms free)
def vx_Post (XC : String → State → State → Prop) (mc ms : Nat) (free : Addr → Prop) : Pt → Array Value → Addr → Pt → Prop := fun A a q B =>
  ∃ (g : JFrame) (mk : MethodId) (t : State) (L : List Loc) (E : String) (ce : Cell), B.U.heap = t.heap ∧ B.U.vm = t.vm ∧ XC E (A.U.calling g mk a) t ∧ t.heap[q]? = some ce ∧ ce.vm = .none ∧ A.U.vm.findClass E = some ce.cls ∧ B.locs = A.locs ++ L ∧ (∀ z ∈ L, free z.base) ∧ B.cells = A.cells + mc ∧ B.slots = A.slots + ms
def vx_Back (l : Launch) (R : Room) (p : Program) (e : Env) (below : List Frame) (s : State) (sargs : Array Value) (y : MethodName) (len W9 : Nat)
    (Pre : Pt → Array Value → Prop) (Post : Pt → Array Value → Option Value → Pt → Prop) (PostX : Pt → Array Value → Addr → Pt → Prop) : Prop :=
  ∀ (m : MethodId) (meth : Method) (c : Code) (A : Pt) (g : JFrame) (ig : Instr) (mk : MethodId) (a : Array Value),
    Stand p l e R s m sargs below meth c A.U A.locs A.cells A.slots → g.method = m → g.locals.size = c.maxLocals → decode c.code g.pc = .ok (ig, len) →
    2 * g.monitorRoom + (g.stack.map fun v => v.category).sum ≤ W9 → A.U.methodNamed? y = some mk → Pre A a →
    (∃ (v : Option Value) (B : Pt), Stand p l e R s m sargs below meth c B.U B.locs B.cells B.slots ∧ Post A a v B ∧
      Steps p.tables e below (doInvoke e (A.U.setTop g) [] mk a).1 (B.U.setTop { g with pc := g.pc + len, stack := v.toList ++ g.stack })) ∨
    (∃ (q : Addr) (B : Pt), Stand p l e R s m sargs below meth c B.U B.locs B.cells B.slots ∧ PostX A a q B ∧
      Steps p.tables e below (doInvoke e (A.U.setTop g) [] mk a).1 ((B.U.setTop g).pushFrame (.throwing q)))
section Payer
variable {l : Launch} {R : Room} {p : Program} {e : Env} {below : List Frame} {s : State} {sargs : Array Value} {y : MethodName} {len W9 : Nat}
theorem vx_back {ws : List Cond} {rm : Room} {Pc : Array Value → State → Prop} {Qc : Array Value → State → Outcome → State → Prop} {XC : String → State → State → Prop} {mc ms : Nat} {free : Addr → Prop} {bytes : ByteArray} {maxL : Nat} {ret : Option FieldType}
    (hM : vx_Met l y ws rm Pc Qc XC mc ms free) (hblind : FrameBlind Pc) (hrc : rm.cells = mc) (hrs : rm.slots = ms)
    (hframes : rm.frames + 1 ≤ R.frames) (hlocals : W9 + (maxL + 11) + rm.locals ≤ R.locals)
    (hws : ∀ w ∈ ws, ∀ a' U, s.WarmedH U.vm → w.before a' U = true) (hcode : Cond.code y bytes maxL ret ∈ ws) (hinit : ∀ a' U, s.WarmedH U.vm → (Cond.initialized y.cls).before a' U = true) :
    vx_Back l R p e below s sargs y len W9 (PreOf R mc ms Pc) (PostOf Qc mc ms free) (vx_Post XC mc ms free) := by
  intro m meth c A g ig mk a X hg hsize hdg hW hn hp
  have h1 : (headSpec ws rm).pre.before a A.U = true := atoms_intro fun w hw => hws w hw _ _ X.warmed
  have h2 : (Cond.code y bytes maxL ret).before a A.U = true := hws _ hcode _ _ X.warmed
  have h3 : (Cond.initialized y.cls).before a A.U = true := hinit _ _ X.warmed
  have h4 : A.cells + (headSpec ws rm).room.cells ≤ R.cells := by rw [show (headSpec ws rm).room.cells = mc from hrc]; exact hp.1
  have h5 : A.slots + (headSpec ws rm).room.slots ≤ R.slots := by rw [show (headSpec ws rm).room.slots = ms from hrs]; exact hp.2.1
  have hPc : Pc a (A.U.calling g mk a) := hblind _ _ _ _ hp.2.2
  obtain ⟨U, Ls, c0, s0⟩ := A
  dsimp only [Pt.U, Pt.locs, Pt.cells, Pt.slots] at h1 h2 h3 h4 h5 X hn hPc ⊢
  obtain ⟨methY, cY, hmY, hcY, -, hlY, -, -, -, -⟩ := Cond.code_spec hn h2
  obtain ⟨kY, hkY, -⟩ := className_of_methodNamed hn
  have hinitY : kY.init = .initialized := Cond.initialized_spec (findClass_of_methodNamed hn) hkY h3
  have h : At U g.method c below := by rw [hg]; exact X.here
  have hlocals9 : W9 + (maxL + 11) + (headSpec ws rm).room.locals ≤ R.locals := hlocals
  have happ : (headSpec ws rm).appliesLoose y e.platform (U.calling g mk a) = true :=
    Spec.appliesLoose_calling (g := g) h hdg hn hkY hinitY
      (X.room_calling (g := g) (R' := (headSpec ws rm).room) hsize hmY hcY hframes (by rw [hlY]; omega) h4 h5) h1
  obtain ⟨mid, hmid⟩ := h.above
  have hfr : (U.setTop g).frames = (.java g :: mid) ++ below := by rw [State.frames_setTop' g h.top, hmid]; rfl
  obtain ⟨o, s₂, hsteps, -, hend, hq⟩ := Steps.callFree hM p X.admits X.cas X.clock (acts := []) hfr happ hPc trivial
  have hq' : vx_Q Qc XC mc ms free a (U.calling g mk a) o s₂ := hq
  rw [State.frames_setTop' g h.top] at hend
  obtain ⟨g₀, hg0⟩ := Option.isSome_iff_exists.mp h.top
  obtain ⟨r, hr⟩ := State.topJava?_eq_some.mp hg0
  have hr' : (({ U with heap := s₂.heap, slotsUsed := s₂.slotsUsed } : State).setVm s₂.vm).frames = .java g₀ :: r := hr
  rcases hq' with ⟨hqc, L, hfe, hL⟩ | ⟨q, rfl, E, ce, L, hx, hce, hcv, hcl, hW₂, hsm, hL⟩
  · obtain ⟨⟨v, rfl⟩, hW₂, e2, q2, q3, q4, q5, q6⟩ := id hfe
    have e3 : s₂ = ({ (U.calling g mk a).setFrames s₂.frames with heap := s₂.heap, slotsUsed := s₂.slotsUsed } : State).setVm s₂.vm := by
      have : s₂ = ({ s₂ with vm := (U.calling g mk a).vm } : State).setVm s₂.vm := rfl
      rw [e2] at this
      exact this
    obtain ⟨c₂, i₂, len₂, hc₂, hd₂, hf₂⟩ := hend
    have hW' : U.WarmedH s₂.vm := hW₂
    have hcc : c₂ = c := by
      have h1 : s₂.code? g.method = U.code? g.method := by
        rw [State.code?_eq, State.code?_eq, hW'.alike.method?]
      exact Option.some.inj (hc₂.symm.trans (h1.trans h.code))
    subst hcc
    have hlen : len₂ = len := by rw [hdg] at hd₂; cases hd₂; rfl
    subst hlen
    have hs₂ : s₂ = (({ U with heap := s₂.heap, slotsUsed := s₂.slotsUsed } : State).setVm s₂.vm).setTop { g with pc := g.pc + len₂, stack := v.toList ++ g.stack } := by
      refine e3.trans ?_
      rw [hf₂, State.calling_eq h.top, State.setFrames_setFrames, State.setTop_of_frames _ hr', hr]
      rfl
    have hsame : U.sameButNew ({ U with heap := s₂.heap, slotsUsed := s₂.slotsUsed } : State) L mc ms := by
      refine ⟨?_, q2, q3, q4, q5, q6⟩
      obtain ⟨t, ht, -⟩ := State.frames_cons hr
      show ({ U with heap := s₂.heap, slotsUsed := s₂.slotsUsed } : State) = { U.setFrames U.frames with heap := s₂.heap, slotsUsed := s₂.slotsUsed }
      rw [State.setFrames_self ht]
    subst hg
    refine Or.inl ⟨v, ⟨(({ U with heap := s₂.heap, slotsUsed := s₂.slotsUsed } : State).setVm s₂.vm), Ls ++ L, c0 + mc, s0 + ms⟩,
      ⟨X.admits, X.cas, X.clock, X.frames, X.room, X.hears, X.method, X.code, (X.here.setHeapUsed s₂.heap s₂.slotsUsed).setVm hW'.alike, X.tail, State.WarmedH.trans X.warmed hW', X.limits, X.bytes, X.same.trans (hsame.setVm s.vm)⟩,
      ⟨g, mk, s₂, L, rfl, rfl, hqc, rfl, hL, rfl, rfl⟩, ?_⟩
    show Steps p.tables e below _ ((({ U with heap := s₂.heap, slotsUsed := s₂.slotsUsed } : State).setVm s₂.vm).setTop { g with pc := g.pc + len₂, stack := v.toList ++ g.stack })
    rw [← hs₂]
    exact hsteps
  · obtain ⟨e2, q2, q3, q4, q5, q6⟩ := id hsm
    have e3 : s₂ = ({ (U.calling g mk a).setFrames s₂.frames with heap := s₂.heap, slotsUsed := s₂.slotsUsed } : State).setVm s₂.vm := by
      have : s₂ = ({ s₂ with vm := (U.calling g mk a).vm } : State).setVm s₂.vm := rfl
      rw [e2] at this
      exact this
    have hf₂ : s₂.frames = .throwing q :: .java g :: U.frames.tail := hend
    have hW' : U.WarmedH s₂.vm := hW₂
    have hs₂ : s₂ = ((({ U with heap := s₂.heap, slotsUsed := s₂.slotsUsed } : State).setVm s₂.vm).setTop g).pushFrame (.throwing q) := by
      refine e3.trans ?_
      rw [hf₂, State.calling_eq h.top, State.setFrames_setFrames, State.pushFrame, State.frames_setTop _ hr', State.setTop_of_frames _ hr', State.setFrames_setFrames, hr]
      rfl
    have hsame : U.sameButNew ({ U with heap := s₂.heap, slotsUsed := s₂.slotsUsed } : State) L mc ms := by
      refine ⟨?_, q2, q3, q4, q5, q6⟩
      obtain ⟨t, ht, -⟩ := State.frames_cons hr
      show ({ U with heap := s₂.heap, slotsUsed := s₂.slotsUsed } : State) = { U.setFrames U.frames with heap := s₂.heap, slotsUsed := s₂.slotsUsed }
      rw [State.setFrames_self ht]
    subst hg
    refine Or.inr ⟨q, ⟨(({ U with heap := s₂.heap, slotsUsed := s₂.slotsUsed } : State).setVm s₂.vm), Ls ++ L, c0 + mc, s0 + ms⟩,
      ⟨X.admits, X.cas, X.clock, X.frames, X.room, X.hears, X.method, X.code, (X.here.setHeapUsed s₂.heap s₂.slotsUsed).setVm hW'.alike, X.tail, State.WarmedH.trans X.warmed hW', X.limits, X.bytes, X.same.trans (hsame.setVm s.vm)⟩,
      ⟨g, mk, s₂, L, E, ce, rfl, rfl, hx, hce, hcv, hcl, rfl, hL, rfl, rfl⟩, ?_⟩
    show Steps p.tables e below _ (((({ U with heap := s₂.heap, slotsUsed := s₂.slotsUsed } : State).setVm s₂.vm).setTop g).pushFrame (.throwing q))
    rw [← hs₂]
    exact hsteps
end Payer
section Calls
variable {p : Program} {l : Launch} {e : Env} {R : Room} {s : State} {m : MethodId} {args : Array Value} {below : List Frame} {meth : Method} {c : Code} {T : State} {locs : List Loc} {cells slots : Nat}
theorem vx_callV (X : Stand p l e R s m args below meth c T locs cells slots) (hexec : p.tables.exec = Jvm.exec) {own C : String} {index : Nat} {y : MethodName} {bytes : ByteArray} {maxL : Nat} {ret : Option FieldType}
    (hown : s.vm.findClass own = some m.cls) (hlink : (Cond.methodLink own index y).before args s = true) (hinst : (Cond.instanceMethod y).before args s = true) (hsel : (Cond.selects C y y).before args s = true)
    (hcode : (Cond.code y bytes maxL ret).before args s = true) (hy : y.cls ≠ "java/lang/invoke/MethodHandle" ∧ y.cls ≠ "java/lang/invoke/VarHandle")
    {W9 : Nat} {Pre : Pt → Array Value → Prop} {Post : Pt → Array Value → Option Value → Pt → Prop} {PostX : Pt → Array Value → Addr → Pt → Prop} (hK : vx_Back l R p e below s args y 3 W9 Pre Post PostX)
    {b : Addr} {cellB : Cell} (hcell : T.heap[b]? = some cellB) (hobj : cellB.vm.isStatics = false) (hcls : s.vm.findClass C = some cellB.cls)
    {g : JFrame} (hg : g.method = m) (hsize : g.locals.size = c.maxLocals) {argsL rest : List Value} (hlen : ∀ sig, parseMethodDescriptor y.desc = some sig → argsL.length = sig.parameters.length)
    (hstack : g.stack = argsL.reverse ++ .ref b :: rest) (hW : 2 * g.monitorRoom + (rest.map fun v => v.category).sum ≤ W9) (hdg : decode c.code g.pc = .ok (.invokevirtual index, 3))
    (hpre : ∀ vm₁, s.WarmedH vm₁ → Pre ⟨T.setVm vm₁, locs, cells, slots⟩ (Value.ref b :: argsL).toArray) :
    (∃ (v : Option Value) (vm₁ : Vm) (B : Pt), s.WarmedH vm₁ ∧ Stand p l e R s m args below meth c B.U B.locs B.cells B.slots ∧ Post ⟨T.setVm vm₁, locs, cells, slots⟩ (Value.ref b :: argsL).toArray v B ∧
      ∀ target, Steps p.tables e below (B.U.setTop { g with pc := g.pc + 3, stack := v.toList ++ rest }) target → Steps p.tables e below (T.setTop g) target) ∨
    (∃ (q : Addr) (vm₁ : Vm) (B : Pt), s.WarmedH vm₁ ∧ Stand p l e R s m args below meth c B.U B.locs B.cells B.slots ∧ PostX ⟨T.setVm vm₁, locs, cells, slots⟩ (Value.ref b :: argsL).toArray q B ∧
      Steps p.tables e below (T.setTop g) ((B.U.setTop { g with stack := rest }).pushFrame (.throwing q))) := by
  obtain ⟨mk, methM, hnamed, hmethM, hstM, habM⟩ := Cond.instanceMethod_spec hinst
  obtain ⟨methM', cM, hmethM', -, -, -, -, -, -, hsigM⟩ := Cond.code_spec hnamed hcode
  cases hmethM.symm.trans hmethM'
  obtain ⟨c2, r2, m2, q1, q2, q3, q4, kP, hkP, hkPi⟩ := Cond.selects_spec hsel
  cases hcls.symm.trans q1
  cases (State.methodFound?_of_named hnamed hy).symm.trans q2
  cases hnamed.symm.trans q3
  have hselP : selectMethod e.platform s.vm cellB.cls mk = .method mk := by rw [Launch.admits_selectMethod X.admits]; exact q4
  obtain ⟨vm₁, X₁, hstep₁⟩ := X.invokevirtual hexec hown hlink hnamed hmethM hstM hkP hkPi hy (a := b) (cell := cellB) hcell
    (fun z h => by rw [h] at hobj; cases hobj) hselP hmethM habM hkP hkPi (g := g) hg (argsL := argsL) (rest := rest) (hlen _ hsigM) hstack hdg
  rcases hK m meth c ⟨T.setVm vm₁, locs, cells, slots⟩ { g with stack := rest } (.invokevirtual index) mk (Value.ref b :: argsL).toArray X₁ hg hsize hdg hW (X₁.named hnamed) (hpre vm₁ X₁.warmed) with ⟨v, B, X', hpost, hsteps⟩ | ⟨q, B, X', hpost, hsteps⟩
  · exact Or.inl ⟨v, vm₁, B, X₁.warmed, X', hpost, fun target h => hstep₁ _ fun acts => by rw [doInvoke_state]; exact hsteps.trans h⟩
  · exact Or.inr ⟨q, vm₁, B, X₁.warmed, X', hpost, hstep₁ _ fun acts => by rw [doInvoke_state]; exact hsteps⟩
theorem vx_callS (X : Stand p l e R s m args below meth c T locs cells slots) (hexec : p.tables.exec = Jvm.exec) {own : String} {index : Nat} {y : MethodName} {bytes : ByteArray} {maxL : Nat} {ret : Option FieldType}
    (hown : s.vm.findClass own = some m.cls) (hlink : (Cond.methodLink own index y).before args s = true) (hstat : (Cond.static y).before args s = true) (hinit : (Cond.initialized y.cls).before args s = true)
    (hcode : (Cond.code y bytes maxL ret).before args s = true) (hy : y.cls ≠ "java/lang/invoke/MethodHandle" ∧ y.cls ≠ "java/lang/invoke/VarHandle")
    {W9 : Nat} {Pre : Pt → Array Value → Prop} {Post : Pt → Array Value → Option Value → Pt → Prop} {PostX : Pt → Array Value → Addr → Pt → Prop} (hK : vx_Back l R p e below s args y 3 W9 Pre Post PostX)
    {g : JFrame} (hg : g.method = m) (hsize : g.locals.size = c.maxLocals) {argsL rest : List Value} (hlen : ∀ sig, parseMethodDescriptor y.desc = some sig → argsL.length = sig.parameters.length)
    (hstack : g.stack = argsL.reverse ++ rest) (hW : 2 * g.monitorRoom + (rest.map fun v => v.category).sum ≤ W9) (hdg : decode c.code g.pc = .ok (.invokestatic index, 3))
    (hpre : ∀ vm₁, s.WarmedH vm₁ → Pre ⟨T.setVm vm₁, locs, cells, slots⟩ argsL.toArray) :
    (∃ (v : Option Value) (vm₁ : Vm) (B : Pt), s.WarmedH vm₁ ∧ Stand p l e R s m args below meth c B.U B.locs B.cells B.slots ∧ Post ⟨T.setVm vm₁, locs, cells, slots⟩ argsL.toArray v B ∧
      ∀ target, Steps p.tables e below (B.U.setTop { g with pc := g.pc + 3, stack := v.toList ++ rest }) target → Steps p.tables e below (T.setTop g) target) ∨
    (∃ (q : Addr) (vm₁ : Vm) (B : Pt), s.WarmedH vm₁ ∧ Stand p l e R s m args below meth c B.U B.locs B.cells B.slots ∧ PostX ⟨T.setVm vm₁, locs, cells, slots⟩ argsL.toArray q B ∧
      Steps p.tables e below (T.setTop g) ((B.U.setTop { g with stack := rest }).pushFrame (.throwing q))) := by
  obtain ⟨mk, hnamed⟩ := Cond.code_named hcode
  obtain ⟨methM, cM, hmethM, -, -, -, -, -, -, hsigM⟩ := Cond.code_spec hnamed hcode
  have hstatic : methM.isStatic = true := Cond.static_spec hnamed hmethM hstat
  obtain ⟨kP, hkP, -⟩ := className_of_methodNamed hnamed
  have hinitP : kP.init = .initialized := Cond.initialized_spec (findClass_of_methodNamed hnamed) hkP hinit
  obtain ⟨vm₁, X₁, hstep₁⟩ := X.invokestatic hexec hown hlink hnamed hmethM hstatic hkP hinitP hy (g := g) hg (argsL := argsL) (rest := rest) (hlen _ hsigM) hstack hdg
  rcases hK m meth c ⟨T.setVm vm₁, locs, cells, slots⟩ { g with stack := rest } (.invokestatic index) mk argsL.toArray X₁ hg hsize hdg hW (X₁.named hnamed) (hpre vm₁ X₁.warmed) with ⟨v, B, X', hpost, hsteps⟩ | ⟨q, B, X', hpost, hsteps⟩
  · exact Or.inl ⟨v, vm₁, B, X₁.warmed, X', hpost, fun target h => hstep₁ _ fun acts => by rw [doInvoke_state]; exact hsteps.trans h⟩
  · exact Or.inr ⟨q, vm₁, B, X₁.warmed, X', hpost, hstep₁ _ fun acts => by rw [doInvoke_state]; exact hsteps⟩
end Calls
theorem vx_cls {s : State} {T : State} {vm₁ : Vm} {E : String} {k : ClassId} (hW : s.WarmedH vm₁) (h : (T.setVm vm₁).vm.findClass E = some k) : s.vm.findClass E = some k := by
  have h1 : vm₁.findClass E = some k := h
  rw [hW.alike.findClass] at h1
  exact h1
/-- the method's frame g, with q thrown over it -/
def vx_W (p : Program) (l : Launch) (e : Env) (R : Room) (s : State) (m : MethodId) (args : Array Value) (below : List Frame) (meth : Method) (c : Code) (H : Heap) (locs : List Loc) (cells slots : Nat) (Q : State → Prop) (g : JFrame) (q : Addr) : Prop :=
  ∀ T : State, T.heap = H → Stand p l e R s m args below meth c T locs cells slots → ∃ t, Steps p.tables e below ((T.setTop g).pushFrame (.throwing q)) t ∧ Q t
def vx_Run (p : Program) (l : Launch) (e : Env) (R : Room) (s : State) (m : MethodId) (args : Array Value) (below : List Frame) (meth : Method) (c : Code) (H : Heap) (locs : List Loc) (cells slots mc ms : Nat) (g : JFrame) (rest : List Value) (Qa : State → Outcome → State → Prop) (XC : String → State → State → Prop) (free : Addr → Prop) : Prop :=
  ∀ T : State, T.heap = H → Stand p l e R s m args below meth c T locs cells slots →
    (∃ (v : Option Value) (st₀ t T' : State) (L : List Loc), st₀.heap = H ∧ Stand p l e R s m args below meth c T' (locs ++ L) (cells + mc) (slots + ms) ∧ (∀ q ∈ L, free q.base) ∧ T'.heap = t.heap ∧ T'.vm = t.vm ∧ Qa st₀ (.returned v) t ∧
      Goes p e below T g T' { g with pc := g.pc + 3, stack := v.toList ++ rest }) ∨
    (∃ (q : Addr) (st₀ t T' : State) (L : List Loc) (E : String) (ce : Cell), st₀.heap = H ∧ Stand p l e R s m args below meth c T' (locs ++ L) (cells + mc) (slots + ms) ∧ (∀ z ∈ L, free z.base) ∧ T'.heap = t.heap ∧ T'.vm = t.vm ∧ XC E st₀ t ∧ t.heap[q]? = some ce ∧ ce.vm = .none ∧ s.vm.findClass E = some ce.cls ∧
      Steps p.tables e below (T.setTop g) ((T'.setTop { g with stack := rest }).pushFrame (.throwing q)))
def vx_X {S : Type} (px : S → Prop) (B : String → S → State → Prop) (A : Nat → Prop) : String → State → State → Prop := fun E st t => ∃ u : S, px u ∧ B E u t ∧ va_F A st t
section Runs
variable {p : Program} {l : Launch} {e : Env} {R : Room} {s : State} {m : MethodId} {args : Array Value} {below : List Frame} {meth : Method} {c : Code} {H : Heap} {locs : List Loc} {cells slots : Nat}
variable {y : MethodName} {bytes cc : ByteArray} {maxL nL mc ms n index : Nat} {ret : Option FieldType} {ws : List Cond} {rm : Room} {Pc : Array Value → State → Prop} {Qc : Array Value → State → Outcome → State → Prop} {XC : String → State → State → Prop} {free : Addr → Prop} {Ts : List Cond} {own C : String} {b : Addr} {As rest : List Value} {g : JFrame}
theorem vx_callBack (cb : CallB R s args own index y bytes maxL ret ws rm mc ms n) (hM : vx_Met l y ws rm Pc Qc XC mc ms free) (hbl : FrameBlind Pc) : vx_Back l R p e below s args y 3 8 (PreOf R mc ms Pc) (PostOf Qc mc ms free) (vx_Post XC mc ms free) := by
  obtain ⟨hrc, hrs, hfr, hlo, hws, hcw, -, hini, -⟩ := cb
  exact vx_back (bytes := bytes) (maxL := maxL) (ret := ret) hM hbl hrc hrs hfr hlo hws hcw (fun a' U hW => word_at hW (Or.inl (by first | rfl | simp [Cond.onTables, Cond.keeps, Cond.steady])) hini)
theorem vx_runV (S : CallFix p m c cc nL s args Ts own) (hM : vx_Met l y ws rm Pc Qc XC mc ms free) (cw : CallW R s args own C index y bytes maxL ret ws rm mc ms n) (hp : PreV s H C b Pc As)
    (hg : g.method = m) (hn : As.length = n) (hsize : g.locals.size = nL) (hstack : g.stack = As.reverse ++ .ref b :: rest) (hW : 2 * g.monitorRoom + (rest.map fun v => v.category).sum ≤ 8) (hdg : decode cc g.pc = .ok (.invokevirtual index, 3)) (hf : cells + mc ≤ R.cells ∧ slots + ms ≤ R.slots) :
    vx_Run p l e R s m args below meth c H locs cells slots mc ms g rest (Qc (Value.ref b :: As).toArray) XC free := by
  have hK : vx_Back l R p e below s args y 3 8 (PreOf R mc ms Pc) (PostOf Qc mc ms free) (vx_Post XC mc ms free) := vx_callBack cw.1 hM hp.1
  obtain ⟨⟨-, -, -, -, -, -, hcode, -, hy, hlen, hl⟩, hin, hse⟩ := cw
  obtain ⟨hx, hb, hml, ho, -⟩ := S
  obtain ⟨-, ⟨cellB, hcB, hoB, hclB⟩, hPc⟩ := hp
  intro T hT X
  rcases vx_callV X hx (C := C) (bytes := bytes) (maxL := maxL) (ret := ret) ho hl hin hse hcode hy hK (by rw [hT]; exact hcB) hoB hclB hg (hsize.trans hml.symm) (argsL := As) (rest := rest) (fun sig h => hn.trans (hlen sig h)) hstack hW (by rw [hb]; exact hdg)
    (fun vm₁ hW₁ => ⟨hf.1, hf.2, hPc (T.setVm vm₁) hT hW₁⟩) with ⟨v, vm₁, ⟨U', l2, c2, s2⟩, hW₁, X', ⟨g', mk, t, L, e1, e2, hq, h1, hL, h2, h3⟩, st⟩ | ⟨q, vm₁, ⟨U', l2, c2, s2⟩, hW₁, X', ⟨g', mk, t, L, E, ce, e1, e2, hq, hce, hcv, hcl, h1, hL, h2, h3⟩, st⟩
  · dsimp only [Pt.U, Pt.locs, Pt.cells, Pt.slots] at X' e1 e2 h1 h2 h3 st
    subst h1; subst h2; subst h3
    exact Or.inl ⟨v, (T.setVm vm₁).calling g' mk (Value.ref b :: As).toArray, t, U', L, hT, X', hL, e1, e2, hq, st⟩
  · dsimp only [Pt.U, Pt.locs, Pt.cells, Pt.slots] at X' e1 e2 h1 h2 h3 st hcl
    subst h1; subst h2; subst h3
    exact Or.inr ⟨q, (T.setVm vm₁).calling g' mk (Value.ref b :: As).toArray, t, U', L, E, ce, hT, X', hL, e1, e2, hq, hce, hcv, vx_cls hW₁ hcl, st⟩
theorem vx_runS (S : CallFix p m c cc nL s args Ts own) (hM : vx_Met l y ws rm Pc Qc XC mc ms free) (cw : CallB R s args own index y bytes maxL ret ws rm mc ms n ∧ (Cond.static y).before args s = true) (hp : PreS s H Pc As)
    (hg : g.method = m) (hn : As.length = n) (hsize : g.locals.size = nL) (hstack : g.stack = As.reverse ++ rest) (hW : 2 * g.monitorRoom + (rest.map fun v => v.category).sum ≤ 8) (hdg : decode cc g.pc = .ok (.invokestatic index, 3)) (hf : cells + mc ≤ R.cells ∧ slots + ms ≤ R.slots) :
    vx_Run p l e R s m args below meth c H locs cells slots mc ms g rest (Qc As.toArray) XC free := by
  have hK : vx_Back l R p e below s args y 3 8 (PreOf R mc ms Pc) (PostOf Qc mc ms free) (vx_Post XC mc ms free) := vx_callBack cw.1 hM hp.1
  obtain ⟨⟨-, -, -, -, -, -, hcode, hini, hy, hlen, hl⟩, hstt⟩ := cw
  obtain ⟨hx, hb, hml, ho, -⟩ := S
  intro T hT X
  rcases vx_callS X hx (bytes := bytes) (maxL := maxL) (ret := ret) ho hl hstt hini hcode hy hK hg (hsize.trans hml.symm) (argsL := As) (rest := rest) (fun sig h => hn.trans (hlen sig h)) hstack hW (by rw [hb]; exact hdg)
    (fun vm₁ hW₁ => ⟨hf.1, hf.2, hp.2 (T.setVm vm₁) hT hW₁⟩) with ⟨v, vm₁, ⟨U', l2, c2, s2⟩, hW₁, X', ⟨g', mk, t, L, e1, e2, hq, h1, hL, h2, h3⟩, st⟩ | ⟨q, vm₁, ⟨U', l2, c2, s2⟩, hW₁, X', ⟨g', mk, t, L, E, ce, e1, e2, hq, hce, hcv, hcl, h1, hL, h2, h3⟩, st⟩
  · dsimp only [Pt.U, Pt.locs, Pt.cells, Pt.slots] at X' e1 e2 h1 h2 h3 st
    subst h1; subst h2; subst h3
    exact Or.inl ⟨v, (T.setVm vm₁).calling g' mk As.toArray, t, U', L, hT, X', hL, e1, e2, hq, st⟩
  · dsimp only [Pt.U, Pt.locs, Pt.cells, Pt.slots] at X' e1 e2 h1 h2 h3 st hcl
    subst h1; subst h2; subst h3
    exact Or.inr ⟨q, (T.setVm vm₁).calling g' mk As.toArray, t, U', L, E, ce, hT, X', hL, e1, e2, hq, hce, hcv, vx_cls hW₁ hcl, st⟩
end Runs
section Rows
variable {p : Program} {l : Launch} {e : Env} {R : Room} {s : State} {m : MethodId} {args : Array Value} {below : List Frame} {meth : Method} {c : Code} {H : Heap} {locs : List Loc} {cells slots : Nat} {Q : State → Prop}
variable {mc ms : Nat} {free : Addr → Prop} {A0 A1 : Nat → Prop} {H0 : Heap} {a : Array Value} {pc : Nat} {ls : Array Slot} {st0 rest : List Value}
theorem vx_keep {st₀ t T' : State} {L : List Loc} (h0 : st₀.heap = H) (e1 : T'.heap = t.heap) (hS : va_S A0 H0 H locs) (hA : ∀ q, q < H.size → A1 q → A0 q) (hf : ∀ q, free q → A0 q) (hL : ∀ q ∈ L, free q.base) (hF : va_F A1 st₀ t) :
    H.size ≤ T'.heap.size ∧ (∀ q : Nat, q < H.size → ¬ A1 q → T'.heap[q]? = H[q]?) ∧ va_S A0 H0 T'.heap (locs ++ L) := by
  obtain ⟨hz, hk⟩ := hF
  rw [h0] at hz hk
  exact ⟨by rw [e1]; exact hz, fun q h1 h2 => by rw [e1]; exact hk q h1 h2,
    ⟨Nat.le_trans hS.1 (by rw [e1]; exact hz), fun q h1 h2 => by rw [e1, hk q (Nat.lt_of_lt_of_le h1 hS.1) (fun z => h2 (hA q (Nat.lt_of_lt_of_le h1 hS.1) z))]; exact hS.2.1 q h1 h2, fun q hq => by
      rcases List.mem_append.mp hq with h | h
      · exact hS.2.2 q h
      · exact hf _ (hL q h)⟩⟩
theorem vx_calli {S SX : Type} {post : Int32 → S → Prop} {px : SX → Prop} {B : S → State → Prop} {BX : String → SX → State → Prop} {AX : Nat → Prop} (hr : vx_Run p l e R s m args below meth c H locs cells slots mc ms (F0 m pc ls st0) rest (va_Qi post B A1 a) (vx_X px BX AX) free) (hS : va_S A0 H0 H locs) (hA : ∀ q, q < H.size → A1 q → A0 q) (hf : ∀ q, free q → A0 q) (hAX : ∀ q, q < H.size → AX q → A0 q)
    (kx : ∀ (E : String) (ce : Cell) (q9 : Addr) (u : SX) (t : State) (H1 : Heap) (locs1 : List Loc), t.heap = H1 → s.vm.Alike t.vm → px u → BX E u t → H.size ≤ H1.size → (∀ q : Nat, q < H.size → ¬ AX q → H1[q]? = H[q]?) → va_S A0 H0 H1 locs1 → H1[q9]? = some ce → ce.vm = .none → s.vm.findClass E = some ce.cls → vx_W p l e R s m args below meth c H1 locs1 (cells + mc) (slots + ms) Q (F0 m pc ls rest) q9)
    (kk : ∀ (r : Int32) (u : S) (t : State) (H1 : Heap) (locs1 : List Loc), t.heap = H1 → s.vm.Alike t.vm → post r u → B u t → H.size ≤ H1.size → (∀ q : Nat, q < H.size → ¬ A1 q → H1[q]? = H[q]?) → va_S A0 H0 H1 locs1 → W p l e R s m args below meth c H1 locs1 (cells + mc) (slots + ms) Q (F0 m (pc + 3) ls (.int r :: rest))) : W p l e R s m args below meth c H locs cells slots Q (F0 m pc ls st0) := by
  intro T hT X
  rcases hr T hT X with ⟨v, st₀, t, T', L, h0, X', hL, e1, e2, ⟨⟨r, u, hv, hp, hb⟩, hF⟩, st⟩ | ⟨q, st₀, t, T', L, E, ce, h0, X', hL, e1, e2, ⟨u, hp, hb, hF⟩, hce, hcv, hcl, st⟩
  · cases hv
    obtain ⟨k1, k2, k3⟩ := vx_keep h0 e1 hS hA hf hL hF
    obtain ⟨t2, a1, b1⟩ := kk r u t T'.heap (locs ++ L) e1.symm (by rw [← e2]; exact X'.warmed.alike) hp hb k1 k2 k3 T' rfl X'
    exact ⟨t2, st t2 a1, b1⟩
  · obtain ⟨k1, k2, k3⟩ := vx_keep h0 e1 hS hAX hf hL hF
    obtain ⟨t2, a1, b1⟩ := kx E ce q u t T'.heap (locs ++ L) e1.symm (by rw [← e2]; exact X'.warmed.alike) hp hb k1 k2 k3 (by rw [e1]; exact hce) hcv hcl T' rfl X'
    exact ⟨t2, st.trans a1, b1⟩
theorem vx_calll {S SX : Type} {post : Int64 → S → Prop} {px : SX → Prop} {B : S → State → Prop} {BX : String → SX → State → Prop} {AX : Nat → Prop} (hr : vx_Run p l e R s m args below meth c H locs cells slots mc ms (F0 m pc ls st0) rest (va_Ql post B A1 a) (vx_X px BX AX) free) (hS : va_S A0 H0 H locs) (hA : ∀ q, q < H.size → A1 q → A0 q) (hf : ∀ q, free q → A0 q) (hAX : ∀ q, q < H.size → AX q → A0 q)
    (kx : ∀ (E : String) (ce : Cell) (q9 : Addr) (u : SX) (t : State) (H1 : Heap) (locs1 : List Loc), t.heap = H1 → s.vm.Alike t.vm → px u → BX E u t → H.size ≤ H1.size → (∀ q : Nat, q < H.size → ¬ AX q → H1[q]? = H[q]?) → va_S A0 H0 H1 locs1 → H1[q9]? = some ce → ce.vm = .none → s.vm.findClass E = some ce.cls → vx_W p l e R s m args below meth c H1 locs1 (cells + mc) (slots + ms) Q (F0 m pc ls rest) q9)
    (kk : ∀ (r : Int64) (u : S) (t : State) (H1 : Heap) (locs1 : List Loc), t.heap = H1 → s.vm.Alike t.vm → post r u → B u t → H.size ≤ H1.size → (∀ q : Nat, q < H.size → ¬ A1 q → H1[q]? = H[q]?) → va_S A0 H0 H1 locs1 → W p l e R s m args below meth c H1 locs1 (cells + mc) (slots + ms) Q (F0 m (pc + 3) ls (.long r :: rest))) : W p l e R s m args below meth c H locs cells slots Q (F0 m pc ls st0) := by
  intro T hT X
  rcases hr T hT X with ⟨v, st₀, t, T', L, h0, X', hL, e1, e2, ⟨⟨r, u, hv, hp, hb⟩, hF⟩, st⟩ | ⟨q, st₀, t, T', L, E, ce, h0, X', hL, e1, e2, ⟨u, hp, hb, hF⟩, hce, hcv, hcl, st⟩
  · cases hv
    obtain ⟨k1, k2, k3⟩ := vx_keep h0 e1 hS hA hf hL hF
    obtain ⟨t2, a1, b1⟩ := kk r u t T'.heap (locs ++ L) e1.symm (by rw [← e2]; exact X'.warmed.alike) hp hb k1 k2 k3 T' rfl X'
    exact ⟨t2, st t2 a1, b1⟩
  · obtain ⟨k1, k2, k3⟩ := vx_keep h0 e1 hS hAX hf hL hF
    obtain ⟨t2, a1, b1⟩ := kx E ce q u t T'.heap (locs ++ L) e1.symm (by rw [← e2]; exact X'.warmed.alike) hp hb k1 k2 k3 (by rw [e1]; exact hce) hcv hcl T' rfl X'
    exact ⟨t2, st.trans a1, b1⟩
theorem vx_callf {S SX : Type} {post : UInt32 → S → Prop} {px : SX → Prop} {B : S → State → Prop} {BX : String → SX → State → Prop} {AX : Nat → Prop} (hr : vx_Run p l e R s m args below meth c H locs cells slots mc ms (F0 m pc ls st0) rest (va_Qf post B A1 a) (vx_X px BX AX) free) (hS : va_S A0 H0 H locs) (hA : ∀ q, q < H.size → A1 q → A0 q) (hf : ∀ q, free q → A0 q) (hAX : ∀ q, q < H.size → AX q → A0 q)
    (kx : ∀ (E : String) (ce : Cell) (q9 : Addr) (u : SX) (t : State) (H1 : Heap) (locs1 : List Loc), t.heap = H1 → s.vm.Alike t.vm → px u → BX E u t → H.size ≤ H1.size → (∀ q : Nat, q < H.size → ¬ AX q → H1[q]? = H[q]?) → va_S A0 H0 H1 locs1 → H1[q9]? = some ce → ce.vm = .none → s.vm.findClass E = some ce.cls → vx_W p l e R s m args below meth c H1 locs1 (cells + mc) (slots + ms) Q (F0 m pc ls rest) q9)
    (kk : ∀ (r : UInt32) (u : S) (t : State) (H1 : Heap) (locs1 : List Loc), t.heap = H1 → s.vm.Alike t.vm → post r u → B u t → H.size ≤ H1.size → (∀ q : Nat, q < H.size → ¬ A1 q → H1[q]? = H[q]?) → va_S A0 H0 H1 locs1 → W p l e R s m args below meth c H1 locs1 (cells + mc) (slots + ms) Q (F0 m (pc + 3) ls (.float r :: rest))) : W p l e R s m args below meth c H locs cells slots Q (F0 m pc ls st0) := by
  intro T hT X
  rcases hr T hT X with ⟨v, st₀, t, T', L, h0, X', hL, e1, e2, ⟨⟨r, u, hv, hp, hb⟩, hF⟩, st⟩ | ⟨q, st₀, t, T', L, E, ce, h0, X', hL, e1, e2, ⟨u, hp, hb, hF⟩, hce, hcv, hcl, st⟩
  · cases hv
    obtain ⟨k1, k2, k3⟩ := vx_keep h0 e1 hS hA hf hL hF
    obtain ⟨t2, a1, b1⟩ := kk r u t T'.heap (locs ++ L) e1.symm (by rw [← e2]; exact X'.warmed.alike) hp hb k1 k2 k3 T' rfl X'
    exact ⟨t2, st t2 a1, b1⟩
  · obtain ⟨k1, k2, k3⟩ := vx_keep h0 e1 hS hAX hf hL hF
    obtain ⟨t2, a1, b1⟩ := kx E ce q u t T'.heap (locs ++ L) e1.symm (by rw [← e2]; exact X'.warmed.alike) hp hb k1 k2 k3 (by rw [e1]; exact hce) hcv hcl T' rfl X'
    exact ⟨t2, st.trans a1, b1⟩
theorem vx_calld {S SX : Type} {post : UInt64 → S → Prop} {px : SX → Prop} {B : S → State → Prop} {BX : String → SX → State → Prop} {AX : Nat → Prop} (hr : vx_Run p l e R s m args below meth c H locs cells slots mc ms (F0 m pc ls st0) rest (va_Qd post B A1 a) (vx_X px BX AX) free) (hS : va_S A0 H0 H locs) (hA : ∀ q, q < H.size → A1 q → A0 q) (hf : ∀ q, free q → A0 q) (hAX : ∀ q, q < H.size → AX q → A0 q)
    (kx : ∀ (E : String) (ce : Cell) (q9 : Addr) (u : SX) (t : State) (H1 : Heap) (locs1 : List Loc), t.heap = H1 → s.vm.Alike t.vm → px u → BX E u t → H.size ≤ H1.size → (∀ q : Nat, q < H.size → ¬ AX q → H1[q]? = H[q]?) → va_S A0 H0 H1 locs1 → H1[q9]? = some ce → ce.vm = .none → s.vm.findClass E = some ce.cls → vx_W p l e R s m args below meth c H1 locs1 (cells + mc) (slots + ms) Q (F0 m pc ls rest) q9)
    (kk : ∀ (r : UInt64) (u : S) (t : State) (H1 : Heap) (locs1 : List Loc), t.heap = H1 → s.vm.Alike t.vm → post r u → B u t → H.size ≤ H1.size → (∀ q : Nat, q < H.size → ¬ A1 q → H1[q]? = H[q]?) → va_S A0 H0 H1 locs1 → W p l e R s m args below meth c H1 locs1 (cells + mc) (slots + ms) Q (F0 m (pc + 3) ls (.double r :: rest))) : W p l e R s m args below meth c H locs cells slots Q (F0 m pc ls st0) := by
  intro T hT X
  rcases hr T hT X with ⟨v, st₀, t, T', L, h0, X', hL, e1, e2, ⟨⟨r, u, hv, hp, hb⟩, hF⟩, st⟩ | ⟨q, st₀, t, T', L, E, ce, h0, X', hL, e1, e2, ⟨u, hp, hb, hF⟩, hce, hcv, hcl, st⟩
  · cases hv
    obtain ⟨k1, k2, k3⟩ := vx_keep h0 e1 hS hA hf hL hF
    obtain ⟨t2, a1, b1⟩ := kk r u t T'.heap (locs ++ L) e1.symm (by rw [← e2]; exact X'.warmed.alike) hp hb k1 k2 k3 T' rfl X'
    exact ⟨t2, st t2 a1, b1⟩
  · obtain ⟨k1, k2, k3⟩ := vx_keep h0 e1 hS hAX hf hL hF
    obtain ⟨t2, a1, b1⟩ := kx E ce q u t T'.heap (locs ++ L) e1.symm (by rw [← e2]; exact X'.warmed.alike) hp hb k1 k2 k3 (by rw [e1]; exact hce) hcv hcl T' rfl X'
    exact ⟨t2, st.trans a1, b1⟩
theorem vx_callv {S SX : Type} {post : S → Prop} {px : SX → Prop} {B : S → State → Prop} {BX : String → SX → State → Prop} {AX : Nat → Prop} (hr : vx_Run p l e R s m args below meth c H locs cells slots mc ms (F0 m pc ls st0) rest (va_Qv post B A1 a) (vx_X px BX AX) free) (hS : va_S A0 H0 H locs) (hA : ∀ q, q < H.size → A1 q → A0 q) (hf : ∀ q, free q → A0 q) (hAX : ∀ q, q < H.size → AX q → A0 q)
    (kx : ∀ (E : String) (ce : Cell) (q9 : Addr) (u : SX) (t : State) (H1 : Heap) (locs1 : List Loc), t.heap = H1 → s.vm.Alike t.vm → px u → BX E u t → H.size ≤ H1.size → (∀ q : Nat, q < H.size → ¬ AX q → H1[q]? = H[q]?) → va_S A0 H0 H1 locs1 → H1[q9]? = some ce → ce.vm = .none → s.vm.findClass E = some ce.cls → vx_W p l e R s m args below meth c H1 locs1 (cells + mc) (slots + ms) Q (F0 m pc ls rest) q9)
    (kk : ∀ (u : S) (t : State) (H1 : Heap) (locs1 : List Loc), t.heap = H1 → s.vm.Alike t.vm → post u → B u t → H.size ≤ H1.size → (∀ q : Nat, q < H.size → ¬ A1 q → H1[q]? = H[q]?) → va_S A0 H0 H1 locs1 → W p l e R s m args below meth c H1 locs1 (cells + mc) (slots + ms) Q (F0 m (pc + 3) ls (rest))) : W p l e R s m args below meth c H locs cells slots Q (F0 m pc ls st0) := by
  intro T hT X
  rcases hr T hT X with ⟨v, st₀, t, T', L, h0, X', hL, e1, e2, ⟨⟨u, hv, hp, hb⟩, hF⟩, st⟩ | ⟨q, st₀, t, T', L, E, ce, h0, X', hL, e1, e2, ⟨u, hp, hb, hF⟩, hce, hcv, hcl, st⟩
  · cases hv
    obtain ⟨k1, k2, k3⟩ := vx_keep h0 e1 hS hA hf hL hF
    obtain ⟨t2, a1, b1⟩ := kk u t T'.heap (locs ++ L) e1.symm (by rw [← e2]; exact X'.warmed.alike) hp hb k1 k2 k3 T' rfl X'
    exact ⟨t2, st t2 a1, b1⟩
  · obtain ⟨k1, k2, k3⟩ := vx_keep h0 e1 hS hAX hf hL hF
    obtain ⟨t2, a1, b1⟩ := kx E ce q u t T'.heap (locs ++ L) e1.symm (by rw [← e2]; exact X'.warmed.alike) hp hb k1 k2 k3 (by rw [e1]; exact hce) hcv hcl T' rfl X'
    exact ⟨t2, st.trans a1, b1⟩
/-- caught by the row x of this method's table; the rows ahead don't take it -/
theorem vx_catch {own name : String} {E : String} {ce : Cell} {q : Addr} (hown : s.vm.findClass own = some m.cls) (pre : List ExceptionTableEntry) (x : ExceptionTableEntry) (suf : List ExceptionTableEntry) (hsplit : c.exceptionTable.toList = pre ++ x :: suf)
    (hpass : ∀ z ∈ pre, covers z pc = false ∨ (z.catchType ≠ 0 ∧ ∃ nm : String, (Cond.classLink own z.catchType nm).before args s = true ∧ va_Nc E nm s)) (hx : covers x pc = true) (h0 : x.catchType ≠ 0)
    (hlink : (Cond.classLink own x.catchType name).before args s = true) (hcast : (Cond.castable E name).before args s = true) (hcell : H[q]? = some ce) (hv : ce.vm = .none) (hcl : s.vm.findClass E = some ce.cls)
    (kk : W p l e R s m args below meth c H locs cells slots Q (F0 m x.handlerPc ls [.ref q])) : vx_W p l e R s m args below meth c H locs cells slots Q (F0 m pc ls rest) q := by
  intro T hT X
  have hpl : e.platform.magicAccessors = ({} : Platform).magicAccessors := by rw [X.admits.platform]
  obtain ⟨c3, c4, hc3, hc4, hasg⟩ := Cond.castable_spec hcast
  cases Option.some.inj (hc3.symm.trans hcl)
  obtain ⟨c5, hc5, hcl5⟩ := Cond.classLink_spec hown hlink e.platform hpl
  cases Option.some.inj (hc4.symm.trans hc5)
  obtain ⟨vm', X', st⟩ := X.thenCaughtThrough q (g := F0 m pc ls rest) rfl (Steps.refl _) (by rw [hT]; exact hcell) (by rw [hv]; rfl) (by obtain ⟨k9, h9, -⟩ := Vm.findClass_spec hcl; exact ⟨k9, h9⟩) pre x suf hsplit
    (fun z hz => by
      rcases hpass z hz with h | ⟨hz0, nm, hl1, hn1⟩
      · exact Or.inl h
      · obtain ⟨c6, hc6, hcl6⟩ := Cond.classLink_spec hown hl1 e.platform hpl
        obtain ⟨a8, b8, h1, h2, h3⟩ := hn1
        cases Option.some.inj (h1.symm.trans hcl)
        cases Option.some.inj (h2.symm.trans hc6)
        exact Or.inr ⟨hz0, _, hcl6, h3⟩) hx (Or.inr ⟨h0, c4, hcl5, hasg⟩)
  obtain ⟨t, a1, b1⟩ := kk (T.setVm vm') hT X'
  exact ⟨t, st.trans a1, b1⟩
end Rows
section Ends
variable {p : Program} {l : Launch} {e : Env} {R : Room} {s : State} {m : MethodId} {args : Array Value} {below : List Frame} {meth : Method} {c : Code} {H : Heap} {locs : List Loc} {cells slots : Nat} {Q : State → Prop}
variable {mc ms : Nat} {free : Addr → Prop} {A0 A1 : Nat → Prop} {H0 : Heap} {a : Array Value} {ls : Array Slot} {st0 rest : List Value}
variable {Qc : Array Value → State → Outcome → State → Prop} {XC : String → State → State → Prop}
/-- what a body that may throw owes at its end -/
def vx_MQ (below : List Frame) (Qc : Array Value → State → Outcome → State → Prop) (XC : String → State → State → Prop) (a : Array Value) (s : State) (mc ms : Nat) (free : Addr → Prop) : State → Prop := fun t =>
  ∃ o, t.status = .running ∧ Ended t below o ∧ vx_Q Qc XC mc ms free a s o t
theorem vx_ret {g : JFrame} {mc ms : Nat} (k : W p l e R s m args below meth c H locs cells slots (MQ below Qc args s mc ms free) g) : W p l e R s m args below meth c H locs cells slots (vx_MQ below Qc XC args s mc ms free) g := by
  intro T hT X
  obtain ⟨t, a1, o, b1, b2, b3, b4⟩ := k T hT X
  exact ⟨t, a1, o, b1, b2, Or.inl ⟨b3, b4⟩⟩
/-- not caught here: it goes on to the caller -/
theorem vx_widen {g : JFrame} {q : Addr} {k n : Nat} (h1 : cells ≤ k) (h2 : slots ≤ n) (kk : vx_W p l e R s m args below meth c H locs k n Q g q) : vx_W p l e R s m args below meth c H locs cells slots Q g q := fun T hT X => kk T hT (stand_widen X h1 h2)
theorem vx_out {pc : Nat} {E : String} {ce : Cell} {q : Addr} {mc ms : Nat} (hout : ∀ x ∈ c.exceptionTable.toList, covers x pc = false) (hlocks : meth.locks = false) (hcell : H[q]? = some ce) (hv : ce.vm = .none) (hcl : s.vm.findClass E = some ce.cls)
    (hx : ∀ t : State, t.heap = H → s.vm.Alike t.vm → XC E s t) (hf : ∀ z ∈ locs, free z.base) (hc : cells ≤ mc) (hs : slots ≤ ms) :
    vx_W p l e R s m args below meth c H locs cells slots (vx_MQ below Qc XC args s mc ms free) (F0 m pc ls rest) q := by
  intro T hT X
  obtain ⟨st1, hrun, hend, hW, hsm⟩ := X.leaveThrown q (g := F0 m pc ls rest) rfl rfl rfl hout hlocks
  have hcell9 : (T.setFrames (.throwing q :: below)).heap[q]? = some ce := by
    show T.heap[q]? = some ce
    rw [hT]; exact hcell
  exact ⟨_, st1, .threw q, hrun, hend, Or.inr ⟨q, rfl, E, ce, locs, hx _ hT hW.alike, hcell9, hv, hcl, hW, hsm.mono hc hs, hf⟩⟩
theorem vx_frame {U : State} {k n : Nat} (h : s.sameButNew ({ U with vm := s.vm } : State) locs k n) : s.heap.size ≤ U.heap.size ∧ ∀ q : Nat, q < s.heap.size → (∀ z ∈ locs, z.base ≠ q) → U.heap[q]? = s.heap[q]? := by
  obtain ⟨-, h2, -, -, -, h6⟩ := h
  refine ⟨h2, fun q hq hz => ?_⟩
  obtain ⟨c9, e1, e2, e3, e4⟩ := h6 q _ (Array.getElem?_eq_getElem hq)
  have hs : c9.slots = (s.heap[q]).slots := Array.ext_getElem? fun i => e4 i fun hm => hz _ hm rfl
  have h9 : c9 = s.heap[q] := by
    rw [hs] at e2
    exact e2
  have e5 : U.heap[q]? = some c9 := e1
  rw [e5, h9, Array.getElem?_eq_getElem hq]
/-- the words of a throw but the four that speak of the heap -/
def vx_no (w : Cond) : Bool := decide (w ≠ .isRef (.static Bundle.tN "UNASSIGNED_STACK" Bundle.steD)) && decide (w ≠ .isRef (.static Bundle.tN "SUPPRESSED_SENTINEL" Bundle.listD)) && decide (w ≠ .laysStatic Bundle.tN "UNASSIGNED_STACK" Bundle.steD) && decide (w ≠ .laysStatic Bundle.tN "SUPPRESSED_SENTINEL" Bundle.listD)
def vx_at0 (own : String) (ic : Nat) (X : String) (names : List String) : List Cond := (Bundle.ownAtoms0 own ic X names).filter vx_no
def vx_atS (own : String) (ic : Nat) (X : String) (names : List String) : List Cond := (Bundle.ownAtoms own ic X names).filter vx_no
/-- a word that the tables alone decide, or a good one -/
def vx_ot (w : Cond) : Bool := w.onTables || goodWord w
theorem vx_ot_at {args a' : Array Value} {s U : State} {w : Cond} (hW : s.WarmedH U.vm) (hvm : s.vm = U.vm) (hg : vx_ot w = true) (h : w.before args s = true) : w.before a' U = true := by
  simp only [vx_ot, Bool.or_eq_true] at hg
  rcases hg with hg | hg
  · exact va_tabs hg hvm h
  · exact word_at hW (good_of_word hg) h
/-- a list's words: the good ones out of the method's own list, the others by premises of their own -/
theorem vx_hat {args : Array Value} {s : State} {L B : List Cond} (h1 : ∀ w ∈ L.filter goodWord, w.before args s = true) (h2 : ∀ w ∈ L.filter (fun w => !goodWord w), w ∈ B) (h3 : ∀ w ∈ B, w.before args s = true) : ∀ w ∈ L, w.before args s = true := by
  intro w hw
  by_cases g : goodWord w = true
  · exact h1 w (List.mem_filter.mpr ⟨hw, g⟩)
  · refine h3 w (h2 w (List.mem_filter.mpr ⟨hw, ?_⟩))
    show (!goodWord w) = true
    cases hgw : goodWord w
    · rfl
    · exact absurd hgw g
theorem vx_c {args : Array Value} {s : State} {w : Cond} {B : List Cond} (h : w.before args s = true) (t : ∀ w ∈ B, w.before args s = true) : ∀ w' ∈ w :: B, w'.before args s = true := fun w' h' => (List.mem_cons.mp h').elim (fun e => by rw [e]; exact h) (t w')
theorem vx_n {args : Array Value} {s : State} : ∀ w ∈ ([] : List Cond), w.before args s = true := fun _ h => nomatch h
theorem vx_own {args : Array Value} {s : State} {L : List Cond} (h1 : ∀ w ∈ L.filter vx_no, w.before args s = true)
    (hU : (Cond.isRef (.static Bundle.tN "UNASSIGNED_STACK" Bundle.steD)).before args s = true) (hN : (Cond.isRef (.static Bundle.tN "SUPPRESSED_SENTINEL" Bundle.listD)).before args s = true)
    (lU : (Cond.laysStatic Bundle.tN "UNASSIGNED_STACK" Bundle.steD).before args s = true) (lN : (Cond.laysStatic Bundle.tN "SUPPRESSED_SENTINEL" Bundle.listD).before args s = true) : ∀ w ∈ L, w.before args s = true := by
  intro w hw
  by_cases e1 : w = .isRef (.static Bundle.tN "UNASSIGNED_STACK" Bundle.steD)
  · rw [e1]; exact hU
  · by_cases e2 : w = .isRef (.static Bundle.tN "SUPPRESSED_SENTINEL" Bundle.listD)
    · rw [e2]; exact hN
    · by_cases e3 : w = .laysStatic Bundle.tN "UNASSIGNED_STACK" Bundle.steD
      · rw [e3]; exact lU
      · by_cases e4 : w = .laysStatic Bundle.tN "SUPPRESSED_SENTINEL" Bundle.listD
        · rw [e4]; exact lN
        · exact h1 w (List.mem_filter.mpr ⟨hw, by unfold vx_no; rw [decide_eq_true e1, decide_eq_true e2, decide_eq_true e3, decide_eq_true e4]; rfl⟩)
/-- where a static field lies, its class's statics cell in H -/
def vx_L (C n d : String) (A : Nat → Prop) (U : State) (H : Heap) : Prop := ∃ (c : ClassId) (k : Class) (i : Nat) (f : Field) (a : Nat) (cell : Cell), U.vm.findClass C = some c ∧ U.fieldFound? C n d = some (c, k, i, f) ∧ f.isStatic = true ∧ k.statics = some a ∧ H[a]? = some cell ∧ cell.vm.isStatics = true ∧ cell.cls = c ∧ f.slot < cell.slots.size ∧ k.staticTypes[f.slot]? = some f.type ∧ ¬ A a
theorem vx_L.moved {C n d : String} {A : Nat → Prop} {u U : State} {H : Heap} (hvm : u.vm.Alike U.vm) (h : vx_L C n d A u H) : vx_L C n d A U H := by
  obtain ⟨c, k, i, f, a, cell, h1, h2, h3, h4, h5, h6, h7, h8, h9, h10⟩ := h
  obtain ⟨k', hi', he⟩ := State.fieldFound?_setVm hvm h2
  exact ⟨c, k', i, f, a, cell, by rw [hvm.findClass]; exact h1, hi', h3, by rw [he]; exact h4, h5, h6, h7, h8, by rw [he]; exact h9, h10⟩
theorem vx_L.kept {C n d : String} {A : Nat → Prop} {U : State} {H H1 : Heap} (h : vx_L C n d A U H) (hq : ∀ a : Nat, a < H.size → ¬ A a → H1[a]? = H[a]?) : vx_L C n d A U H1 := by
  obtain ⟨c, k, i, f, a, cell, h1, h2, h3, h4, h5, h6, h7, h8, h9, h10⟩ := h
  exact ⟨c, k, i, f, a, cell, h1, h2, h3, h4, by rw [hq a (Array.getElem?_eq_some_iff.mp h5).1 h10]; exact h5, h6, h7, h8, h9, h10⟩
theorem vx_L.narrow {C n d : String} {A B : Nat → Prop} {U : State} {H : Heap} (h : vx_L C n d A U H) (hAB : ∀ q, B q → A q) : vx_L C n d B U H := by
  obtain ⟨c, k, i, f, a, cell, h1, h2, h3, h4, h5, h6, h7, h8, h9, h10⟩ := h
  exact ⟨c, k, i, f, a, cell, h1, h2, h3, h4, h5, h6, h7, h8, h9, fun z => h10 (hAB _ z)⟩
theorem vx_L.word {C n d : String} {A : Nat → Prop} {s : State} {args : Array Value} (h : vx_L C n d A s s.heap) : (Cond.laysStatic C n d).before args s = true := by
  obtain ⟨c, k, i, f, a, cell, h1, h2, h3, h4, h5, h6, h7, h8, h9, -⟩ := h
  show (Cond.laysStatic C n d).holds args s none s [] = true
  exact Cond.laysStatic_of h1 h2 h3 h4 h5 h6 h7 h8 h9
/-- .. and what it holds: null or some reference -/
def vx_Zq (C n d : String) (A : Nat → Prop) (U : State) (H : Heap) : Prop := va_Zq C n d A U H ∧ vx_L C n d A U H
theorem vx_Zq.moved {C n d : String} {A : Nat → Prop} {u U : State} {H : Heap} (hvm : u.vm.Alike U.vm) (h : vx_Zq C n d A u H) : vx_Zq C n d A U H := ⟨va_Zq.moved hvm h.1, vx_L.moved hvm h.2⟩
theorem vx_Zq.kept {C n d : String} {A : Nat → Prop} {U : State} {H H1 : Heap} (h : vx_Zq C n d A U H) (hq : ∀ a : Nat, a < H.size → ¬ A a → H1[a]? = H[a]?) : vx_Zq C n d A U H1 := ⟨va_Zq.kept h.1 hq, vx_L.kept h.2 hq⟩
theorem vx_Zq.narrow {C n d : String} {A B : Nat → Prop} {U : State} {H : Heap} (h : vx_Zq C n d A U H) (hAB : ∀ q, B q → A q) : vx_Zq C n d B U H := ⟨va_Zq.narrow h.1 hAB, vx_L.narrow h.2 hAB⟩
theorem vx_Zqof {args : Array Value} {s : State} {C n d : String} {A : Nat → Prop} (hl : (Cond.laysStatic C n d).before args s = true) (hini : (Cond.initialized C).before args s = true) (h : (Cond.isRef (.static C n d)).before args s = true) (hA : ∀ a : Nat, a < s.heap.size → ¬ A a) : vx_Zq C n d A s s.heap := by
  refine ⟨va_Zqof hl hini h hA, ?_⟩
  obtain ⟨c, k, i, f, a, cell, h1, h2, h3, h4, h5, h6, h7, h8, h9⟩ := Cond.laysStatic_spec hl
  exact ⟨c, k, i, f, a, cell, h1, h2, h3, h4, h5, h6, h7, h8, h9, hA a (Array.getElem?_eq_some_iff.mp h5).1⟩
theorem vx_isRef {C n d : String} {v : Value} {A : Nat → Prop} {s : State} {args : Array Value} (h : va_Z C n d v A s s.heap) (hv : v.isRef = true) : (Cond.isRef (.static C n d)).before args s = true := by
  obtain ⟨cf, kf, fi, f, a, cell, h1, h2, h3, h4, h5, h6, h7, -⟩ := h
  have he : (Term.static C n d).eval args s none [] s = some v := by
    simp [Term.eval, State.fieldNamed?, h1, h2, h4, h5, h6, h7]
  simp only [Cond.before, Cond.holds, Cond.value, he]
  cases v <;> simp_all [Value.isRef]
theorem vx_isRefq {C n d : String} {A : Nat → Prop} {s : State} {args : Array Value} (h : va_Zq C n d A s s.heap) : (Cond.isRef (.static C n d)).before args s = true := by
  rcases h with h | ⟨t, h⟩
  · exact vx_isRef h rfl
  · exact vx_isRef h rfl
/-- the same frame, seen from here: as if the method were called anew in this heap -/
theorem vx_rebase {T : State} (X : Stand p l e R s m args below meth c T locs cells slots) {R' : Room} (hf : R'.frames ≤ R.frames) (hl : R'.locals ≤ R.locals) (hc : cells + R'.cells ≤ R.cells) (hs : slots + R'.slots ≤ R.slots) :
    Stand p l e R' ((T.setVm s.vm).setFrames (.invoking m args :: below)) m args below meth c T [] 0 0 := by
  have htop : (T.setVm s.vm).topJava?.isSome := X.here.top
  have hF : ((T.setVm s.vm).setFrames (.invoking m args :: below)).frames = .invoking m args :: below := State.frames_setFrames _ (State.cur_lt_of_top htop)
  obtain ⟨g₀, hg0⟩ := Option.isSome_iff_exists.mp htop
  obtain ⟨r, hr⟩ := State.topJava?_eq_some.mp hg0
  have hl9 : e.platform.stackLimits (T.setVm s.vm).me = e.platform.stackLimits s.me := X.limits
  have hb9 : (T.setVm s.vm).me.stackBytes = s.me.stackBytes := X.bytes
  refine ⟨X.admits, X.cas, X.clock, hF, ?_, X.hears, X.method, X.code, X.here, X.tail, X.warmed, ?_, ?_, ?_⟩
  · have h := X.room
    have hU : ((T.setVm s.vm).setFrames (.invoking m args :: below)).localsInUse = s.localsInUse := by
      rw [State.localsInUse_invoking hF (meth := meth) (c := c) X.method X.code, State.localsInUse_invoking X.frames X.method X.code]
    simp only [State.hasRoom, Bool.and_eq_true, decide_eq_true_eq] at h ⊢
    obtain ⟨⟨⟨⟨h1, h2, h3, h4, h5, h6⟩, h7⟩, h8⟩, h9⟩ := h
    rw [X.frames, List.length_cons] at h2 h3
    have q1 := X.heapSize
    have q2 := X.used
    simp only [hF, hU, List.length_cons, State.stackLimits_setFrames, State.stackBytes_setFrames, hl9, hb9]
    refine ⟨⟨⟨⟨by omega, by omega, by omega, by omega, by omega, h6⟩, ?_⟩, ?_⟩, X.book⟩
    · show T.heap.size + R'.cells ≤ e.platform.maxCells
      omega
    · show T.slotsUsed + R'.slots ≤ e.platform.maxSlots
      omega
  · rw [State.stackLimits_setFrames]; rfl
  · rw [State.stackBytes_setFrames]; rfl
  · refine ⟨?_, Nat.le_refl _, Nat.le_refl _, ?_, ?_, fun a c9 h9 => ⟨c9, h9, rfl, rfl, fun _ _ => rfl⟩⟩
    · obtain ⟨t, ht, -⟩ := State.frames_cons hr
      show T.setVm s.vm = { ((T.setVm s.vm).setFrames (.invoking m args :: below)).setFrames (T.setVm s.vm).frames with heap := T.heap, slotsUsed := T.slotsUsed }
      rw [State.setFrames_setFrames, State.setFrames_self ht]
      rfl
    · show T.slotsUsed = T.slotsUsed + ((T.heap.toList.drop T.heap.size).map (·.slots.size)).sum
      rw [List.drop_eq_nil_of_le (Nat.le_of_eq Array.length_toList)]
      rfl
    · show ((T.heap.toList.drop T.heap.size).map (·.slots.size)).sum ≤ 0
      rw [List.drop_eq_nil_of_le (Nat.le_of_eq Array.length_toList)]
      exact Nat.le_refl _
/-- 'throw new E()': new; dup; invokespecial; athrow -/
theorem vx_throw0 {cc : ByteArray} {pc : Nat} (hexec : p.tables.exec = Jvm.exec) (hb : c.code = cc) (hl : l.stackTraces = false) {own cls : String} {names : List String} {ik ic mc ms : Nat} {A : Nat → Prop}
    (hown : s.vm.findClass own = some m.cls) (hcls : Bundle.fit cls = true) (hnames : ∀ n ∈ names, Bundle.fit n = true)
    (hk : (Cond.classLink own ik cls).before args s = true) (hini : (Cond.initialized cls).before args s = true) (hat : ∀ w ∈ vx_at0 own ic cls names, w.before args s = true)
    (hgood : ∀ w ∈ Cond.classLink own ik cls :: Cond.initialized cls :: vx_at0 own ic cls names, vx_ot w = true)
    (hU : vx_Zq Bundle.tN "UNASSIGNED_STACK" Bundle.steD A s s.heap) (hN : vx_Zq Bundle.tN "SUPPRESSED_SENTINEL" Bundle.listD A s s.heap) (hS : va_S A s.heap H locs) (hsize : ls.size = c.maxLocals)
    (d0 : decode cc pc = .ok (.new ik, 3)) (d3 : decode cc (pc + 3) = .ok (.dup, 1)) (d4 : decode cc (pc + 4) = .ok (.invokespecial ic, 3)) (d7 : decode cc (pc + 7) = .ok (.athrow, 1))
    (hout : ∀ x ∈ c.exceptionTable.toList, covers x (pc + 7) = false)
    (hRframes : names.length + 3 < R.frames) (hRlocals : (rest.map fun v => v.category).sum + (13 * (names.length + 1) + 42) ≤ R.locals) (hRcells : cells + 1 ≤ R.cells) (hRslots : slots + 6 ≤ R.slots) (hlocks : meth.locks = false)
    (hx : ∀ t : State, s.vm.Alike t.vm → H.size ≤ t.heap.size → (∀ q : Nat, q < H.size → t.heap[q]? = H[q]?) → XC cls s t)
    (hf : ∀ z ∈ locs, free z.base) (hc : cells + 1 ≤ mc) (hs : slots + 6 ≤ ms) :
    W p l e R s m args below meth c H locs cells slots (vx_MQ below Qc XC args s mc ms free) (F0 m pc ls rest) := by
  intro T hT X
  have htr : e.platform.stackTraces = false := (show e.platform.stackTraces = l.stackTraces by rw [X.admits.platform]).trans hl
  have Y := vx_rebase X (R' := { frames := R.frames, locals := R.locals, cells := 1, slots := 6 }) (Nat.le_refl _) (Nat.le_refl _) hRcells hRslots
  obtain ⟨s', hA⟩ : ∃ z, z = (T.setVm s.vm).setFrames (.invoking m args :: below) := ⟨_, rfl⟩
  rw [← hA] at Y
  have hvm : s'.vm = s.vm := by rw [hA]; rfl
  have hhp : s'.heap = H := by rw [hA]; exact hT
  have hW0 : s.WarmedH s'.vm := by rw [hvm]; exact State.WarmedH.refl s
  have hat' : ∀ w ∈ vx_at0 own ic cls names, w.before args s' = true := fun w hw => vx_ot_at hW0 hvm.symm (hgood w (List.mem_cons_of_mem _ (List.mem_cons_of_mem _ hw))) (hat w hw)
  have hk' : (Cond.classLink own ik cls).before args s' = true := vx_ot_at hW0 hvm.symm (hgood _ List.mem_cons_self) hk
  have hini' : (Cond.initialized cls).before args s' = true := vx_ot_at hW0 hvm.symm (hgood _ (List.mem_cons_of_mem _ List.mem_cons_self)) hini
  have hU' : vx_Zq Bundle.tN "UNASSIGNED_STACK" Bundle.steD A s' s'.heap := by rw [hhp]; exact vx_Zq.moved hW0.alike (hU.kept hS.2.1)
  have hN' : vx_Zq Bundle.tN "SUPPRESSED_SENTINEL" Bundle.listD A s' s'.heap := by rw [hhp]; exact vx_Zq.moved hW0.alike (hN.kept hS.2.1)
  have h : ∀ w ∈ Bundle.ownAtoms0 own ic cls names, w.before args s' = true := vx_own hat' (vx_isRefq hU'.1) (vx_isRefq hN'.1) hU'.2.word hN'.2.word
  have hown' : s'.vm.findClass own = some m.cls := by rw [hvm]; exact hown
  have hins : (Cond.instantiable cls 6).before args s' = true := h _ (by simp [Bundle.ownAtoms0])
  obtain ⟨vm₁, cX, kX, hfX, hkX, -, -, X₁, st1⟩ := Y.newCold hexec (own := own) (C := cls) (index := ik) (n := 6) hown' hk' hins hini'
    (g := F0 m pc ls rest) rfl (by rw [hb]; exact d0) (Nat.le_refl _) (Nat.le_refl _)
  generalize hT1 : (T.setVm vm₁).pushCell { cls := cX, slots := kX.instanceTypes.map defaultValue, vm := .none } = T1 at X₁ st1
  have hcat : (Value.ref T.heap.size).category = 1 := rfl
  have hcellA : T1.heap[T.heap.size]? = some (freshCell cX kX) := by rw [← hT1]; exact State.heap_pushCell_size _ _
  have d3' : decode c.code (pc + 3) = .ok (.dup, 1) := by rw [hb]; exact d3
  obtain ⟨U, hsteps, hrun, hend, hW, hsame, ce, hce, hO⟩ := X₁.ctorThrow0 hexec htr (own := own) (cls := cls) (names := names) (ic := ic) hown' hcls hnames h (fun x hx => nomatch hx) hfX hkX hcellA (by rw [hhp, hT]; exact Nat.le_refl _)
    (g := { method := m, pc := pc + 4, locals := ls, stack := .ref T.heap.size :: .ref T.heap.size :: rest, locked := none }) rfl hsize rfl rfl (rest := rest) rfl
    (by rw [hb]; exact d4) (by rw [hb]; exact d7) hout hRframes (by simp only [List.map_cons, List.sum_cons, hcat]; omega) hlocks
  obtain ⟨f1, f2⟩ := vx_frame hsame
  rw [hhp] at f1 f2
  have hWs : s.WarmedH U.vm := State.WarmedH.trans hW0 hW
  have hcl : s.vm.findClass cls = some ce.cls := by
    have h9 := hO.cls
    rw [hvm] at h9
    exact h9
  have hall : s.sameButNew ({ U with vm := s.vm } : State) locs mc ms := by
    subst hA
    obtain ⟨e1, e2⟩ := hsame
    rw [State.setFrames_setFrames] at e1
    have h2 : (T.setVm s.vm).sameButNew ({ U with vm := s.vm } : State) [] (0 + 1) (0 + 6) := ⟨e1, e2⟩
    have h3 := X.same.trans h2
    rw [List.append_nil] at h3
    exact h3.mono hc hs
  refine ⟨U, ?_, .threw T.heap.size, hrun, hend, Or.inr ⟨T.heap.size, rfl, cls, ce, locs, hx U hWs.alike f1 (fun q hq => f2 q hq (fun z hz => nomatch hz)), hce, hO.vm, hcl, hWs, hall, hf⟩⟩
  refine st1 _ ?_
  show Steps p.tables e below (T1.setTop { method := m, pc := pc + 3, locals := ls, stack := .ref T.heap.size :: rest, locked := none }) _
  jvm_step X₁.here [X₁.here.top, hexec, d3', Value.category]
  exact hsteps
/-- 'throw new E("text")': new; dup; ldc; invokespecial; athrow -/
theorem vx_throwS {cc : ByteArray} {pc : Nat} (hexec : p.tables.exec = Jvm.exec) (hb : c.code = cc) (hl : l.stackTraces = false) {own cls text : String} {names : List String} {ik is ic mc ms sa : Nat} {A : Nat → Prop}
    (hown : s.vm.findClass own = some m.cls) (hcls : Bundle.fit cls = true) (hnames : ∀ n ∈ names, Bundle.fit n = true)
    (hk : (Cond.classLink own ik cls).before args s = true) (hini : (Cond.initialized cls).before args s = true) (hstr : vk_R own is text sa s) (hat : ∀ w ∈ vx_atS own ic cls names, w.before args s = true)
    (hgood : ∀ w ∈ Cond.classLink own ik cls :: Cond.initialized cls :: vx_atS own ic cls names, vx_ot w = true)
    (hU : vx_Zq Bundle.tN "UNASSIGNED_STACK" Bundle.steD A s s.heap) (hN : vx_Zq Bundle.tN "SUPPRESSED_SENTINEL" Bundle.listD A s s.heap) (hS : va_S A s.heap H locs) (hsize : ls.size = c.maxLocals)
    (d0 : decode cc pc = .ok (.new ik, 3)) (d3 : decode cc (pc + 3) = .ok (.dup, 1)) (d4 : decode cc (pc + 4) = .ok (.ldc is, 2)) (d6 : decode cc (pc + 6) = .ok (.invokespecial ic, 3)) (d9 : decode cc (pc + 9) = .ok (.athrow, 1))
    (hout : ∀ x ∈ c.exceptionTable.toList, covers x (pc + 9) = false)
    (hRframes : names.length + 3 < R.frames) (hRlocals : (rest.map fun v => v.category).sum + (13 * (names.length + 1) + 43) ≤ R.locals) (hRcells : cells + 1 ≤ R.cells) (hRslots : slots + 6 ≤ R.slots) (hlocks : meth.locks = false)
    (hx : ∀ t : State, s.vm.Alike t.vm → H.size ≤ t.heap.size → (∀ q : Nat, q < H.size → t.heap[q]? = H[q]?) → XC cls s t)
    (hf : ∀ z ∈ locs, free z.base) (hc : cells + 1 ≤ mc) (hs : slots + 6 ≤ ms) :
    W p l e R s m args below meth c H locs cells slots (vx_MQ below Qc XC args s mc ms free) (F0 m pc ls rest) := by
  intro T hT X
  have htr : e.platform.stackTraces = false := (show e.platform.stackTraces = l.stackTraces by rw [X.admits.platform]).trans hl
  have Y := vx_rebase X (R' := { frames := R.frames, locals := R.locals, cells := 1, slots := 6 }) (Nat.le_refl _) (Nat.le_refl _) hRcells hRslots
  obtain ⟨s', hA⟩ : ∃ z, z = (T.setVm s.vm).setFrames (.invoking m args :: below) := ⟨_, rfl⟩
  rw [← hA] at Y
  have hvm : s'.vm = s.vm := by rw [hA]; rfl
  have hhp : s'.heap = H := by rw [hA]; exact hT
  have hW0 : s.WarmedH s'.vm := by rw [hvm]; exact State.WarmedH.refl s
  have hat' : ∀ w ∈ vx_atS own ic cls names, w.before args s' = true := fun w hw => vx_ot_at hW0 hvm.symm (hgood w (List.mem_cons_of_mem _ (List.mem_cons_of_mem _ hw))) (hat w hw)
  have hk' : (Cond.classLink own ik cls).before args s' = true := vx_ot_at hW0 hvm.symm (hgood _ List.mem_cons_self) hk
  have hini' : (Cond.initialized cls).before args s' = true := vx_ot_at hW0 hvm.symm (hgood _ (List.mem_cons_of_mem _ List.mem_cons_self)) hini
  have hU' : vx_Zq Bundle.tN "UNASSIGNED_STACK" Bundle.steD A s' s'.heap := by rw [hhp]; exact vx_Zq.moved hW0.alike (hU.kept hS.2.1)
  have hN' : vx_Zq Bundle.tN "SUPPRESSED_SENTINEL" Bundle.listD A s' s'.heap := by rw [hhp]; exact vx_Zq.moved hW0.alike (hN.kept hS.2.1)
  have h : ∀ w ∈ Bundle.ownAtoms own ic cls names, w.before args s' = true := vx_own hat' (vx_isRefq hU'.1) (vx_isRefq hN'.1) hU'.2.word hN'.2.word
  have hown' : s'.vm.findClass own = some m.cls := by rw [hvm]; exact hown
  have hins : (Cond.instantiable cls 6).before args s' = true := h _ (by simp [Bundle.ownAtoms])
  obtain ⟨vm₁, cX, kX, hfX, hkX, -, -, X₁, st1⟩ := Y.newCold hexec (own := own) (C := cls) (index := ik) (n := 6) hown' hk' hins hini'
    (g := F0 m pc ls rest) rfl (by rw [hb]; exact d0) (Nat.le_refl _) (Nat.le_refl _)
  generalize hT1 : (T.setVm vm₁).pushCell { cls := cX, slots := kX.instanceTypes.map defaultValue, vm := .none } = T1 at X₁ st1
  have hcat : (Value.ref T.heap.size).category = 1 := rfl
  have hcellA : T1.heap[T.heap.size]? = some (freshCell cX kX) := by rw [← hT1]; exact State.heap_pushCell_size _ _
  have d3' : decode c.code (pc + 3) = .ok (.dup, 1) := by rw [hb]; exact d3
  have d4' : decode c.code (pc + 4) = .ok (.ldc is, 2) := by rw [hb]; exact d4
  have hstr' : vk_R own is text sa s' := vk_R.warm hW0 hstr
  obtain ⟨U, hsteps, hrun, hend, hW, hsame, ce, hce, hO⟩ := X₁.ctorThrowS hexec htr (own := own) (cls := cls) (names := names) (ic := ic) hown' hcls hnames h (fun x hx => nomatch hx) hfX hkX hcellA (by rw [hhp, hT]; exact Nat.le_refl _) (msg := .ref sa) rfl
    (g := { method := m, pc := pc + 6, locals := ls, stack := .ref sa :: .ref T.heap.size :: .ref T.heap.size :: rest, locked := none }) rfl hsize rfl rfl (rest := rest) rfl
    (by rw [hb]; exact d6) (by rw [hb]; exact d9) hout hRframes (by simp only [List.map_cons, List.sum_cons, hcat]; omega) hlocks
  obtain ⟨f1, f2⟩ := vx_frame hsame
  rw [hhp] at f1 f2
  have hWs : s.WarmedH U.vm := State.WarmedH.trans hW0 hW
  have hcl : s.vm.findClass cls = some ce.cls := by
    have h9 := hO.cls
    rw [hvm] at h9
    exact h9
  have hall : s.sameButNew ({ U with vm := s.vm } : State) locs mc ms := by
    subst hA
    obtain ⟨e1, e2⟩ := hsame
    rw [State.setFrames_setFrames] at e1
    have h2 : (T.setVm s.vm).sameButNew ({ U with vm := s.vm } : State) [] (0 + 1) (0 + 6) := ⟨e1, e2⟩
    have h3 := X.same.trans h2
    rw [List.append_nil] at h3
    exact h3.mono hc hs
  refine ⟨U, ?_, .threw T.heap.size, hrun, hend, Or.inr ⟨T.heap.size, rfl, cls, ce, locs, hx U hWs.alike f1 (fun q hq => f2 q hq (fun z hz => nomatch hz)), hce, hO.vm, hcl, hWs, hall, hf⟩⟩
  refine st1 _ ?_
  show Steps p.tables e below (T1.setTop { method := m, pc := pc + 3, locals := ls, stack := .ref T.heap.size :: rest, locked := none }) _
  jvm_step X₁.here [X₁.here.top, hexec, d3', Value.category]
  exact X₁.ldcString hexec (own := own) (text := text) (index := is) (a := sa) hown' hstr'.1 hstr'.2
    (g := { method := m, pc := pc + 4, locals := ls, stack := .ref T.heap.size :: .ref T.heap.size :: rest, locked := none }) rfl d4' _ hsteps
/-- 'throw new E("text")', the text by a wide index -/
theorem vx_throwSW {cc : ByteArray} {pc : Nat} (hexec : p.tables.exec = Jvm.exec) (hb : c.code = cc) (hl : l.stackTraces = false) {own cls text : String} {names : List String} {ik is ic mc ms sa : Nat} {A : Nat → Prop}
    (hown : s.vm.findClass own = some m.cls) (hcls : Bundle.fit cls = true) (hnames : ∀ n ∈ names, Bundle.fit n = true)
    (hk : (Cond.classLink own ik cls).before args s = true) (hini : (Cond.initialized cls).before args s = true) (hstr : vk_R own is text sa s) (hat : ∀ w ∈ vx_atS own ic cls names, w.before args s = true)
    (hgood : ∀ w ∈ Cond.classLink own ik cls :: Cond.initialized cls :: vx_atS own ic cls names, vx_ot w = true)
    (hU : vx_Zq Bundle.tN "UNASSIGNED_STACK" Bundle.steD A s s.heap) (hN : vx_Zq Bundle.tN "SUPPRESSED_SENTINEL" Bundle.listD A s s.heap) (hS : va_S A s.heap H locs) (hsize : ls.size = c.maxLocals)
    (d0 : decode cc pc = .ok (.new ik, 3)) (d3 : decode cc (pc + 3) = .ok (.dup, 1)) (d4 : decode cc (pc + 4) = .ok (.ldc_w is, 3)) (d7 : decode cc (pc + 7) = .ok (.invokespecial ic, 3)) (d10 : decode cc (pc + 10) = .ok (.athrow, 1))
    (hout : ∀ x ∈ c.exceptionTable.toList, covers x (pc + 10) = false)
    (hRframes : names.length + 3 < R.frames) (hRlocals : (rest.map fun v => v.category).sum + (13 * (names.length + 1) + 43) ≤ R.locals) (hRcells : cells + 1 ≤ R.cells) (hRslots : slots + 6 ≤ R.slots) (hlocks : meth.locks = false)
    (hx : ∀ t : State, s.vm.Alike t.vm → H.size ≤ t.heap.size → (∀ q : Nat, q < H.size → t.heap[q]? = H[q]?) → XC cls s t)
    (hf : ∀ z ∈ locs, free z.base) (hc : cells + 1 ≤ mc) (hs : slots + 6 ≤ ms) :
    W p l e R s m args below meth c H locs cells slots (vx_MQ below Qc XC args s mc ms free) (F0 m pc ls rest) := by
  intro T hT X
  have htr : e.platform.stackTraces = false := (show e.platform.stackTraces = l.stackTraces by rw [X.admits.platform]).trans hl
  have Y := vx_rebase X (R' := { frames := R.frames, locals := R.locals, cells := 1, slots := 6 }) (Nat.le_refl _) (Nat.le_refl _) hRcells hRslots
  obtain ⟨s', hA⟩ : ∃ z, z = (T.setVm s.vm).setFrames (.invoking m args :: below) := ⟨_, rfl⟩
  rw [← hA] at Y
  have hvm : s'.vm = s.vm := by rw [hA]; rfl
  have hhp : s'.heap = H := by rw [hA]; exact hT
  have hW0 : s.WarmedH s'.vm := by rw [hvm]; exact State.WarmedH.refl s
  have hat' : ∀ w ∈ vx_atS own ic cls names, w.before args s' = true := fun w hw => vx_ot_at hW0 hvm.symm (hgood w (List.mem_cons_of_mem _ (List.mem_cons_of_mem _ hw))) (hat w hw)
  have hk' : (Cond.classLink own ik cls).before args s' = true := vx_ot_at hW0 hvm.symm (hgood _ List.mem_cons_self) hk
  have hini' : (Cond.initialized cls).before args s' = true := vx_ot_at hW0 hvm.symm (hgood _ (List.mem_cons_of_mem _ List.mem_cons_self)) hini
  have hU' : vx_Zq Bundle.tN "UNASSIGNED_STACK" Bundle.steD A s' s'.heap := by rw [hhp]; exact vx_Zq.moved hW0.alike (hU.kept hS.2.1)
  have hN' : vx_Zq Bundle.tN "SUPPRESSED_SENTINEL" Bundle.listD A s' s'.heap := by rw [hhp]; exact vx_Zq.moved hW0.alike (hN.kept hS.2.1)
  have h : ∀ w ∈ Bundle.ownAtoms own ic cls names, w.before args s' = true := vx_own hat' (vx_isRefq hU'.1) (vx_isRefq hN'.1) hU'.2.word hN'.2.word
  have hown' : s'.vm.findClass own = some m.cls := by rw [hvm]; exact hown
  have hins : (Cond.instantiable cls 6).before args s' = true := h _ (by simp [Bundle.ownAtoms])
  obtain ⟨vm₁, cX, kX, hfX, hkX, -, -, X₁, st1⟩ := Y.newCold hexec (own := own) (C := cls) (index := ik) (n := 6) hown' hk' hins hini'
    (g := F0 m pc ls rest) rfl (by rw [hb]; exact d0) (Nat.le_refl _) (Nat.le_refl _)
  generalize hT1 : (T.setVm vm₁).pushCell { cls := cX, slots := kX.instanceTypes.map defaultValue, vm := .none } = T1 at X₁ st1
  have hcat : (Value.ref T.heap.size).category = 1 := rfl
  have hcellA : T1.heap[T.heap.size]? = some (freshCell cX kX) := by rw [← hT1]; exact State.heap_pushCell_size _ _
  have d3' : decode c.code (pc + 3) = .ok (.dup, 1) := by rw [hb]; exact d3
  have d4' : decode c.code (pc + 4) = .ok (.ldc_w is, 3) := by rw [hb]; exact d4
  have hstr' : vk_R own is text sa s' := vk_R.warm hW0 hstr
  obtain ⟨U, hsteps, hrun, hend, hW, hsame, ce, hce, hO⟩ := X₁.ctorThrowS hexec htr (own := own) (cls := cls) (names := names) (ic := ic) hown' hcls hnames h (fun x hx => nomatch hx) hfX hkX hcellA (by rw [hhp, hT]; exact Nat.le_refl _) (msg := .ref sa) rfl
    (g := { method := m, pc := pc + 7, locals := ls, stack := .ref sa :: .ref T.heap.size :: .ref T.heap.size :: rest, locked := none }) rfl hsize rfl rfl (rest := rest) rfl
    (by rw [hb]; exact d7) (by rw [hb]; exact d10) hout hRframes (by simp only [List.map_cons, List.sum_cons, hcat]; omega) hlocks
  obtain ⟨f1, f2⟩ := vx_frame hsame
  rw [hhp] at f1 f2
  have hWs : s.WarmedH U.vm := State.WarmedH.trans hW0 hW
  have hcl : s.vm.findClass cls = some ce.cls := by
    have h9 := hO.cls
    rw [hvm] at h9
    exact h9
  have hall : s.sameButNew ({ U with vm := s.vm } : State) locs mc ms := by
    subst hA
    obtain ⟨e1, e2⟩ := hsame
    rw [State.setFrames_setFrames] at e1
    have h2 : (T.setVm s.vm).sameButNew ({ U with vm := s.vm } : State) [] (0 + 1) (0 + 6) := ⟨e1, e2⟩
    have h3 := X.same.trans h2
    rw [List.append_nil] at h3
    exact h3.mono hc hs
  refine ⟨U, ?_, .threw T.heap.size, hrun, hend, Or.inr ⟨T.heap.size, rfl, cls, ce, locs, hx U hWs.alike f1 (fun q hq => f2 q hq (fun z hz => nomatch hz)), hce, hO.vm, hcl, hWs, hall, hf⟩⟩
  refine st1 _ ?_
  show Steps p.tables e below (T1.setTop { method := m, pc := pc + 3, locals := ls, stack := .ref T.heap.size :: rest, locked := none }) _
  jvm_step X₁.here [X₁.here.top, hexec, d3', Value.category]
  exact X₁.ldcStringW hexec (own := own) (text := text) (index := is) (a := sa) hown' hstr'.1 hstr'.2
    (g := { method := m, pc := pc + 4, locals := ls, stack := .ref T.heap.size :: .ref T.heap.size :: rest, locked := none }) rfl d4' _ hsteps
end Ends
section Bodies
variable {l : Launch}
theorem vx_ofW {y : MethodName} {ws ws' : List Cond} {rm : Room} {Pc : Array Value → State → Prop} {Qc : Array Value → State → Outcome → State → Prop} {XC : String → State → State → Prop} {mc ms : Nat} {free : Addr → Prop} {cc : ByteArray} {maxL : Nat} {ret : Option FieldType}
    (hy : plainName y.cls = true) (hw : ws = Cond.code y cc maxL ret :: ws')
    (body : ∀ p e s m args below meth c s₁, BodyLoose p l y (headSpec ws rm) cc maxL ret e s m args below meth c s₁ → c.maxLocals = maxL → (∀ x ∈ c.exceptionTable.toList, False) → Pc args s →
      W p l e (headSpec ws rm).room s m args below meth c s.heap [] 0 0 (vx_MQ below Qc XC args s mc ms free) (entryFrame m args maxL)) : vx_Met l y ws rm Pc Qc XC mc ms free := by
  refine MetFree.of_bodyS (code := cc) (maxLocals := maxL) (ret := ret) hy ?_ ?_
  · intro args s m h hn
    obtain ⟨meth, c, h1, h2, h3, h4, h5, h6, -, -⟩ := Cond.code_spec hn (atoms_spec (ws := ws) h _ (by rw [hw]; exact List.mem_cons_self))
    exact ⟨meth, c, h1, h2, h3, h4, h5, h6⟩
  · intro p e s m args below meth c s₁ B hml hP _
    have hh0 : s₁.heap = s.heap := by rw [B.state]; rfl
    have ht : ∀ x ∈ c.exceptionTable.toList, False := by
      obtain ⟨meth9, c9, h1, h2, -, -, -, -, h7, -⟩ := Cond.code_spec B.named (atoms_spec (ws := ws) B.pre _ (by rw [hw]; exact List.mem_cons_self))
      cases Option.some.inj (h1.symm.trans B.method)
      cases Option.some.inj (h2.symm.trans (Stand.of_body B).code)
      intro x hx
      rw [Array.isEmpty_iff.mp h7] at hx
      cases hx
    obtain ⟨t, a1, o, b1, b2, b3⟩ := body p e s m args below meth c s₁ B hml ht hP s₁ hh0 (Stand.of_body B)
    exact ⟨t, o, a1, b1, b2, b3⟩
/-- the table of a body with handlers -/
theorem vx_table {p : Program} {x y : MethodName} {S : Spec} {cc bytes : ByteArray} {maxL maxL' : Nat} {ret ret' : Option FieldType} {e : Env} {s s₁ : State} {m : MethodId} {args : Array Value} {below : List Frame} {meth : Method} {c : Code} {hh : List (Nat × Nat × Nat × Nat)}
    (B : BodyLoose p l y S cc maxL ret e s m args below meth c s₁) (h : (Cond.codeWith y bytes maxL' ret' hh).before args s = true) : c.exceptionTable.toList = tableOf hh := by
  obtain ⟨m9, meth9, c9, hn9, h1, h2, -, -, h6, -⟩ := Cond.codeWith_spec h
  cases Option.some.inj (hn9.symm.trans B.named)
  cases Option.some.inj (h1.symm.trans B.method)
  cases Option.some.inj (h2.symm.trans (Stand.of_body B).code)
  rw [← h6, table_eq]
end Bodies
end VXA
/-! ===== END ===== -/
/-! ===== BEGIN a static call of a method with an exception table ===== -/
section VXS
variable {p : Program} {l : Launch} {e : Env} {R : Room} {s : State} {m : MethodId} {args : Array Value} {below : List Frame} {meth : Method} {c : Code} {T : State} {H : Heap} {locs : List Loc} {cells slots : Nat}
abbrev vx_CSW (R : Room) (s : State) (args : Array Value) (own : String) (index : Nat) (y : MethodName) (bytes : ByteArray) (maxL : Nat) (ret : Option FieldType) (hh : List (Nat × Nat × Nat × Nat)) (ws : List Cond) (rm : Room) (mc ms n : Nat) : Prop :=
  (rm.cells = mc ∧ rm.slots = ms ∧ rm.frames + 1 ≤ R.frames ∧ 8 + (maxL + 11) + rm.locals ≤ R.locals ∧ (∀ w ∈ ws, ∀ (a' : Array Value) (U : State), s.WarmedH U.vm → w.before a' U = true) ∧ Cond.codeWith y bytes maxL ret hh ∈ ws) ∧
  (Cond.codeWith y bytes maxL ret hh).before args s = true ∧ (Cond.initialized y.cls).before args s = true ∧ (y.cls ≠ "java/lang/invoke/MethodHandle" ∧ y.cls ≠ "java/lang/invoke/VarHandle") ∧
  (∀ sig, parseMethodDescriptor y.desc = some sig → n = sig.parameters.length) ∧ (Cond.methodLink own index y).before args s = true ∧ (Cond.static y).before args s = true
theorem vx_cwSW {own : String} {index maxL mc ms : Nat} {y : MethodName} {bytes : ByteArray} {ret : Option FieldType} {hh : List (Nat × Nat × Nat × Nat)} {Ts ws ws' : List Cond} {rm : Room} (n : Nat) (ht : ∀ w ∈ Ts, w.before args s = true) (hT : GoodIn Ts (va_wsS own index y ws)) (hw : ws = Cond.codeWith y bytes maxL ret hh :: ws') (hrc : rm.cells = mc) (hrs : rm.slots = ms)
    (hd : y.cls ≠ "java/lang/invoke/MethodHandle" ∧ y.cls ≠ "java/lang/invoke/VarHandle" ∧ (parseMethodDescriptor y.desc).map (fun d => d.parameters.length) = some n) (hR : rm.frames + 1 ≤ R.frames ∧ 8 + (maxL + 11) + rm.locals ≤ R.locals) :
    vx_CSW R s args own index y bytes maxL ret hh ws rm mc ms n := by
  have ok : ∀ w ∈ va_wsS own index y ws, w.before args s = true := fun w h => ht w (hT w h).1
  have hG : GoodIn Ts ws := fun w h => hT w (by unfold va_wsS; exact List.mem_append_right _ h)
  have hc : Cond.codeWith y bytes maxL ret hh ∈ ws := by rw [hw]; exact List.mem_cons_self
  refine ⟨⟨hrc, hrs, hR.1, hR.2, pay_in ht hG, hc⟩, ht _ (hG _ hc).1, ok _ (by simp [va_wsS]), ⟨hd.1, hd.2.1⟩, fun sig h => ?_, ok _ (by simp [va_wsS]), ok _ (by simp [va_wsS])⟩
  have h2 := hd.2.2
  rw [h] at h2
  exact (Option.some.inj h2).symm
theorem vx_callSW (X : Stand p l e R s m args below meth c T locs cells slots) (hexec : p.tables.exec = Jvm.exec) {own : String} {index : Nat} {y : MethodName} {bytes : ByteArray} {maxL : Nat} {ret : Option FieldType} {hh : List (Nat × Nat × Nat × Nat)}
    (hown : s.vm.findClass own = some m.cls) (hlink : (Cond.methodLink own index y).before args s = true) (hstat : (Cond.static y).before args s = true) (hinit : (Cond.initialized y.cls).before args s = true)
    (hcode : (Cond.codeWith y bytes maxL ret hh).before args s = true) (hy : y.cls ≠ "java/lang/invoke/MethodHandle" ∧ y.cls ≠ "java/lang/invoke/VarHandle")
    {W9 : Nat} {Pre : Pt → Array Value → Prop} {Post : Pt → Array Value → Option Value → Pt → Prop} (hK : Back l R p e below s args y 3 W9 Pre Post)
    {g : JFrame} (hg : g.method = m) (hsize : g.locals.size = c.maxLocals) {argsL rest : List Value} (hlen : ∀ sig, parseMethodDescriptor y.desc = some sig → argsL.length = sig.parameters.length)
    (hstack : g.stack = argsL.reverse ++ rest) (hW : 2 * g.monitorRoom + (rest.map fun v => v.category).sum ≤ W9) (hdg : decode c.code g.pc = .ok (.invokestatic index, 3))
    (hpre : ∀ vm₁, s.WarmedH vm₁ → Pre ⟨T.setVm vm₁, locs, cells, slots⟩ argsL.toArray) :
    ∃ (v : Option Value) (vm₁ : Vm) (B : Pt), s.WarmedH vm₁ ∧ Stand p l e R s m args below meth c B.U B.locs B.cells B.slots ∧ Post ⟨T.setVm vm₁, locs, cells, slots⟩ argsL.toArray v B ∧
      ∀ target, Steps p.tables e below (B.U.setTop { g with pc := g.pc + 3, stack := v.toList ++ rest }) target → Steps p.tables e below (T.setTop g) target := by
  obtain ⟨mk, methM, cM, hnamed, hmethM, -, -, -, -, -, -, hsigM⟩ := Cond.codeWith_spec hcode
  have hstatic : methM.isStatic = true := Cond.static_spec hnamed hmethM hstat
  obtain ⟨kP, hkP, -⟩ := className_of_methodNamed hnamed
  have hinitP : kP.init = .initialized := Cond.initialized_spec (findClass_of_methodNamed hnamed) hkP hinit
  obtain ⟨vm₁, X₁, hstep₁⟩ := X.invokestatic hexec hown hlink hnamed hmethM hstatic hkP hinitP hy (g := g) hg (argsL := argsL) (rest := rest) (hlen _ hsigM) hstack hdg
  obtain ⟨v, B, X', hpost, hsteps⟩ := hK m meth c ⟨T.setVm vm₁, locs, cells, slots⟩ { g with stack := rest } (.invokestatic index) mk argsL.toArray X₁ hg hsize hdg hW (X₁.named hnamed) (hpre vm₁ X₁.warmed)
  exact ⟨v, vm₁, B, X₁.warmed, X', hpost, fun target h => hstep₁ _ fun acts => by rw [doInvoke_state]; exact hsteps.trans h⟩
theorem vx_runSW {y : MethodName} {bytes cc : ByteArray} {maxL nL mc ms n index : Nat} {ret : Option FieldType} {hh : List (Nat × Nat × Nat × Nat)} {ws : List Cond} {rm : Room} {Pc : Array Value → State → Prop} {Qc : Array Value → State → Outcome → State → Prop} {free : Addr → Prop} {Ts : List Cond} {own : String} {As rest : List Value} {g : JFrame}
    (S : CallFix p m c cc nL s args Ts own) (hM : Met l y ws rm Pc Qc mc ms free) (cw : vx_CSW R s args own index y bytes maxL ret hh ws rm mc ms n) (hp : PreS s H Pc As)
    (hg : g.method = m) (hn : As.length = n) (hsize : g.locals.size = nL) (hstack : g.stack = As.reverse ++ rest) (hW : 2 * g.monitorRoom + (rest.map fun v => v.category).sum ≤ 8) (hdg : decode cc g.pc = .ok (.invokestatic index, 3)) (hf : cells + mc ≤ R.cells ∧ slots + ms ≤ R.slots) :
    va_Run p l e R s m args below meth c H locs cells slots mc ms g rest (Qc As.toArray) (free) := by
  obtain ⟨⟨hrc, hrs, hfr, hlo, hws, hcw⟩, hcode, hini, hy, hlen, hl, hstt⟩ := cw
  have hK : Back l R p e below s args y 3 8 (PreOf R mc ms Pc) (PostOf Qc mc ms free) := va_backW (hh := hh) (bytes := bytes) (maxL := maxL) (ret := ret) hM hp.1 hrc hrs hfr hlo hws hcw (fun a' U hW => word_at hW (Or.inl (by first | rfl | simp [Cond.onTables, Cond.keeps, Cond.steady])) hini)
  obtain ⟨hx, hb, hml, ho, -⟩ := S
  intro T hT X
  obtain ⟨v, vm₁, ⟨U', l2, c2, s2⟩, hW₁, X', ⟨g', mk, t, L, e1, e2, hq, h1, hL, h2, h3⟩, st⟩ := vx_callSW X hx (hh := hh) (bytes := bytes) (maxL := maxL) (ret := ret) ho hl hstt hini hcode hy hK hg (hsize.trans hml.symm) (argsL := As) (rest := rest) (fun sig h => hn.trans (hlen sig h)) hstack hW (by rw [hb]; exact hdg)
    (fun vm₁ hW₁ => ⟨hf.1, hf.2, hp.2 (T.setVm vm₁) hT hW₁⟩)
  dsimp only [Pt.U, Pt.locs, Pt.cells, Pt.slots] at X' e1 e2 h1 h2 h3 st
  subst h1; subst h2; subst h3
  exact ⟨v, (T.setVm vm₁).calling g' mk As.toArray, t, U', L, hT, X', hL, e1, e2, hq, st⟩
/-- not caught here, past rows that name other classes: it goes on to the caller -/
theorem vx_outP {p : Program} {l : Launch} {e : Env} {R : Room} {s : State} {m : MethodId} {args : Array Value} {below : List Frame} {meth : Method} {c : Code} {H : Heap} {locs : List Loc} {cells slots : Nat} {free : Addr → Prop} {ls : Array Slot} {rest : List Value} {Qc : Array Value → State → Outcome → State → Prop} {XC : String → State → State → Prop}
    {pc : Nat} {own E : String} {ce : Cell} {q : Addr} {mc ms : Nat} (hown : s.vm.findClass own = some m.cls) (hlocks : meth.locks = false)
    (hpass : ∀ z ∈ c.exceptionTable.toList, covers z pc = false ∨ (z.catchType ≠ 0 ∧ ∃ nm : String, (Cond.classLink own z.catchType nm).before args s = true ∧ va_Nc E nm s)) (hcell : H[q]? = some ce) (hv : ce.vm = .none) (hcl : s.vm.findClass E = some ce.cls)
    (hx : ∀ t : State, t.heap = H → s.vm.Alike t.vm → XC E s t) (hf : ∀ z ∈ locs, free z.base) (hc : cells ≤ mc) (hs : slots ≤ ms) :
    vx_W p l e R s m args below meth c H locs cells slots (vx_MQ below Qc XC args s mc ms free) (F0 m pc ls rest) q := by
  intro T hT X
  have hpl : e.platform.magicAccessors = ({} : Platform).magicAccessors := by rw [X.admits.platform]
  obtain ⟨vm', hW', X', st⟩ := X.outThrough hlocks q (g := F0 m pc ls rest) rfl rfl rfl (cell := ce) (by rw [hT]; exact hcell) (by rw [hv]; rfl)
    (by obtain ⟨k9, h9, -⟩ := Vm.findClass_spec hcl; exact ⟨k9, h9⟩) (fun z hz => by
      rcases hpass z hz with h | ⟨hz0, nm, hl1, hn1⟩
      · exact Or.inl h
      · obtain ⟨c6, hc6, hcl6⟩ := Cond.classLink_spec hown hl1 e.platform hpl
        obtain ⟨a8, b8, h1, h2, h3⟩ := hn1
        cases Option.some.inj (h1.symm.trans hcl)
        cases Option.some.inj (h2.symm.trans hc6)
        exact Or.inr ⟨hz0, _, hcl6, h3⟩)
  obtain ⟨g₀, hfr⟩ := X'.frames_eq
  have hcell9 : ((T.setVm vm').setFrames (.throwing q :: below)).heap[q]? = some ce := by
    show T.heap[q]? = some ce
    rw [hT]; exact hcell
  have hend : Ended ((T.setVm vm').setFrames (.throwing q :: below)) below (.threw q) := State.frames_setFrames _ (State.cur_lt_of_frames hfr)
  refine ⟨(T.setVm vm').setFrames (.throwing q :: below), ?_, .threw q, X'.here.running, hend, Or.inr ⟨q, rfl, E, ce, locs, hx _ hT (X'.ends _).1.alike, hcell9, hv, hcl, (X'.ends _).1, (X'.ends _).2.mono hc hs, hf⟩⟩
  rw [X.pushThrowing_eq]
  exact st
/-- a thing of a world lies in the heap -/
theorem vx_lt {D : va_G} {cl : List vw_C} {ws : va_W} {H1 : Heap} (h : va_P D cl ws H1) {k : Nat} {q : Nat × va_E} (hk : ws[k]? = some q) : q.1 < H1.size := (h k q hk).lt
end VXS
/-! ===== END ===== -/
/-! ===== BEGIN methods with a table of their own: called by a name, returning or throwing ===== -/
section VXH
/-! vx_backW, vx_callVX, vx_callSX, vx_callVW, vx_runVW, vx_runVX, vx_runSX, vx_ofWH follow the same proofs as their sisters above (Free/Laws.lean, Shelf42/LK1.lean); vx_outP calls Shelf42/NT130.lean (outThrough). -/
section
variable {l : Launch} {R : Room} {p : Program} {e : Env} {below : List Frame} {s : State} {sargs : Array Value} {y : MethodName} {len W9 : Nat}
theorem vx_backW {ws : List Cond} {rm : Room} {Pc : Array Value → State → Prop} {Qc : Array Value → State → Outcome → State → Prop} {XC : String → State → State → Prop} {mc ms : Nat} {free : Addr → Prop} {bytes : ByteArray} {maxL : Nat} {ret : Option FieldType} {hh : List (Nat × Nat × Nat × Nat)}
    (hM : vx_Met l y ws rm Pc Qc XC mc ms free) (hblind : FrameBlind Pc) (hrc : rm.cells = mc) (hrs : rm.slots = ms)
    (hframes : rm.frames + 1 ≤ R.frames) (hlocals : W9 + (maxL + 11) + rm.locals ≤ R.locals)
    (hws : ∀ w ∈ ws, ∀ a' U, s.WarmedH U.vm → w.before a' U = true) (hcode : Cond.codeWith y bytes maxL ret hh ∈ ws) (hinit : ∀ a' U, s.WarmedH U.vm → (Cond.initialized y.cls).before a' U = true) :
    vx_Back l R p e below s sargs y len W9 (PreOf R mc ms Pc) (PostOf Qc mc ms free) (vx_Post XC mc ms free) := by
  intro m meth c A g ig mk a X hg hsize hdg hW hn hp
  have h1 : (headSpec ws rm).pre.before a A.U = true := atoms_intro fun w hw => hws w hw _ _ X.warmed
  have h2 : (Cond.codeWith y bytes maxL ret hh).before a A.U = true := hws _ hcode _ _ X.warmed
  have h3 : (Cond.initialized y.cls).before a A.U = true := hinit _ _ X.warmed
  have h4 : A.cells + (headSpec ws rm).room.cells ≤ R.cells := by rw [show (headSpec ws rm).room.cells = mc from hrc]; exact hp.1
  have h5 : A.slots + (headSpec ws rm).room.slots ≤ R.slots := by rw [show (headSpec ws rm).room.slots = ms from hrs]; exact hp.2.1
  have hPc : Pc a (A.U.calling g mk a) := hblind _ _ _ _ hp.2.2
  obtain ⟨U, Ls, c0, s0⟩ := A
  dsimp only [Pt.U, Pt.locs, Pt.cells, Pt.slots] at h1 h2 h3 h4 h5 X hn hPc ⊢
  obtain ⟨m9, methY, cY, hn9, hmY, hcY, -, hlY, -⟩ := Cond.codeWith_spec h2
  cases Option.some.inj (hn9.symm.trans hn)
  obtain ⟨kY, hkY, -⟩ := className_of_methodNamed hn
  have hinitY : kY.init = .initialized := Cond.initialized_spec (findClass_of_methodNamed hn) hkY h3
  have h : At U g.method c below := by rw [hg]; exact X.here
  have hlocals9 : W9 + (maxL + 11) + (headSpec ws rm).room.locals ≤ R.locals := hlocals
  have happ : (headSpec ws rm).appliesLoose y e.platform (U.calling g mk a) = true :=
    Spec.appliesLoose_calling (g := g) h hdg hn hkY hinitY
      (X.room_calling (g := g) (R' := (headSpec ws rm).room) hsize hmY hcY hframes (by rw [hlY]; omega) h4 h5) h1
  obtain ⟨mid, hmid⟩ := h.above
  have hfr : (U.setTop g).frames = (.java g :: mid) ++ below := by rw [State.frames_setTop' g h.top, hmid]; rfl
  obtain ⟨o, s₂, hsteps, -, hend, hq⟩ := Steps.callFree hM p X.admits X.cas X.clock (acts := []) hfr happ hPc trivial
  have hq' : vx_Q Qc XC mc ms free a (U.calling g mk a) o s₂ := hq
  rw [State.frames_setTop' g h.top] at hend
  obtain ⟨g₀, hg0⟩ := Option.isSome_iff_exists.mp h.top
  obtain ⟨r, hr⟩ := State.topJava?_eq_some.mp hg0
  have hr' : (({ U with heap := s₂.heap, slotsUsed := s₂.slotsUsed } : State).setVm s₂.vm).frames = .java g₀ :: r := hr
  rcases hq' with ⟨hqc, L, hfe, hL⟩ | ⟨q, rfl, E, ce, L, hx, hce, hcv, hcl, hW₂, hsm, hL⟩
  · obtain ⟨⟨v, rfl⟩, hW₂, e2, q2, q3, q4, q5, q6⟩ := id hfe
    have e3 : s₂ = ({ (U.calling g mk a).setFrames s₂.frames with heap := s₂.heap, slotsUsed := s₂.slotsUsed } : State).setVm s₂.vm := by
      have : s₂ = ({ s₂ with vm := (U.calling g mk a).vm } : State).setVm s₂.vm := rfl
      rw [e2] at this
      exact this
    obtain ⟨c₂, i₂, len₂, hc₂, hd₂, hf₂⟩ := hend
    have hW' : U.WarmedH s₂.vm := hW₂
    have hcc : c₂ = c := by
      have h1 : s₂.code? g.method = U.code? g.method := by
        rw [State.code?_eq, State.code?_eq, hW'.alike.method?]
      exact Option.some.inj (hc₂.symm.trans (h1.trans h.code))
    subst hcc
    have hlen : len₂ = len := by rw [hdg] at hd₂; cases hd₂; rfl
    subst hlen
    have hs₂ : s₂ = (({ U with heap := s₂.heap, slotsUsed := s₂.slotsUsed } : State).setVm s₂.vm).setTop { g with pc := g.pc + len₂, stack := v.toList ++ g.stack } := by
      refine e3.trans ?_
      rw [hf₂, State.calling_eq h.top, State.setFrames_setFrames, State.setTop_of_frames _ hr', hr]
      rfl
    have hsame : U.sameButNew ({ U with heap := s₂.heap, slotsUsed := s₂.slotsUsed } : State) L mc ms := by
      refine ⟨?_, q2, q3, q4, q5, q6⟩
      obtain ⟨t, ht, -⟩ := State.frames_cons hr
      show ({ U with heap := s₂.heap, slotsUsed := s₂.slotsUsed } : State) = { U.setFrames U.frames with heap := s₂.heap, slotsUsed := s₂.slotsUsed }
      rw [State.setFrames_self ht]
    subst hg
    refine Or.inl ⟨v, ⟨(({ U with heap := s₂.heap, slotsUsed := s₂.slotsUsed } : State).setVm s₂.vm), Ls ++ L, c0 + mc, s0 + ms⟩,
      ⟨X.admits, X.cas, X.clock, X.frames, X.room, X.hears, X.method, X.code, (X.here.setHeapUsed s₂.heap s₂.slotsUsed).setVm hW'.alike, X.tail, State.WarmedH.trans X.warmed hW', X.limits, X.bytes, X.same.trans (hsame.setVm s.vm)⟩,
      ⟨g, mk, s₂, L, rfl, rfl, hqc, rfl, hL, rfl, rfl⟩, ?_⟩
    show Steps p.tables e below _ ((({ U with heap := s₂.heap, slotsUsed := s₂.slotsUsed } : State).setVm s₂.vm).setTop { g with pc := g.pc + len₂, stack := v.toList ++ g.stack })
    rw [← hs₂]
    exact hsteps
  · obtain ⟨e2, q2, q3, q4, q5, q6⟩ := id hsm
    have e3 : s₂ = ({ (U.calling g mk a).setFrames s₂.frames with heap := s₂.heap, slotsUsed := s₂.slotsUsed } : State).setVm s₂.vm := by
      have : s₂ = ({ s₂ with vm := (U.calling g mk a).vm } : State).setVm s₂.vm := rfl
      rw [e2] at this
      exact this
    have hf₂ : s₂.frames = .throwing q :: .java g :: U.frames.tail := hend
    have hW' : U.WarmedH s₂.vm := hW₂
    have hs₂ : s₂ = ((({ U with heap := s₂.heap, slotsUsed := s₂.slotsUsed } : State).setVm s₂.vm).setTop g).pushFrame (.throwing q) := by
      refine e3.trans ?_
      rw [hf₂, State.calling_eq h.top, State.setFrames_setFrames, State.pushFrame, State.frames_setTop _ hr', State.setTop_of_frames _ hr', State.setFrames_setFrames, hr]
      rfl
    have hsame : U.sameButNew ({ U with heap := s₂.heap, slotsUsed := s₂.slotsUsed } : State) L mc ms := by
      refine ⟨?_, q2, q3, q4, q5, q6⟩
      obtain ⟨t, ht, -⟩ := State.frames_cons hr
      show ({ U with heap := s₂.heap, slotsUsed := s₂.slotsUsed } : State) = { U.setFrames U.frames with heap := s₂.heap, slotsUsed := s₂.slotsUsed }
      rw [State.setFrames_self ht]
    subst hg
    refine Or.inr ⟨q, ⟨(({ U with heap := s₂.heap, slotsUsed := s₂.slotsUsed } : State).setVm s₂.vm), Ls ++ L, c0 + mc, s0 + ms⟩,
      ⟨X.admits, X.cas, X.clock, X.frames, X.room, X.hears, X.method, X.code, (X.here.setHeapUsed s₂.heap s₂.slotsUsed).setVm hW'.alike, X.tail, State.WarmedH.trans X.warmed hW', X.limits, X.bytes, X.same.trans (hsame.setVm s.vm)⟩,
      ⟨g, mk, s₂, L, E, ce, rfl, rfl, hx, hce, hcv, hcl, rfl, hL, rfl, rfl⟩, ?_⟩
    show Steps p.tables e below _ (((({ U with heap := s₂.heap, slotsUsed := s₂.slotsUsed } : State).setVm s₂.vm).setTop g).pushFrame (.throwing q))
    rw [← hs₂]
    exact hsteps
end
variable {p : Program} {l : Launch} {e : Env} {R : Room} {s : State} {m : MethodId} {args : Array Value} {below : List Frame} {meth : Method} {c : Code} {T : State} {H : Heap} {locs : List Loc} {cells slots : Nat}
theorem vx_callVX (X : Stand p l e R s m args below meth c T locs cells slots) (hexec : p.tables.exec = Jvm.exec) {own C : String} {index : Nat} {y : MethodName} {bytes : ByteArray} {maxL : Nat} {ret : Option FieldType} {hh : List (Nat × Nat × Nat × Nat)}
    (hown : s.vm.findClass own = some m.cls) (hlink : (Cond.methodLink own index y).before args s = true) (hinst : (Cond.instanceMethod y).before args s = true) (hsel : (Cond.selects C y y).before args s = true)
    (hcode : (Cond.codeWith y bytes maxL ret hh).before args s = true) (hy : y.cls ≠ "java/lang/invoke/MethodHandle" ∧ y.cls ≠ "java/lang/invoke/VarHandle")
    {W9 : Nat} {Pre : Pt → Array Value → Prop} {Post : Pt → Array Value → Option Value → Pt → Prop} {PostX : Pt → Array Value → Addr → Pt → Prop} (hK : vx_Back l R p e below s args y 3 W9 Pre Post PostX)
    {b : Addr} {cellB : Cell} (hcell : T.heap[b]? = some cellB) (hobj : cellB.vm.isStatics = false) (hcls : s.vm.findClass C = some cellB.cls)
    {g : JFrame} (hg : g.method = m) (hsize : g.locals.size = c.maxLocals) {argsL rest : List Value} (hlen : ∀ sig, parseMethodDescriptor y.desc = some sig → argsL.length = sig.parameters.length)
    (hstack : g.stack = argsL.reverse ++ .ref b :: rest) (hW : 2 * g.monitorRoom + (rest.map fun v => v.category).sum ≤ W9) (hdg : decode c.code g.pc = .ok (.invokevirtual index, 3))
    (hpre : ∀ vm₁, s.WarmedH vm₁ → Pre ⟨T.setVm vm₁, locs, cells, slots⟩ (Value.ref b :: argsL).toArray) :
    (∃ (v : Option Value) (vm₁ : Vm) (B : Pt), s.WarmedH vm₁ ∧ Stand p l e R s m args below meth c B.U B.locs B.cells B.slots ∧ Post ⟨T.setVm vm₁, locs, cells, slots⟩ (Value.ref b :: argsL).toArray v B ∧
      ∀ target, Steps p.tables e below (B.U.setTop { g with pc := g.pc + 3, stack := v.toList ++ rest }) target → Steps p.tables e below (T.setTop g) target) ∨
    (∃ (q : Addr) (vm₁ : Vm) (B : Pt), s.WarmedH vm₁ ∧ Stand p l e R s m args below meth c B.U B.locs B.cells B.slots ∧ PostX ⟨T.setVm vm₁, locs, cells, slots⟩ (Value.ref b :: argsL).toArray q B ∧
      Steps p.tables e below (T.setTop g) ((B.U.setTop { g with stack := rest }).pushFrame (.throwing q))) := by
  obtain ⟨mk, methM, hnamed, hmethM, hstM, habM⟩ := Cond.instanceMethod_spec hinst
  obtain ⟨m8, methM', cM, hn8, hmethM', -, -, -, -, -, -, hsigM⟩ := Cond.codeWith_spec hcode
  cases Option.some.inj (hn8.symm.trans hnamed)
  cases hmethM.symm.trans hmethM'
  obtain ⟨c2, r2, m2, q1, q2, q3, q4, kP, hkP, hkPi⟩ := Cond.selects_spec hsel
  cases hcls.symm.trans q1
  cases (State.methodFound?_of_named hnamed hy).symm.trans q2
  cases hnamed.symm.trans q3
  have hselP : selectMethod e.platform s.vm cellB.cls mk = .method mk := by rw [Launch.admits_selectMethod X.admits]; exact q4
  obtain ⟨vm₁, X₁, hstep₁⟩ := X.invokevirtual hexec hown hlink hnamed hmethM hstM hkP hkPi hy (a := b) (cell := cellB) hcell
    (fun z h => by rw [h] at hobj; cases hobj) hselP hmethM habM hkP hkPi (g := g) hg (argsL := argsL) (rest := rest) (hlen _ hsigM) hstack hdg
  rcases hK m meth c ⟨T.setVm vm₁, locs, cells, slots⟩ { g with stack := rest } (.invokevirtual index) mk (Value.ref b :: argsL).toArray X₁ hg hsize hdg hW (X₁.named hnamed) (hpre vm₁ X₁.warmed) with ⟨v, B, X', hpost, hsteps⟩ | ⟨q, B, X', hpost, hsteps⟩
  · exact Or.inl ⟨v, vm₁, B, X₁.warmed, X', hpost, fun target h => hstep₁ _ fun acts => by rw [doInvoke_state]; exact hsteps.trans h⟩
  · exact Or.inr ⟨q, vm₁, B, X₁.warmed, X', hpost, hstep₁ _ fun acts => by rw [doInvoke_state]; exact hsteps⟩
theorem vx_callSX (X : Stand p l e R s m args below meth c T locs cells slots) (hexec : p.tables.exec = Jvm.exec) {own : String} {index : Nat} {y : MethodName} {bytes : ByteArray} {maxL : Nat} {ret : Option FieldType} {hh : List (Nat × Nat × Nat × Nat)}
    (hown : s.vm.findClass own = some m.cls) (hlink : (Cond.methodLink own index y).before args s = true) (hstat : (Cond.static y).before args s = true) (hinit : (Cond.initialized y.cls).before args s = true)
    (hcode : (Cond.codeWith y bytes maxL ret hh).before args s = true) (hy : y.cls ≠ "java/lang/invoke/MethodHandle" ∧ y.cls ≠ "java/lang/invoke/VarHandle")
    {W9 : Nat} {Pre : Pt → Array Value → Prop} {Post : Pt → Array Value → Option Value → Pt → Prop} {PostX : Pt → Array Value → Addr → Pt → Prop} (hK : vx_Back l R p e below s args y 3 W9 Pre Post PostX)
    {g : JFrame} (hg : g.method = m) (hsize : g.locals.size = c.maxLocals) {argsL rest : List Value} (hlen : ∀ sig, parseMethodDescriptor y.desc = some sig → argsL.length = sig.parameters.length)
    (hstack : g.stack = argsL.reverse ++ rest) (hW : 2 * g.monitorRoom + (rest.map fun v => v.category).sum ≤ W9) (hdg : decode c.code g.pc = .ok (.invokestatic index, 3))
    (hpre : ∀ vm₁, s.WarmedH vm₁ → Pre ⟨T.setVm vm₁, locs, cells, slots⟩ argsL.toArray) :
    (∃ (v : Option Value) (vm₁ : Vm) (B : Pt), s.WarmedH vm₁ ∧ Stand p l e R s m args below meth c B.U B.locs B.cells B.slots ∧ Post ⟨T.setVm vm₁, locs, cells, slots⟩ argsL.toArray v B ∧
      ∀ target, Steps p.tables e below (B.U.setTop { g with pc := g.pc + 3, stack := v.toList ++ rest }) target → Steps p.tables e below (T.setTop g) target) ∨
    (∃ (q : Addr) (vm₁ : Vm) (B : Pt), s.WarmedH vm₁ ∧ Stand p l e R s m args below meth c B.U B.locs B.cells B.slots ∧ PostX ⟨T.setVm vm₁, locs, cells, slots⟩ argsL.toArray q B ∧
      Steps p.tables e below (T.setTop g) ((B.U.setTop { g with stack := rest }).pushFrame (.throwing q))) := by
  obtain ⟨mk, methM, cM, hnamed, hmethM, -, -, -, -, -, -, hsigM⟩ := Cond.codeWith_spec hcode
  have hstatic : methM.isStatic = true := Cond.static_spec hnamed hmethM hstat
  obtain ⟨kP, hkP, -⟩ := className_of_methodNamed hnamed
  have hinitP : kP.init = .initialized := Cond.initialized_spec (findClass_of_methodNamed hnamed) hkP hinit
  obtain ⟨vm₁, X₁, hstep₁⟩ := X.invokestatic hexec hown hlink hnamed hmethM hstatic hkP hinitP hy (g := g) hg (argsL := argsL) (rest := rest) (hlen _ hsigM) hstack hdg
  rcases hK m meth c ⟨T.setVm vm₁, locs, cells, slots⟩ { g with stack := rest } (.invokestatic index) mk argsL.toArray X₁ hg hsize hdg hW (X₁.named hnamed) (hpre vm₁ X₁.warmed) with ⟨v, B, X', hpost, hsteps⟩ | ⟨q, B, X', hpost, hsteps⟩
  · exact Or.inl ⟨v, vm₁, B, X₁.warmed, X', hpost, fun target h => hstep₁ _ fun acts => by rw [doInvoke_state]; exact hsteps.trans h⟩
  · exact Or.inr ⟨q, vm₁, B, X₁.warmed, X', hpost, hstep₁ _ fun acts => by rw [doInvoke_state]; exact hsteps⟩
theorem vx_callVW (X : Stand p l e R s m args below meth c T locs cells slots) (hexec : p.tables.exec = Jvm.exec) {own C : String} {index : Nat} {y : MethodName} {bytes : ByteArray} {maxL : Nat} {ret : Option FieldType} {hh : List (Nat × Nat × Nat × Nat)}
    (hown : s.vm.findClass own = some m.cls) (hlink : (Cond.methodLink own index y).before args s = true) (hinst : (Cond.instanceMethod y).before args s = true) (hsel : (Cond.selects C y y).before args s = true)
    (hcode : (Cond.codeWith y bytes maxL ret hh).before args s = true) (hy : y.cls ≠ "java/lang/invoke/MethodHandle" ∧ y.cls ≠ "java/lang/invoke/VarHandle")
    {W9 : Nat} {Pre : Pt → Array Value → Prop} {Post : Pt → Array Value → Option Value → Pt → Prop} (hK : Back l R p e below s args y 3 W9 Pre Post)
    {b : Addr} {cellB : Cell} (hcell : T.heap[b]? = some cellB) (hobj : cellB.vm.isStatics = false) (hcls : s.vm.findClass C = some cellB.cls)
    {g : JFrame} (hg : g.method = m) (hsize : g.locals.size = c.maxLocals) {argsL rest : List Value} (hlen : ∀ sig, parseMethodDescriptor y.desc = some sig → argsL.length = sig.parameters.length)
    (hstack : g.stack = argsL.reverse ++ .ref b :: rest) (hW : 2 * g.monitorRoom + (rest.map fun v => v.category).sum ≤ W9) (hdg : decode c.code g.pc = .ok (.invokevirtual index, 3))
    (hpre : ∀ vm₁, s.WarmedH vm₁ → Pre ⟨T.setVm vm₁, locs, cells, slots⟩ (Value.ref b :: argsL).toArray) :
    ∃ (v : Option Value) (vm₁ : Vm) (B : Pt), s.WarmedH vm₁ ∧ Stand p l e R s m args below meth c B.U B.locs B.cells B.slots ∧ Post ⟨T.setVm vm₁, locs, cells, slots⟩ (Value.ref b :: argsL).toArray v B ∧
      ∀ target, Steps p.tables e below (B.U.setTop { g with pc := g.pc + 3, stack := v.toList ++ rest }) target → Steps p.tables e below (T.setTop g) target := by
  obtain ⟨mk, methM, hnamed, hmethM, hstM, habM⟩ := Cond.instanceMethod_spec hinst
  obtain ⟨m8, methM', cM, hn8, hmethM', -, -, -, -, -, -, hsigM⟩ := Cond.codeWith_spec hcode
  cases Option.some.inj (hn8.symm.trans hnamed)
  cases hmethM.symm.trans hmethM'
  obtain ⟨c2, r2, m2, q1, q2, q3, q4, kP, hkP, hkPi⟩ := Cond.selects_spec hsel
  cases hcls.symm.trans q1
  cases (State.methodFound?_of_named hnamed hy).symm.trans q2
  cases hnamed.symm.trans q3
  have hselP : selectMethod e.platform s.vm cellB.cls mk = .method mk := by rw [Launch.admits_selectMethod X.admits]; exact q4
  obtain ⟨vm₁, X₁, hstep₁⟩ := X.invokevirtual hexec hown hlink hnamed hmethM hstM hkP hkPi hy (a := b) (cell := cellB) hcell
    (fun z h => by rw [h] at hobj; cases hobj) hselP hmethM habM hkP hkPi (g := g) hg (argsL := argsL) (rest := rest) (hlen _ hsigM) hstack hdg
  obtain ⟨v, B, X', hpost, hsteps⟩ := hK m meth c ⟨T.setVm vm₁, locs, cells, slots⟩ { g with stack := rest } (.invokevirtual index) mk (Value.ref b :: argsL).toArray X₁ hg hsize hdg hW (X₁.named hnamed) (hpre vm₁ X₁.warmed)
  exact ⟨v, vm₁, B, X₁.warmed, X', hpost, fun target h => hstep₁ _ fun acts => by rw [doInvoke_state]; exact hsteps.trans h⟩
abbrev vx_CVW (R : Room) (s : State) (args : Array Value) (own C : String) (index : Nat) (y : MethodName) (bytes : ByteArray) (maxL : Nat) (ret : Option FieldType) (hh : List (Nat × Nat × Nat × Nat)) (ws : List Cond) (rm : Room) (mc ms n : Nat) : Prop :=
  (rm.cells = mc ∧ rm.slots = ms ∧ rm.frames + 1 ≤ R.frames ∧ 8 + (maxL + 11) + rm.locals ≤ R.locals ∧ (∀ w ∈ ws, ∀ (a' : Array Value) (U : State), s.WarmedH U.vm → w.before a' U = true) ∧ Cond.codeWith y bytes maxL ret hh ∈ ws) ∧
  (Cond.codeWith y bytes maxL ret hh).before args s = true ∧ (Cond.initialized y.cls).before args s = true ∧ (y.cls ≠ "java/lang/invoke/MethodHandle" ∧ y.cls ≠ "java/lang/invoke/VarHandle") ∧
  (∀ sig, parseMethodDescriptor y.desc = some sig → n = sig.parameters.length) ∧ (Cond.methodLink own index y).before args s = true ∧ (Cond.instanceMethod y).before args s = true ∧ (Cond.selects C y y).before args s = true
theorem vx_cwVW {own C : String} {index maxL mc ms : Nat} {y : MethodName} {bytes : ByteArray} {ret : Option FieldType} {hh : List (Nat × Nat × Nat × Nat)} {Ts ws ws' : List Cond} {rm : Room} (n : Nat) (ht : ∀ w ∈ Ts, w.before args s = true) (hT : GoodIn Ts (wsV own index C y ws)) (hw : ws = Cond.codeWith y bytes maxL ret hh :: ws') (hrc : rm.cells = mc) (hrs : rm.slots = ms)
    (hd : y.cls = C ∧ y.cls ≠ "java/lang/invoke/MethodHandle" ∧ y.cls ≠ "java/lang/invoke/VarHandle" ∧ (parseMethodDescriptor y.desc).map (fun d => d.parameters.length) = some n) (hR : rm.frames + 1 ≤ R.frames ∧ 8 + (maxL + 11) + rm.locals ≤ R.locals) :
    vx_CVW R s args own C index y bytes maxL ret hh ws rm mc ms n := by
  obtain ⟨hC, hd⟩ := hd
  subst hC
  have ok : ∀ w ∈ wsV own index y.cls y ws, w.before args s = true := fun w h => ht w (hT w h).1
  have hG : GoodIn Ts ws := fun w h => hT w (by unfold wsV; exact List.mem_append_right _ h)
  have hc : Cond.codeWith y bytes maxL ret hh ∈ ws := by rw [hw]; exact List.mem_cons_self
  refine ⟨⟨hrc, hrs, hR.1, hR.2, pay_in ht hG, hc⟩, ht _ (hG _ hc).1, ok _ (by simp [wsV]), ⟨hd.1, hd.2.1⟩, fun sig h => ?_, ok _ (by simp [wsV]), ok _ (by simp [wsV]), ok _ (by simp [wsV])⟩
  have h2 := hd.2.2
  rw [h] at h2
  exact (Option.some.inj h2).symm
theorem vx_runVW {y : MethodName} {bytes cc : ByteArray} {maxL nL mc ms n index : Nat} {ret : Option FieldType} {hh : List (Nat × Nat × Nat × Nat)} {ws : List Cond} {rm : Room} {Pc : Array Value → State → Prop} {Qc : Array Value → State → Outcome → State → Prop} {free : Addr → Prop} {Ts : List Cond} {own C : String} {b : Addr} {As rest : List Value} {g : JFrame}
    (S : CallFix p m c cc nL s args Ts own) (hM : Met l y ws rm Pc Qc mc ms free) (cw : vx_CVW R s args own C index y bytes maxL ret hh ws rm mc ms n) (hp : PreV s H C b Pc As)
    (hg : g.method = m) (hn : As.length = n) (hsize : g.locals.size = nL) (hstack : g.stack = As.reverse ++ .ref b :: rest) (hW : 2 * g.monitorRoom + (rest.map fun v => v.category).sum ≤ 8) (hdg : decode cc g.pc = .ok (.invokevirtual index, 3)) (hf : cells + mc ≤ R.cells ∧ slots + ms ≤ R.slots) :
    va_Run p l e R s m args below meth c H locs cells slots mc ms g rest (Qc (Value.ref b :: As).toArray) free := by
  obtain ⟨⟨hrc, hrs, hfr, hlo, hws, hcw⟩, hcode, hini, hy, hlen, hl, hin, hse⟩ := cw
  have hK : Back l R p e below s args y 3 8 (PreOf R mc ms Pc) (PostOf Qc mc ms free) := va_backW (hh := hh) (bytes := bytes) (maxL := maxL) (ret := ret) hM hp.1 hrc hrs hfr hlo hws hcw (fun a' U hW => word_at hW (Or.inl (by first | rfl | simp [Cond.onTables, Cond.keeps, Cond.steady])) hini)
  obtain ⟨hx, hb, hml, ho, -⟩ := S
  obtain ⟨-, ⟨cellB, hcB, hoB, hclB⟩, hPc⟩ := hp
  intro T hT X
  obtain ⟨v, vm₁, ⟨U', l2, c2, s2⟩, hW₁, X', ⟨g', mk, t, L, e1, e2, hq, h1, hL, h2, h3⟩, st⟩ := vx_callVW X hx (C := C) (hh := hh) (bytes := bytes) (maxL := maxL) (ret := ret) ho hl hin hse hcode hy hK (by rw [hT]; exact hcB) hoB hclB hg (hsize.trans hml.symm) (argsL := As) (rest := rest) (fun sig h => hn.trans (hlen sig h)) hstack hW (by rw [hb]; exact hdg)
    (fun vm₁ hW₁ => ⟨hf.1, hf.2, hPc (T.setVm vm₁) hT hW₁⟩)
  dsimp only [Pt.U, Pt.locs, Pt.cells, Pt.slots] at X' e1 e2 h1 h2 h3 st
  subst h1; subst h2; subst h3
  exact ⟨v, (T.setVm vm₁).calling g' mk (Value.ref b :: As).toArray, t, U', L, hT, X', hL, e1, e2, hq, st⟩
section
variable {y : MethodName} {bytes cc : ByteArray} {maxL nL mc ms n index : Nat} {ret : Option FieldType} {ws : List Cond} {rm : Room} {Pc : Array Value → State → Prop} {Qc : Array Value → State → Outcome → State → Prop} {XC : String → State → State → Prop} {free : Addr → Prop} {Ts : List Cond} {own C : String} {b : Addr} {As rest : List Value} {g : JFrame}
theorem vx_runVX {hh : List (Nat × Nat × Nat × Nat)} (S : CallFix p m c cc nL s args Ts own) (hM : vx_Met l y ws rm Pc Qc XC mc ms free) (cw : vx_CVW R s args own C index y bytes maxL ret hh ws rm mc ms n) (hp : PreV s H C b Pc As)
    (hg : g.method = m) (hn : As.length = n) (hsize : g.locals.size = nL) (hstack : g.stack = As.reverse ++ .ref b :: rest) (hW : 2 * g.monitorRoom + (rest.map fun v => v.category).sum ≤ 8) (hdg : decode cc g.pc = .ok (.invokevirtual index, 3)) (hf : cells + mc ≤ R.cells ∧ slots + ms ≤ R.slots) :
    vx_Run p l e R s m args below meth c H locs cells slots mc ms g rest (Qc (Value.ref b :: As).toArray) XC free := by
  obtain ⟨⟨hrc, hrs, hfr, hlo, hws, hcw⟩, hcode, hini, hy, hlen, hl, hin, hse⟩ := cw
  have hK : vx_Back l R p e below s args y 3 8 (PreOf R mc ms Pc) (PostOf Qc mc ms free) (vx_Post XC mc ms free) := vx_backW (hh := hh) (bytes := bytes) (maxL := maxL) (ret := ret) hM hp.1 hrc hrs hfr hlo hws hcw (fun a' U hW => word_at hW (Or.inl (by first | rfl | simp [Cond.onTables, Cond.keeps, Cond.steady])) hini)
  obtain ⟨hx, hb, hml, ho, -⟩ := S
  obtain ⟨-, ⟨cellB, hcB, hoB, hclB⟩, hPc⟩ := hp
  intro T hT X
  rcases vx_callVX X hx (C := C) (hh := hh) (bytes := bytes) (maxL := maxL) (ret := ret) ho hl hin hse hcode hy hK (by rw [hT]; exact hcB) hoB hclB hg (hsize.trans hml.symm) (argsL := As) (rest := rest) (fun sig h => hn.trans (hlen sig h)) hstack hW (by rw [hb]; exact hdg)
    (fun vm₁ hW₁ => ⟨hf.1, hf.2, hPc (T.setVm vm₁) hT hW₁⟩) with ⟨v, vm₁, ⟨U', l2, c2, s2⟩, hW₁, X', ⟨g', mk, t, L, e1, e2, hq, h1, hL, h2, h3⟩, st⟩ | ⟨q, vm₁, ⟨U', l2, c2, s2⟩, hW₁, X', ⟨g', mk, t, L, E, ce, e1, e2, hq, hce, hcv, hcl, h1, hL, h2, h3⟩, st⟩
  · dsimp only [Pt.U, Pt.locs, Pt.cells, Pt.slots] at X' e1 e2 h1 h2 h3 st
    subst h1; subst h2; subst h3
    exact Or.inl ⟨v, (T.setVm vm₁).calling g' mk (Value.ref b :: As).toArray, t, U', L, hT, X', hL, e1, e2, hq, st⟩
  · dsimp only [Pt.U, Pt.locs, Pt.cells, Pt.slots] at X' e1 e2 h1 h2 h3 st hcl
    subst h1; subst h2; subst h3
    exact Or.inr ⟨q, (T.setVm vm₁).calling g' mk (Value.ref b :: As).toArray, t, U', L, E, ce, hT, X', hL, e1, e2, hq, hce, hcv, vx_cls hW₁ hcl, st⟩
theorem vx_runSX {hh : List (Nat × Nat × Nat × Nat)} (S : CallFix p m c cc nL s args Ts own) (hM : vx_Met l y ws rm Pc Qc XC mc ms free) (cw : vx_CSW R s args own index y bytes maxL ret hh ws rm mc ms n) (hp : PreS s H Pc As)
    (hg : g.method = m) (hn : As.length = n) (hsize : g.locals.size = nL) (hstack : g.stack = As.reverse ++ rest) (hW : 2 * g.monitorRoom + (rest.map fun v => v.category).sum ≤ 8) (hdg : decode cc g.pc = .ok (.invokestatic index, 3)) (hf : cells + mc ≤ R.cells ∧ slots + ms ≤ R.slots) :
    vx_Run p l e R s m args below meth c H locs cells slots mc ms g rest (Qc As.toArray) XC free := by
  obtain ⟨⟨hrc, hrs, hfr, hlo, hws, hcw⟩, hcode, hini, hy, hlen, hl, hstt⟩ := cw
  have hK : vx_Back l R p e below s args y 3 8 (PreOf R mc ms Pc) (PostOf Qc mc ms free) (vx_Post XC mc ms free) := vx_backW (hh := hh) (bytes := bytes) (maxL := maxL) (ret := ret) hM hp.1 hrc hrs hfr hlo hws hcw (fun a' U hW => word_at hW (Or.inl (by first | rfl | simp [Cond.onTables, Cond.keeps, Cond.steady])) hini)
  obtain ⟨hx, hb, hml, ho, -⟩ := S
  intro T hT X
  rcases vx_callSX X hx (hh := hh) (bytes := bytes) (maxL := maxL) (ret := ret) ho hl hstt hini hcode hy hK hg (hsize.trans hml.symm) (argsL := As) (rest := rest) (fun sig h => hn.trans (hlen sig h)) hstack hW (by rw [hb]; exact hdg)
    (fun vm₁ hW₁ => ⟨hf.1, hf.2, hp.2 (T.setVm vm₁) hT hW₁⟩) with ⟨v, vm₁, ⟨U', l2, c2, s2⟩, hW₁, X', ⟨g', mk, t, L, e1, e2, hq, h1, hL, h2, h3⟩, st⟩ | ⟨q, vm₁, ⟨U', l2, c2, s2⟩, hW₁, X', ⟨g', mk, t, L, E, ce, e1, e2, hq, hce, hcv, hcl, h1, hL, h2, h3⟩, st⟩
  · dsimp only [Pt.U, Pt.locs, Pt.cells, Pt.slots] at X' e1 e2 h1 h2 h3 st
    subst h1; subst h2; subst h3
    exact Or.inl ⟨v, (T.setVm vm₁).calling g' mk As.toArray, t, U', L, hT, X', hL, e1, e2, hq, st⟩
  · dsimp only [Pt.U, Pt.locs, Pt.cells, Pt.slots] at X' e1 e2 h1 h2 h3 st hcl
    subst h1; subst h2; subst h3
    exact Or.inr ⟨q, (T.setVm vm₁).calling g' mk As.toArray, t, U', L, E, ce, hT, X', hL, e1, e2, hq, hce, hcv, vx_cls hW₁ hcl, st⟩
end
end VXH
theorem vx_ofWH {l : Launch} {y : MethodName} {ws ws' : List Cond} {rm : Room} {Pc : Array Value → State → Prop} {Qc : Array Value → State → Outcome → State → Prop} {XC : String → State → State → Prop} {mc ms : Nat} {free : Addr → Prop} {cc : ByteArray} {maxL : Nat} {ret : Option FieldType} {hh : List (Nat × Nat × Nat × Nat)}
    (hy : plainName y.cls = true) (hw : ws = Cond.codeWith y cc maxL ret hh :: ws')
    (body : ∀ p e s m args below meth c s₁, BodyLoose p l y (headSpec ws rm) cc maxL ret e s m args below meth c s₁ → c.maxLocals = maxL → Pc args s →
      W p l e (headSpec ws rm).room s m args below meth c s.heap [] 0 0 (vx_MQ below Qc XC args s mc ms free) (entryFrame m args maxL)) : vx_Met l y ws rm Pc Qc XC mc ms free := by
  refine MetFree.of_bodyS (code := cc) (maxLocals := maxL) (ret := ret) hy ?_ ?_
  · intro args s m h hn
    obtain ⟨m9, meth, c, hn9, h1, h2, h3, h4, -, h5, h6, -⟩ := Cond.codeWith_spec (atoms_spec (ws := ws) h _ (by rw [hw]; exact List.mem_cons_self))
    cases hn.symm.trans hn9
    exact ⟨meth, c, h1, h2, h3, h4, h5, h6⟩
  · intro p e s m args below meth c s₁ B hml hP _
    have hh0 : s₁.heap = s.heap := by rw [B.state]; rfl
    obtain ⟨t, a1, o, b1, b2, b3⟩ := body p e s m args below meth c s₁ B hml hP s₁ hh0 (Stand.of_body B)
    exact ⟨t, o, a1, b1, b2, b3⟩
/-! ===== END ===== -/

/-! ===== BEGIN what the machine throws by itself, no traces kept ===== -/
section VXM
set_option maxHeartbeats 1000000 in
/-- the machine throws cls with the message text, no traces kept: from its note over the frame g to 'throwing' over the same frame (follows the proofs of Stand.vmThrowsMessage, Shelf/KitTracedVmS.lean, and Stand.throwsMessageColdBareV, StandMessageColdV.lean, without the step out of the frame) -/
theorem vx_vmAt {p : Program} {l : Launch} {e : Env} {R : Room} {s : State} {m₀ : MethodId} {args : Array Value} {below : List Frame} {meth : Method} {c : Code} {W : State} {locs : List Loc} {cells slots : Nat}
    (X : Stand p l e R s m₀ args below meth c W locs cells slots) (hexec : p.tables.exec = Jvm.exec) (htr : e.platform.stackTraces = false) {cls : String} {names : List String} {text : String}
    (hcls : Bundle.fit cls = true) (hnames : ∀ n ∈ names, Bundle.fit n = true) (hsoe : (cls == "java/lang/StackOverflowError") = false) (hoom : (cls == "java/lang/OutOfMemoryError") = false)
    (h : ∀ a ∈ Bundle.messageArmAtoms cls names, a.before args s = true)
    (hlocs : ∀ x ∈ locs, ∀ cell, s.heap[x.base]? = some cell → cell.vm.isStatics = false)
    (htext : (text == notModelled) = false) (hlimit : ¬ (stringBytes (stringToUtf16 text)).size > e.platform.arrayLengthLimit) (hheap : ¬ (stringBytes (stringToUtf16 text)).size * componentBytes .byte > e.platform.maxHeapBytes)
    {g : JFrame} (hg : g.method = m₀) (hsize : g.locals.size = c.maxLocals)
    (hRframes : names.length + 4 < R.frames) (hRlocals : 2 * g.monitorRoom + (g.stack.map fun v => v.category).sum + 10240 ≤ R.locals) (hshort : 13 * names.length + 55 ≤ 10240)
    (hRcells : cells + 3 ≤ R.cells) (hRslots : slots + ((stringBytes (stringToUtf16 text)).size + 4 + 6) ≤ R.slots) (hlocks : meth.locks = false) :
    ∃ (S : State) (q : Addr) (ce : Cell), (∀ target, Steps p.tables e below ((S.setTop g).pushFrame (.throwing q)) target → Steps p.tables e below ((W.setTop g).pushFrame (.throwNew cls (some text) none)) target) ∧
      Stand p l e R s m₀ args below meth c S locs (cells + 3) (slots + ((stringBytes (stringToUtf16 text)).size + 4 + 6)) ∧ S.heap[q]? = some ce ∧ s.vm.findClass cls = some ce.cls ∧ ce.vm = .none := by
  have howns : e.platform.frameOwnsMonitors = true := by rw [X.admits.platform]
  have hfin : e.platform.finalization = false := by rw [X.admits.platform]
  have hpl : e.platform.magicAccessors = ({} : Platform).magicAccessors := by rw [X.admits.platform]
  have a : ∀ x, x ∈ Bundle.messageArmAtoms cls names → x.holds args s none s [] = true := fun x hx => h x hx
  obtain ⟨T, Z0, L, -, Y⟩ := ThrowableC.of_atoms (args := args) howns hfin hpl (fun x hx => h x (by simp [Bundle.messageArmAtoms, hx]))
  obtain ⟨Z, M, LZ, LM, hnZ⟩ := Init0T.ofS_atoms (args := args) hpl L Y (fun x hx => h x (by simp [Bundle.messageArmAtoms, hx]))
  obtain ⟨P1, Ps, hlen, L1, hL, hP1m, hlink1, hlink⟩ := Bundle.chainS (args := args) hpl hnZ names cls hcls hnames (fun x hx => h x (by simp [Bundle.messageArmAtoms, hx]))
  obtain ⟨Zs, LZs, hn4, hfitv, hfitc⟩ := StringT.of_atoms (args := args) (fun x hx => h x (by simp [Bundle.messageArmAtoms, hx]))
  have hfound : s.vm.findClass cls = some P1.m.cls := findClass_of_methodNamed hP1m
  obtain ⟨c1, kX, hc1, hk, hord, -, -, hn6⟩ := Cond.instantiable_spec (a (.instantiable cls 6) (by simp [Bundle.messageArmAtoms]))
  cases Option.some.inj (hc1.symm.trans hfound)
  have hinit := Cond.initialized_spec hfound hk (a (.initialized cls) (by simp [Bundle.messageArmAtoms]))
  have hctor : kX.findMethod "<init>" "(Ljava/lang/String;)V" = some P1.m.idx := findMethod_of_methodNamed hP1m hk
  have hsel0 : selectMethod e.platform s.vm P1.m.cls T.fill0 = .method T.fill0 := by
    obtain ⟨c2, r2, m2, q1, q2, q3, q4, -⟩ := Cond.selects_spec (a (.selects cls Bundle.tFill0 Bundle.tFill0) (by simp [Bundle.messageArmAtoms]))
    cases Option.some.inj (q1.symm.trans hfound)
    cases Option.some.inj (q2.symm.trans (State.methodFound?_of_named Y.fill0 (by decide)))
    cases Option.some.inj (q3.symm.trans Y.fill0)
    rw [Launch.admits_selectMethod X.admits]; exact q4
  have hselF : selectMethod e.platform s.vm P1.m.cls T.fill = .method T.fill := by
    obtain ⟨c2, r2, m2, q1, q2, q3, q4, -⟩ := Cond.selects_spec (a (.selects cls Bundle.tFill Bundle.tFill) (by simp [Bundle.messageArmAtoms]))
    cases Option.some.inj (q1.symm.trans hfound)
    cases Option.some.inj (q2.symm.trans (State.methodFound?_of_named Y.fill (by decide)))
    cases Option.some.inj (q3.symm.trans Y.fill)
    rw [Launch.admits_selectMethod X.admits]; exact q4
  obtain ⟨cellS0, hcS0, hiss⟩ := Y.statics
  obtain ⟨u0, hu0⟩ := Cond.staticRefV Y.unassigned L.unassignedStatic L.statics hcS0 hiss (a (.isRef (.static Bundle.tN "UNASSIGNED_STACK" Bundle.steD)) (by simp [Bundle.messageArmAtoms]))
  obtain ⟨sen, hsen⟩ := Cond.staticRefV Y.sentinel L.sentinelStatic L.statics hcS0 hiss (a (.isRef (.static Bundle.tN "SUPPRESSED_SENTINEL" Bundle.listD)) (by simp [Bundle.messageArmAtoms]))
  obtain ⟨ci198, i198, fB, hk198, hg198, ha198, hsB, -, hnB, htB, hffB⟩ := Cond.ownField (t := .object "java/lang/Object") Y.found L.cls (by decide +kernel) (a (.fieldLink Bundle.tN 198 Bundle.tN "backtrace" "Ljava/lang/Object;") (by simp [Bundle.messageArmAtoms])) (a (.lays Bundle.tN Bundle.tN "backtrace" "Ljava/lang/Object;") (by simp [Bundle.messageArmAtoms])) e.platform hpl
  obtain ⟨cellS, hcS', heS, -, hkeep⟩ := X.same.2.2.2.2.2 T.aS cellS0 hcS0
  have hcellS : W.heap[T.aS]? = some cellS := hcS'
  have hout' : ∀ i, (⟨T.aS, i⟩ : Loc) ∉ locs := fun i hmem => by
    have := hlocs _ hmem cellS0 hcS0
    rw [hiss] at this; cases this
  have hknownS : cellS.vm ≠ .unknown := by
    rw [heS]; intro hu
    rw [show cellS0.vm = .unknown from hu] at hiss
    cases hiss
  have hvU : cellS.slots[T.fUnassigned.slot]? = some u0.v := by rw [hkeep _ (hout' _)]; exact hu0
  have hvSen : cellS.slots[T.fSentinel.slot]? = some sen.v := by rw [hkeep _ (hout' _)]; exact hsen
  obtain ⟨iM, hffM⟩ := Y.msg
  obtain ⟨tyC, dC, hdC, hdnC⟩ := Cond.laysAt hfound hk Y.cause (a (.lays cls Bundle.tN "cause" "Ljava/lang/Throwable;") (by simp [Bundle.messageArmAtoms]))
  obtain ⟨tyS, dS, hdS, hdnS⟩ := Cond.laysAt hfound hk Y.stack (a (.lays cls Bundle.tN "stackTrace" Bundle.steD) (by simp [Bundle.messageArmAtoms]))
  obtain ⟨tyP, dP, hdP, hdnP⟩ := Cond.laysAt hfound hk Y.supp (a (.lays cls Bundle.tN "suppressedExceptions" Bundle.listD) (by simp [Bundle.messageArmAtoms]))
  obtain ⟨tyM, dM, hdM, hdnM⟩ := Cond.laysAt hfound hk hffM (a (.lays cls Bundle.tN "detailMessage" "Ljava/lang/String;") (by simp [Bundle.messageArmAtoms]))
  obtain ⟨tyB, dB, hdB, hdnB⟩ := Cond.laysAt hfound hk hffB (a (.lays cls Bundle.tN "backtrace" "Ljava/lang/Object;") (by simp [Bundle.messageArmAtoms]))
  have bC := Cond.laysApart hdB hdC hdnB hdnC (by rw [hnB, Y.causeName]; decide)
  have bS := Cond.laysApart hdB hdS hdnB hdnS (by rw [hnB, Y.stackName]; decide)
  have bP := Cond.laysApart hdB hdP hdnB hdnP (by rw [hnB, Y.suppName]; decide)
  have hbk : ((preparedCellV T.toThrowableT (freshCell P1.m.cls kX) (W.heap.size + 2) u0 sen).withEntry W.cur).slots[fB.slot]? = some .null := by
    have := fresh_default (c := P1.m.cls) tyB
    rw [htB] at this
    simpa [preparedCellV, Cell.setSlot, Cell.withEntry, Array.getElem?_setIfInBounds, bC, bS, bP, bC.symm, bS.symm, bP.symm, defaultValue] using this
  have tkC := Takes.of_laid (v := .ref (W.heap.size + 2)) hk hord tyC (by rw [Y.causeType]; rfl)
  have tkS := Takes.of_laid (v := u0.v) hk hord tyS (by rw [Y.stackType]; exact fits_refV_array _ u0)
  have tkP := Takes.of_laid (v := sen.v) hk hord tyP (by rw [Y.suppType]; exact fits_refV_object _ sen)
  have tkM := Takes.of_laid (v := .ref (W.heap.size + 1)) hk hord tyM (by rw [Y.msgType]; rfl)
  have hskip : SkipFacts T e.platform s (fun u => u) u0 ((preparedCellV T.toThrowableT (freshCell P1.m.cls kX) (W.heap.size + 2) u0 sen).withEntry W.cur) := ⟨{ ci198 := ci198, i198 := i198, fBack := fB }, ⟨hk198, hg198, ha198, hsB⟩, hbk, fun _ _ => rfl⟩
  have h0 : At W g.method c below := by rw [hg]; exact X.here
  obtain ⟨hbeyond, hfreeW⟩ := X.vmMayThrow hsize (.throwNew cls (some text) none) (fun f hf => by cases hf) rfl hRlocals
  have hfr' : W.frames.length + Ps.length + 4 < (e.platform.stackLimits W.me).1 := by have := X.framesAbove hRframes; omega
  have hwd' : (stackUse (.java g :: W.frames.tail)).2 + 13 * Ps.length + 55 ≤ (e.platform.stackLimits W.me).2 := by have := X.stackAbove hsize (K := 13 * Ps.length + 55) (by omega); omega
  have hslots : W.slotsUsed + (stringBytes (stringToUtf16 text)).size + Zs.kS.instanceTypes.size + kX.instanceTypes.size ≤ e.platform.maxSlots := by
    have := X.slotsAbove hRslots
    rw [hn4, hn6]
    omega
  obtain ⟨vm', hW', st⟩ := Steps.vmThrowsMessageColdByV p (s₀ := s) (S := W) (g := g) h0 hexec T L Z LZ M LM X.warmed (t := W.cur) rfl Zs LZs P1 L1 Ps hL hlink1 hlink hsoe hoom hfound hk hinit hord hctor
    (Launch.admits_hotImplicitExceptions X.admits) hbeyond hfreeW htext hlimit hheap (X.cellsAbove hRcells) hslots (hfitv _) (hfitc _)
    (Nn := fun u => u) heapOnly_id (fun _ _ => rfl) (fun _ => rfl) (fun u x y => setCell_twice _ _ _ _) (fun _ => Nat.le_refl _) (cN := ((preparedCellV T.toThrowableT (freshCell P1.m.cls kX) (W.heap.size + 2) u0 sen).withEntry W.cur))
    hsel0 hcellS hknownS hvU tkS (fun _ hu => hu) (fun _ hu => hu) rfl rfl rfl (by simp [preparedCellV, Cell.setSlot, Cell.withEntry]) hskip (fun _ _ hA hW _ hroom _ hrest => L.nativeOff p htr hA hW hroom hrest) hselF hvSen tkC tkP tkM Y.objLocals rfl hfr' hwd'
  rw [plainBareV_eq T.toThrowableT (W.heap.size + 2) u0 sen (.ref (W.heap.size + 1)) W.cur rfl rfl] at st
  obtain ⟨-, -, w3, w4, -, -, -⟩ := withThrown_facts e.platform W Zs text P1.m.cls kX
  have X3 := ((X.pushed (bytesOf Zs.cB (stringToUtf16 text))).pushed (stringAt Zs.cS Zs.kS Zs.fv Zs.fc (stringToUtf16 text) W.heap.size)).pushed (freshCell P1.m.cls kX)
  rw [← withString_eq] at X3
  have X4 := X3.noted hW'
  have ha : (W.heap.size + 2) < ((withThrown W Zs text P1.m.cls kX).setVm vm').heap.size := by show _ < (withThrown W Zs text P1.m.cls kX).heap.size; rw [w3]; omega
  have hcell : ((withThrown W Zs text P1.m.cls kX).setVm vm').heap[(W.heap.size + 2)]? = some (freshCell P1.m.cls kX) := w4
  have X5 := ((((X4.stored hcell T.fCause.slot (.ref (W.heap.size + 2))).storedAgain ha T.fStack.slot u0.v).storedAgain ha T.fSupp.slot sen.v).storedAgain ha T.fStack.slot u0.v).storedAgain ha T.fMsg.slot (.ref (W.heap.size + 1))
  obtain ⟨g₁, hfrM⟩ := X5.frames_eq
  have hU : ((((withThrown W Zs text P1.m.cls kX).setVm vm').setCell (W.heap.size + 2) (plainBareV T.toThrowableT (freshCell P1.m.cls kX) (W.heap.size + 2) u0 sen (.ref (W.heap.size + 1)))).setTop g).pushFrame (.throwing (W.heap.size + 2)) = (((withThrown W Zs text P1.m.cls kX).setVm vm').setCell (W.heap.size + 2) (plainBareV T.toThrowableT (freshCell P1.m.cls kX) (W.heap.size + 2) u0 sen (.ref (W.heap.size + 1)))).setFrames (.throwing (W.heap.size + 2) :: .java g :: below) := by
    rw [State.pushFrame, State.frames_setTop _ hfrM, State.setTop_of_frames _ hfrM, State.setFrames_setFrames]
  have b1 : (bytesOf Zs.cB (stringToUtf16 text)).slots.size = (stringBytes (stringToUtf16 text)).size := by
    rw [(Cell.writeAll_facts _ _).2.2]; simp [bytes0]
  have b2 : (stringAt Zs.cS Zs.kS Zs.fv Zs.fc (stringToUtf16 text) W.heap.size).slots.size = 4 := by simp [string0, Cell.setSlot, hn4]
  have b3 : (freshCell P1.m.cls kX).slots.size = 6 := by simp [hn6]
  rw [b1, b2, b3] at X5
  have e9 : slots + (stringBytes (stringToUtf16 text)).size + 4 + 6 = slots + ((stringBytes (stringToUtf16 text)).size + 4 + 6) := by omega
  rw [e9] at X5
  simp only [List.append_assoc, List.cons_append, List.nil_append] at X5
  refine ⟨((withThrown W Zs text P1.m.cls kX).setVm vm').setCell (W.heap.size + 2) (plainBareV T.toThrowableT (freshCell P1.m.cls kX) (W.heap.size + 2) u0 sen (.ref (W.heap.size + 1))), W.heap.size + 2, _, fun target ht => st _ (by rw [X.tail, ← hU]; exact ht),
    X5.forget (fun y hy => ?_), heapAt_setCell_self _ ha, hfound, rfl⟩
  simp only [List.mem_cons, List.not_mem_nil, or_false] at hy
  have hge : s.heap.size ≤ W.heap.size := X.same.2.1
  rcases hy with rfl | rfl | rfl | rfl | rfl <;> exact Nat.le_trans hge (Nat.le_add_right _ 2)
set_option maxHeartbeats 1000000 in
/-- the machine throws NullPointerException, no traces kept: from its note over the frame g to 'throwing' over the same frame (follows the proof of Stand.vmThrowsNpe, Shelf42/KT2.lean; throwsNpeColdBareVAt, Shelf42/NT91.lean, called) -/
theorem vx_npeAt {p : Program} {l : Launch} {e : Env} {R : Room} {s : State} {m₀ : MethodId} {args : Array Value} {below : List Frame} {meth : Method} {c : Code} {W : State} {locs : List Loc} {cells slots : Nat}
    (X : Stand p l e R s m₀ args below meth c W locs cells slots) (hexec : p.tables.exec = Jvm.exec) (htr : e.platform.stackTraces = false) {n : Nat}
    (h : ∀ a ∈ Bundle.npeArmAtoms n, a.before args s = true)
    (hlocs : ∀ x ∈ locs, ∀ cell, s.heap[x.base]? = some cell → cell.vm.isStatics = false)
    {g : JFrame} (hg : g.method = m₀) (hsize : g.locals.size = c.maxLocals)
    (hRframes : 7 < R.frames) (hRlocals : 2 * g.monitorRoom + (g.stack.map fun v => v.category).sum + 10240 ≤ R.locals)
    (hRcells : cells + 1 ≤ R.cells) (hRslots : slots + n ≤ R.slots) (hlocks : meth.locks = false) :
    ∃ (S : State) (q : Addr) (ce : Cell), (∀ target, Steps p.tables e below ((S.setTop g).pushFrame (.throwing q)) target → Steps p.tables e below ((W.setTop g).pushFrame (.throwNew "java/lang/NullPointerException" none none)) target) ∧
      Stand p l e R s m₀ args below meth c S locs (cells + 1) (slots + n) ∧ S.heap[q]? = some ce ∧ s.vm.findClass "java/lang/NullPointerException" = some ce.cls ∧ ce.vm = .none := by
  have howns : e.platform.frameOwnsMonitors = true := by rw [X.admits.platform]
  have hfin : e.platform.finalization = false := by rw [X.admits.platform]
  have hpl : e.platform.magicAccessors = ({} : Platform).magicAccessors := by rw [X.admits.platform]
  have hpl2 : e.platform.arrayCloneIsPublic = true := by rw [X.admits.platform]
  have a' : ∀ x, x ∈ Bundle.npeArmAtoms n → x.holds args s none s [] = true := fun x hx => h x hx
  obtain ⟨T, Z, L, LZ, Y⟩ := ThrowableC.of_atoms (args := args) howns hfin hpl (fun x hx => h x (by simp [Bundle.npeArmAtoms, hx]))
  obtain ⟨N, LN, hcN, hnNF, hordN, hffS⟩ := NpeC.of_atoms (args := args) hpl hpl2 L Y (fun x hx => h x (by simp [Bundle.npeArmAtoms, hx]))
  obtain ⟨P1, L1, hP1m, hP1s⟩ := PassC.of_atoms (args := args) (s := s) hpl (X := Bundle.nN) (Y := Bundle.rN) (by decide) (by decide) LibCode.NullPointerException.Init0.at_0 LibCode.NullPointerException.Init0.at_1 LibCode.NullPointerException.Init0.at_4 (fun x hx => h x (by simp [Bundle.npeArmAtoms, hx]))
  obtain ⟨PR, LR, hPRm, hPRs⟩ := PassC.of_atoms (args := args) (s := s) hpl (X := Bundle.rN) (Y := Bundle.eN) (by decide) (by decide) LibCode.RuntimeException.Init0.at_0 LibCode.RuntimeException.Init0.at_1 LibCode.RuntimeException.Init0.at_4 (fun x hx => h x (by simp [Bundle.npeArmAtoms, hx]))
  obtain ⟨PE, LEx, hPEm, hPEs⟩ := PassC.of_atoms (args := args) (s := s) hpl (X := Bundle.eN) (Y := Bundle.tN) (by decide) (by decide) LibCode.Exception.Init0.at_0 LibCode.Exception.Init0.at_1 LibCode.Exception.Init0.at_4 (fun x hx => h x (by simp [Bundle.npeArmAtoms, hx]))
  have hfound : s.vm.findClass Bundle.nN = some P1.m.cls := findClass_of_methodNamed hP1m
  have ecls : N.cN = P1.m.cls := Option.some.inj (hcN.symm.trans hfound)
  have hk : s.vm.classes[P1.m.cls]? = some N.kN := by rw [← ecls]; exact LN.cls
  have hinit := Cond.initialized_spec hfound hk (a' (.initialized Bundle.nN) (by simp [Bundle.npeArmAtoms]))
  have hctor : N.kN.findMethod "<init>" "()V" = some P1.m.idx := findMethod_of_methodNamed hP1m hk
  obtain ⟨c1, k1, hc1, hk1, -, -, -, hn⟩ := Cond.instantiable_spec (a' (.instantiable Bundle.nN n) (by simp [Bundle.npeArmAtoms]))
  cases Option.some.inj (hc1.symm.trans hfound)
  cases Option.some.inj (hk1.symm.trans hk)
  have hfsz : (freshCell P1.m.cls N.kN).slots.size = n := by simp [hn]
  have hlink1 : P1.sup = PR.m := Option.some.inj (hP1s.symm.trans hPRm)
  have hlinkR : PR.sup = PE.m := Option.some.inj (hPRs.symm.trans hPEm)
  have hlinkE : PE.sup = Z.m T.toThrowableT := Option.some.inj (hPEs.symm.trans Y.init0)
  have hLs : ∀ P, P ∈ [PR, PE] → P.Links0 e.platform s := fun P hP => by
    simp only [List.mem_cons, List.not_mem_nil, or_false] at hP
    rcases hP with rfl | rfl
    · exact LR
    · exact LEx
  have hsel0 : selectMethod e.platform s.vm P1.m.cls T.fill0 = .method T.fill0 := by
    obtain ⟨c2, r2, m2, q1, q2, q3, q4, -⟩ := Cond.selects_spec (a' (.selects Bundle.nN Bundle.tFill0 Bundle.tFill0) (by simp [Bundle.npeArmAtoms]))
    cases Option.some.inj (q1.symm.trans hfound)
    cases Option.some.inj (q2.symm.trans (State.methodFound?_of_named Y.fill0 (by decide)))
    cases Option.some.inj (q3.symm.trans Y.fill0)
    rw [Launch.admits_selectMethod X.admits]; exact q4
  have hselF : selectMethod e.platform s.vm P1.m.cls T.fill = .method N.fill := by
    obtain ⟨c2, r2, m2, q1, q2, q3, q4, -⟩ := Cond.selects_spec (a' (.selects Bundle.nN Bundle.tFill Bundle.nFill) (by simp [Bundle.npeArmAtoms]))
    cases Option.some.inj (q1.symm.trans hfound)
    cases Option.some.inj (q2.symm.trans (State.methodFound?_of_named Y.fill (by decide)))
    cases Option.some.inj (q3.symm.trans hnNF)
    rw [Launch.admits_selectMethod X.admits]; exact q4
  obtain ⟨cellS0, hcS0, hiss⟩ := Y.statics
  obtain ⟨u0, hu0⟩ := Cond.staticRefV Y.unassigned L.unassignedStatic L.statics hcS0 hiss (a' (.isRef (.static Bundle.tN "UNASSIGNED_STACK" Bundle.steD)) (by simp [Bundle.npeArmAtoms]))
  obtain ⟨sen, hsen⟩ := Cond.staticRefV Y.sentinel L.sentinelStatic L.statics hcS0 hiss (a' (.isRef (.static Bundle.tN "SUPPRESSED_SENTINEL" Bundle.listD)) (by simp [Bundle.npeArmAtoms]))
  obtain ⟨ci198, i198, fB, hk198, hg198, ha198, hsB, -, hnB, htB, hffB⟩ := Cond.ownField (t := .object "java/lang/Object") Y.found L.cls (by decide +kernel) (a' (.fieldLink Bundle.tN 198 Bundle.tN "backtrace" Bundle.objD) (by simp [Bundle.npeArmAtoms])) (a' (.lays Bundle.tN Bundle.tN "backtrace" Bundle.objD) (by simp [Bundle.npeArmAtoms])) e.platform hpl
  obtain ⟨cellS, hcS', heS, -, hkeep⟩ := X.same.2.2.2.2.2 T.aS cellS0 hcS0
  have hcellS : W.heap[T.aS]? = some cellS := hcS'
  have hout' : ∀ i, (⟨T.aS, i⟩ : Loc) ∉ locs := fun i hmem => by
    have := hlocs _ hmem cellS0 hcS0
    rw [hiss] at this; cases this
  have hknownS : cellS.vm ≠ .unknown := by
    rw [heS]; intro hu
    rw [show cellS0.vm = .unknown from hu] at hiss
    cases hiss
  have hvU : cellS.slots[T.fUnassigned.slot]? = some u0.v := by rw [hkeep _ (hout' _)]; exact hu0
  have hvSen : cellS.slots[T.fSentinel.slot]? = some sen.v := by rw [hkeep _ (hout' _)]; exact hsen
  obtain ⟨tyC, dC, hdC, hdnC⟩ := Cond.laysAt hfound hk Y.cause (a' (.lays Bundle.nN Bundle.tN "cause" "Ljava/lang/Throwable;") (by simp [Bundle.npeArmAtoms]))
  obtain ⟨tyS, dS, hdS, hdnS⟩ := Cond.laysAt hfound hk Y.stack (a' (.lays Bundle.nN Bundle.tN "stackTrace" Bundle.steD) (by simp [Bundle.npeArmAtoms]))
  obtain ⟨tyP, dP, hdP, hdnP⟩ := Cond.laysAt hfound hk Y.supp (a' (.lays Bundle.nN Bundle.tN "suppressedExceptions" Bundle.listD) (by simp [Bundle.npeArmAtoms]))
  obtain ⟨tyX, dX, hdX, hdnX⟩ := Cond.laysAt hfound hk hffS (a' (.lays Bundle.nN Bundle.nN "extendedMessageState" "I") (by simp [Bundle.npeArmAtoms, Bundle.npeAtoms]))
  obtain ⟨hnX, htX⟩ := State.fieldFound?_type hffS (t := .int) (by decide +kernel)
  have xC := Cond.laysApart hdC hdX hdnC hdnX (by rw [hnX, Y.causeName]; decide)
  have xS := Cond.laysApart hdS hdX hdnS hdnX (by rw [hnX, Y.stackName]; decide)
  have xP := Cond.laysApart hdP hdX hdnP hdnX (by rw [hnX, Y.suppName]; decide)
  have hv0 : (freshCell P1.m.cls N.kN).slots[N.fState.slot]? = some (.int 0) := by
    have := fresh_default (c := P1.m.cls) tyX
    rw [htX] at this; exact this
  obtain ⟨tyB, dB, hdB, hdnB⟩ := Cond.laysAt hfound hk hffB (a' (.lays Bundle.nN Bundle.tN "backtrace" Bundle.objD) (by simp [Bundle.npeArmAtoms]))
  have bC := Cond.laysApart hdB hdC hdnB hdnC (by rw [hnB, Y.causeName]; decide)
  have bS := Cond.laysApart hdB hdS hdnB hdnS (by rw [hnB, Y.stackName]; decide)
  have bP := Cond.laysApart hdB hdP hdnB hdnP (by rw [hnB, Y.suppName]; decide)
  have bX := Cond.laysApart hdB hdX hdnB hdnX (by rw [hnB, hnX]; decide)
  have hbk : ((npeCell N.toNpeT (preparedCellV T.toThrowableT (freshCell P1.m.cls N.kN) W.heap.size u0 sen) W.cur).withEntry W.cur).slots[fB.slot]? = some .null := by
    have := fresh_default (c := P1.m.cls) tyB
    rw [htB] at this
    simpa [npeCell, preparedCellV, Cell.setSlot, Cell.withEntry, Array.getElem?_setIfInBounds, bC, bS, bP, bX, bC.symm, bS.symm, bP.symm, bX.symm, defaultValue] using this
  have tkC := Takes.of_laid (v := .ref W.heap.size) hk hordN tyC (by rw [Y.causeType]; rfl)
  have tkS := Takes.of_laid (v := u0.v) hk hordN tyS (by rw [Y.stackType]; exact fits_refV_array _ u0)
  have tkP := Takes.of_laid (v := sen.v) hk hordN tyP (by rw [Y.suppType]; exact fits_refV_object _ sen)
  have tkX := Takes.of_laid (v := .int 1) hk hordN tyX (by rw [htX]; rfl)
  have hskip : SkipFacts T e.platform s (fun u => u) u0 ((npeCell N.toNpeT (preparedCellV T.toThrowableT (freshCell P1.m.cls N.kN) W.heap.size u0 sen) W.cur).withEntry W.cur) := ⟨{ ci198 := ci198, i198 := i198, fBack := fB }, ⟨hk198, hg198, ha198, hsB⟩, hbk, fun _ _ => rfl⟩
  obtain ⟨vm', X3, st, -⟩ := X.throwsNpeColdBareVAt hexec hg hsize T L Z LZ N LN P1 L1 [PR, PE] hLs hlink1 ⟨hlinkR, hlinkE, trivial⟩ hfound hk hinit hordN hctor hsel0 hselF hcellS hknownS hvU hvSen
    hv0 xC xS xP tkC tkS tkP tkX Y.objLocals hskip (fun _ _ hA hW _ hroom _ hrest => L.nativeOff p htr hA hW hroom hrest) (by simpa using hRframes) hRlocals (by simp) hRcells (by rw [hn]; exact hRslots)
  have hlt : W.heap.size < ((W.pushCell (freshCell P1.m.cls N.kN)).setVm vm').heap.size := by
    show W.heap.size < (W.pushCell (freshCell P1.m.cls N.kN)).heap.size
    rw [State.heap_size_pushCell]; omega
  rw [hfsz] at X3
  obtain ⟨g₁, hfrM⟩ := X3.frames_eq
  have hU : ((((W.pushCell (freshCell P1.m.cls N.kN)).setVm vm').setCell W.heap.size (npeBareV T.toThrowableT N.toNpeT (freshCell P1.m.cls N.kN) W.heap.size u0 sen)).setTop g).pushFrame (.throwing W.heap.size) = (((W.pushCell (freshCell P1.m.cls N.kN)).setVm vm').setCell W.heap.size (npeBareV T.toThrowableT N.toNpeT (freshCell P1.m.cls N.kN) W.heap.size u0 sen)).setFrames (.throwing W.heap.size :: .java g :: below) := by
    rw [State.pushFrame, State.frames_setTop _ hfrM, State.setTop_of_frames _ hfrM, State.setFrames_setFrames]
  refine ⟨_, W.heap.size, _, fun target ht => st.trans (by rw [← hU]; exact ht), X3.forget (fun y hy => ?_), heapAt_setCell_self _ hlt, hfound, rfl⟩
  simp only [List.mem_cons, List.not_mem_nil, or_false] at hy
  have hge : s.heap.size ≤ W.heap.size := X.same.2.1
  rcases hy with rfl | rfl | rfl | rfl | rfl <;> exact hge
/-- the words of a machine's NullPointerException, but the four that speak of the heap -/
def vx_atN (n : Nat) : List Cond := (Bundle.npeArmAtoms n).filter vx_no
/-- the words of a machine's throw with a message, but the four that speak of the heap -/
def vx_atM (X : String) (names : List String) : List Cond := (Bundle.messageArmAtoms X names).filter vx_no
section
variable {p : Program} {l : Launch} {e : Env} {R : Room} {s : State} {m : MethodId} {args : Array Value} {below : List Frame} {meth : Method} {c : Code} {H : Heap} {locs : List Loc} {cells slots : Nat}
/-- a frame seen from a rebased start, seen from the first start again -/
theorem vx_back9 {T S : State} {R' : Room} {k n : Nat} (X : Stand p l e R s m args below meth c T locs cells slots) (Y : Stand p l e R' ((T.setVm s.vm).setFrames (.invoking m args :: below)) m args below meth c T [] 0 0) (Z : Stand p l e R' ((T.setVm s.vm).setFrames (.invoking m args :: below)) m args below meth c S [] k n) :
    Stand p l e R s m args below meth c S locs (cells + k) (slots + n) := by
  have hW0 : s.WarmedH ((T.setVm s.vm).setFrames (.invoking m args :: below)).vm := State.WarmedH.refl s
  refine { admits := X.admits, cas := X.cas, clock := X.clock, frames := X.frames, room := X.room, hears := X.hears, method := X.method, code := X.code, here := Z.here, tail := Z.tail, warmed := State.WarmedH.trans hW0 Z.warmed, limits := Z.limits.trans (Y.limits.symm.trans X.limits), bytes := Z.bytes.trans (Y.bytes.symm.trans X.bytes), same := ?_ }
  obtain ⟨e1, e2⟩ := Z.same
  rw [State.setFrames_setFrames] at e1
  have h2 : (T.setVm s.vm).sameButNew (S.setVm s.vm) [] k n := ⟨e1, e2⟩
  have h3 := X.same.trans h2
  rw [List.append_nil] at h3
  exact h3
/-- from the machine's note that E is thrown here with this text -/
def vx_Note (p : Program) (l : Launch) (e : Env) (R : Room) (s : State) (m : MethodId) (args : Array Value) (below : List Frame) (meth : Method) (c : Code) (H : Heap) (locs : List Loc) (cells slots : Nat) (Q : State → Prop) (g : JFrame) (E text : String) : Prop :=
  ∀ T : State, T.heap = H → Stand p l e R s m args below meth c T locs cells slots → ∃ t, Steps p.tables e below ((T.setTop g).pushFrame (.throwNew E (some text) none)) t ∧ Q t
theorem vx_vm {pc : Nat} {ls : Array Slot} {rest : List Value} {Q : State → Prop} (hexec : p.tables.exec = Jvm.exec) (hl : l.stackTraces = false) {cls text : String} {names : List String} {nb : Nat} {A : Nat → Prop}
    (hcls : Bundle.fit cls = true) (hnames : ∀ n ∈ names, Bundle.fit n = true) (hsoe : (cls == "java/lang/StackOverflowError") = false) (hoom : (cls == "java/lang/OutOfMemoryError") = false)
    (hat : ∀ w ∈ vx_atM cls names, w.before args s = true) (hgood : ∀ w ∈ vx_atM cls names, vx_ot w = true)
    (hU : vx_Zq Bundle.tN "UNASSIGNED_STACK" Bundle.steD A s s.heap) (hN : vx_Zq Bundle.tN "SUPPRESSED_SENTINEL" Bundle.listD A s s.heap) (hS : va_S A s.heap H locs) (hsize : ls.size = c.maxLocals)
    (htext : (text == notModelled) = false) (hnb : (stringBytes (stringToUtf16 text)).size ≤ nb) (hnb1 : nb ≤ 1000)
    (hRframes : names.length + 4 < R.frames) (hRlocals : (rest.map fun v => v.category).sum + 10240 ≤ R.locals) (hshort : 13 * names.length + 55 ≤ 10240) (hRcells : cells + 3 ≤ R.cells) (hRslots : slots + (nb + 10) ≤ R.slots) (hlocks : meth.locks = false)
    (k : ∀ (H1 : Heap) (q9 : Addr) (ce : Cell), H.size ≤ H1.size → (∀ q : Nat, q < H.size → H1[q]? = H[q]?) → va_S A s.heap H1 locs → H1[q9]? = some ce → ce.vm = .none → s.vm.findClass cls = some ce.cls → vx_W p l e R s m args below meth c H1 locs (cells + 3) (slots + (nb + 10)) Q (F0 m pc ls rest) q9) :
    vx_Note p l e R s m args below meth c H locs cells slots Q (F0 m pc ls rest) cls text := by
  intro T hT X
  have htr : e.platform.stackTraces = false := (show e.platform.stackTraces = l.stackTraces by rw [X.admits.platform]).trans hl
  have Y := vx_rebase X (R' := { frames := R.frames, locals := R.locals, cells := 3, slots := nb + 10 }) (Nat.le_refl _) (Nat.le_refl _) hRcells hRslots
  have hhp : ((T.setVm s.vm).setFrames (.invoking m args :: below)).heap = H := hT
  have hW0 : s.WarmedH ((T.setVm s.vm).setFrames (.invoking m args :: below)).vm := State.WarmedH.refl s
  have hat' : ∀ w ∈ vx_atM cls names, w.before args ((T.setVm s.vm).setFrames (.invoking m args :: below)) = true := fun w hw => vx_ot_at hW0 rfl (hgood w hw) (hat w hw)
  have hU' : vx_Zq Bundle.tN "UNASSIGNED_STACK" Bundle.steD A ((T.setVm s.vm).setFrames (.invoking m args :: below)) ((T.setVm s.vm).setFrames (.invoking m args :: below)).heap := by rw [hhp]; exact vx_Zq.moved hW0.alike (hU.kept hS.2.1)
  have hN' : vx_Zq Bundle.tN "SUPPRESSED_SENTINEL" Bundle.listD A ((T.setVm s.vm).setFrames (.invoking m args :: below)) ((T.setVm s.vm).setFrames (.invoking m args :: below)).heap := by rw [hhp]; exact vx_Zq.moved hW0.alike (hN.kept hS.2.1)
  obtain ⟨S, q, ce, st, Z, hce, hcl', hv⟩ := vx_vmAt Y hexec htr (cls := cls) (names := names) (text := text) hcls hnames hsoe hoom (vx_own hat' (vx_isRefq hU'.1) (vx_isRefq hN'.1) hU'.2.word hN'.2.word) (fun x hx => nomatch hx) htext
    (by rw [Launch.admits_arrayLengthLimit X.admits]; omega) (by rw [Launch.admits_maxHeapBytes X.admits]; simp only [componentBytes]; omega)
    (g := F0 m pc ls rest) rfl hsize hRframes (by show 2 * 0 + (rest.map fun v => v.category).sum + 10240 ≤ R.locals; omega) hshort (by show 0 + 3 ≤ 3; omega) (by show 0 + (_ + 4 + 6) ≤ nb + 10; omega) hlocks
  obtain ⟨f1, f2⟩ := vx_frame Z.same
  have f1' : H.size ≤ S.heap.size := by rw [← hT]; exact f1
  have f2' : ∀ q : Nat, q < H.size → S.heap[q]? = H[q]? := fun q hq => by
    rw [← hT]
    exact f2 q (by rw [← hT] at hq; exact hq) (fun z hz => nomatch hz)
  have X5 := vx_back9 X Y Z
  have X6 : Stand p l e R s m args below meth c S locs (cells + 3) (slots + (nb + 10)) := { X5 with same := X5.same.mono (by omega) (by omega) }
  obtain ⟨t, a1, b1⟩ := k S.heap q ce f1' f2' ⟨Nat.le_trans hS.1 f1', fun q h1 h2 => (f2' q (Nat.lt_of_lt_of_le h1 hS.1)).trans (hS.2.1 q h1 h2), hS.2.2⟩ hce hv hcl' S rfl X6
  exact ⟨t, st t a1, b1⟩
/-- from the machine's note that NullPointerException is thrown here -/
def vx_NoteN (p : Program) (l : Launch) (e : Env) (R : Room) (s : State) (m : MethodId) (args : Array Value) (below : List Frame) (meth : Method) (c : Code) (H : Heap) (locs : List Loc) (cells slots : Nat) (Q : State → Prop) (g : JFrame) : Prop :=
  ∀ T : State, T.heap = H → Stand p l e R s m args below meth c T locs cells slots → ∃ t, Steps p.tables e below ((T.setTop g).pushFrame (.throwNew "java/lang/NullPointerException" none none)) t ∧ Q t
theorem vx_npe {pc : Nat} {ls : Array Slot} {rest : List Value} {Q : State → Prop} (hexec : p.tables.exec = Jvm.exec) (hl : l.stackTraces = false) {nb : Nat} {A : Nat → Prop}
    (hat : ∀ w ∈ vx_atN nb, w.before args s = true) (hgood : ∀ w ∈ vx_atN nb, vx_ot w = true)
    (hU : vx_Zq Bundle.tN "UNASSIGNED_STACK" Bundle.steD A s s.heap) (hN : vx_Zq Bundle.tN "SUPPRESSED_SENTINEL" Bundle.listD A s s.heap) (hS : va_S A s.heap H locs) (hsize : ls.size = c.maxLocals)
    (hRframes : 7 < R.frames) (hRlocals : (rest.map fun v => v.category).sum + 10240 ≤ R.locals) (hRcells : cells + 1 ≤ R.cells) (hRslots : slots + nb ≤ R.slots) (hlocks : meth.locks = false)
    (k : ∀ (H1 : Heap) (q9 : Addr) (ce : Cell), H.size ≤ H1.size → (∀ q : Nat, q < H.size → H1[q]? = H[q]?) → va_S A s.heap H1 locs → H1[q9]? = some ce → ce.vm = .none → s.vm.findClass "java/lang/NullPointerException" = some ce.cls → vx_W p l e R s m args below meth c H1 locs (cells + 1) (slots + nb) Q (F0 m pc ls rest) q9) :
    vx_NoteN p l e R s m args below meth c H locs cells slots Q (F0 m pc ls rest) := by
  intro T hT X
  have htr : e.platform.stackTraces = false := (show e.platform.stackTraces = l.stackTraces by rw [X.admits.platform]).trans hl
  have Y := vx_rebase X (R' := { frames := R.frames, locals := R.locals, cells := 1, slots := nb }) (Nat.le_refl _) (Nat.le_refl _) hRcells hRslots
  have hhp : ((T.setVm s.vm).setFrames (.invoking m args :: below)).heap = H := hT
  have hW0 : s.WarmedH ((T.setVm s.vm).setFrames (.invoking m args :: below)).vm := State.WarmedH.refl s
  have hat' : ∀ w ∈ vx_atN nb, w.before args ((T.setVm s.vm).setFrames (.invoking m args :: below)) = true := fun w hw => vx_ot_at hW0 rfl (hgood w hw) (hat w hw)
  have hU' : vx_Zq Bundle.tN "UNASSIGNED_STACK" Bundle.steD A ((T.setVm s.vm).setFrames (.invoking m args :: below)) ((T.setVm s.vm).setFrames (.invoking m args :: below)).heap := by rw [hhp]; exact vx_Zq.moved hW0.alike (hU.kept hS.2.1)
  have hN' : vx_Zq Bundle.tN "SUPPRESSED_SENTINEL" Bundle.listD A ((T.setVm s.vm).setFrames (.invoking m args :: below)) ((T.setVm s.vm).setFrames (.invoking m args :: below)).heap := by rw [hhp]; exact vx_Zq.moved hW0.alike (hN.kept hS.2.1)
  obtain ⟨S, q, ce, st, Z, hce, hcl', hv⟩ := vx_npeAt Y hexec htr (n := nb) (vx_own hat' (vx_isRefq hU'.1) (vx_isRefq hN'.1) hU'.2.word hN'.2.word) (fun x hx => nomatch hx)
    (g := F0 m pc ls rest) rfl hsize hRframes (by show 2 * 0 + (rest.map fun v => v.category).sum + 10240 ≤ R.locals; omega) (by show 0 + 1 ≤ 1; omega) (by show 0 + nb ≤ nb; omega) hlocks
  obtain ⟨f1, f2⟩ := vx_frame Z.same
  have f1' : H.size ≤ S.heap.size := by rw [← hT]; exact f1
  have f2' : ∀ q : Nat, q < H.size → S.heap[q]? = H[q]? := fun q hq => by
    rw [← hT]
    exact f2 q (by rw [← hT] at hq; exact hq) (fun z hz => nomatch hz)
  have X5 := vx_back9 X Y Z
  have X6 : Stand p l e R s m args below meth c S locs (cells + 1) (slots + nb) := { X5 with same := X5.same.mono (by omega) (by omega) }
  obtain ⟨t, a1, b1⟩ := k S.heap q ce f1' f2' ⟨Nat.le_trans hS.1 f1', fun q h1 h2 => (f2' q (Nat.lt_of_lt_of_le h1 hS.1)).trans (hS.2.1 q h1 h2), hS.2.2⟩ hce hv hcl' S rfl X6
  exact ⟨t, st t a1, b1⟩
variable {Q : State → Prop} {cc : ByteArray} {pc : Nat} {ls : Array Slot} {rest : List Value}
theorem vx_idivZ (hexec : p.tables.exec = Jvm.exec) (hb : c.code = cc) {a b : Int32} (h0 : b = 0) (d : decode cc pc = .ok (.idiv, 1)) (k : vx_Note p l e R s m args below meth c H locs cells slots Q (F0 m pc ls rest) "java/lang/ArithmeticException" "/ by zero") :
    W p l e R s m args below meth c H locs cells slots Q (F0 m pc ls (.int b :: .int a :: rest)) := by
  intro T hT X
  obtain ⟨t, st, q⟩ := k T hT X
  exact ⟨t, X.idivZero hexec (g := F0 m pc ls (.int b :: .int a :: rest)) rfl (a := a) (rest := rest) (by rw [h0]) (by rw [hb]; exact d) t st, q⟩
theorem vx_iremZ (hexec : p.tables.exec = Jvm.exec) (hb : c.code = cc) {a b : Int32} (h0 : b = 0) (d : decode cc pc = .ok (.irem, 1)) (k : vx_Note p l e R s m args below meth c H locs cells slots Q (F0 m pc ls rest) "java/lang/ArithmeticException" "/ by zero") :
    W p l e R s m args below meth c H locs cells slots Q (F0 m pc ls (.int b :: .int a :: rest)) := by
  intro T hT X
  obtain ⟨t, st, q⟩ := k T hT X
  exact ⟨t, X.iremZero hexec (g := F0 m pc ls (.int b :: .int a :: rest)) rfl (a := a) (rest := rest) (by rw [h0]) (by rw [hb]; exact d) t st, q⟩
theorem vx_ldivZ (hexec : p.tables.exec = Jvm.exec) (hb : c.code = cc) {a b : Int64} (h0 : b = 0) (d : decode cc pc = .ok (.ldiv, 1)) (k : vx_Note p l e R s m args below meth c H locs cells slots Q (F0 m pc ls rest) "java/lang/ArithmeticException" "/ by zero") :
    W p l e R s m args below meth c H locs cells slots Q (F0 m pc ls (.long b :: .long a :: rest)) := by
  intro T hT X
  obtain ⟨t, st, q⟩ := k T hT X
  exact ⟨t, X.ldivZero hexec (g := F0 m pc ls (.long b :: .long a :: rest)) rfl (a := a) (rest := rest) (by rw [h0]) (by rw [hb]; exact d) t st, q⟩
theorem vx_lremZ (hexec : p.tables.exec = Jvm.exec) (hb : c.code = cc) {a b : Int64} (h0 : b = 0) (d : decode cc pc = .ok (.lrem, 1)) (k : vx_Note p l e R s m args below meth c H locs cells slots Q (F0 m pc ls rest) "java/lang/ArithmeticException" "/ by zero") :
    W p l e R s m args below meth c H locs cells slots Q (F0 m pc ls (.long b :: .long a :: rest)) := by
  intro T hT X
  obtain ⟨t, st, q⟩ := k T hT X
  exact ⟨t, X.lremZero hexec (g := F0 m pc ls (.long b :: .long a :: rest)) rfl (a := a) (rest := rest) (by rw [h0]) (by rw [hb]; exact d) t st, q⟩
theorem vx_ialdZ {D : va_G} {cl : List vw_C} {ws : va_W} {tys : List (ClassId × FieldType)} {a : Nat} (hexec : p.tables.exec = Jvm.exec) (hb : c.code = cc) (hK : va_K D cl tys s) (hP : va_P D cl ws H) (q0 t0 : Nat) {cA : ClassId} {n : Nat} {f : Nat → Int32} (ha : ws[q0]? = some (a, .inl (cA, n, .inl f))) (ht : tys[t0]? = some (cA, .int)) {i : Int32} (hout : ¬ vp_in i n) (hdg : decode cc pc = .ok (.iaload, 1))
    (k : ∀ tx : String, tx = (toString "Index " ++ toString i ++ toString " out of bounds for length " ++ toString n : String) → vx_Note p l e R s m args below meth c H locs cells slots Q (F0 m pc ls rest) "java/lang/ArrayIndexOutOfBoundsException" tx) : W p l e R s m args below meth c H locs cells slots Q (F0 m pc ls (.int i :: .ref a :: rest)) := by
  intro T hT X
  obtain ⟨t, st, q⟩ := k _ rfl T hT X
  refine ⟨t, ?_, q⟩
  have h1 := X.ialoadOut hexec (by rw [hT]; exact hP q0 _ ha) ((hK.2 t0 _ ht).1 n (fun j => .int (f j))) (j := i) (by show (i < 0 ∨ (arrV _ _ _).slots.size ≤ _); rw [arrV_size]; exact Classical.byContradiction hout) (g := F0 m pc ls (.int i :: .ref a :: rest)) rfl (rest := rest) rfl (by rw [hb]; exact hdg) t
  simp only [arrV_size] at h1
  exact h1 st
theorem vx_iastZ {D : va_G} {cl : List vw_C} {ws : va_W} {tys : List (ClassId × FieldType)} {a : Nat} (hexec : p.tables.exec = Jvm.exec) (hb : c.code = cc) (hK : va_K D cl tys s) (hP : va_P D cl ws H) (q0 t0 : Nat) {cA : ClassId} {n : Nat} {f : Nat → Int32} (ha : ws[q0]? = some (a, .inl (cA, n, .inl f))) (ht : tys[t0]? = some (cA, .int)) {i : Int32} {x : Int32} (hout : ¬ vp_in i n) (hdg : decode cc pc = .ok (.iastore, 1))
    (k : ∀ tx : String, tx = (toString "Index " ++ toString i ++ toString " out of bounds for length " ++ toString n : String) → vx_Note p l e R s m args below meth c H locs cells slots Q (F0 m pc ls rest) "java/lang/ArrayIndexOutOfBoundsException" tx) : W p l e R s m args below meth c H locs cells slots Q (F0 m pc ls (.int x :: .int i :: .ref a :: rest)) := by
  intro T hT X
  obtain ⟨t, st, q⟩ := k _ rfl T hT X
  refine ⟨t, ?_, q⟩
  have h1 := X.iastoreOut hexec (by rw [hT]; exact hP q0 _ ha) ((hK.2 t0 _ ht).1 n (fun j => .int (f j))) (j := i) (by show (i < 0 ∨ (arrV _ _ _).slots.size ≤ _); rw [arrV_size]; exact Classical.byContradiction hout) (g := F0 m pc ls (.int x :: .int i :: .ref a :: rest)) rfl (rest := rest) rfl (by rw [hb]; exact hdg) t
  simp only [arrV_size] at h1
  exact h1 st
theorem vx_baldZ {D : va_G} {cl : List vw_C} {ws : va_W} {tys : List (ClassId × FieldType)} {a : Nat} (hexec : p.tables.exec = Jvm.exec) (hb : c.code = cc) (hK : va_K D cl tys s) (hP : va_P D cl ws H) (q0 t0 : Nat) {cA : ClassId} {n : Nat} {f : Nat → Int32} (ha : ws[q0]? = some (a, .inl (cA, n, .inl f))) (ht : tys[t0]? = some (cA, .byte)) {i : Int32} (hout : ¬ vp_in i n) (hdg : decode cc pc = .ok (.baload, 1))
    (k : ∀ tx : String, tx = (toString "Index " ++ toString i ++ toString " out of bounds for length " ++ toString n : String) → vx_Note p l e R s m args below meth c H locs cells slots Q (F0 m pc ls rest) "java/lang/ArrayIndexOutOfBoundsException" tx) : W p l e R s m args below meth c H locs cells slots Q (F0 m pc ls (.int i :: .ref a :: rest)) := by
  intro T hT X
  obtain ⟨t, st, q⟩ := k _ rfl T hT X
  refine ⟨t, ?_, q⟩
  have h1 := X.baloadOut hexec (by rw [hT]; exact hP q0 _ ha) ((hK.2 t0 _ ht).1 n (fun j => .int (f j))) (j := i) (by show (i < 0 ∨ (arrV _ _ _).slots.size ≤ _); rw [arrV_size]; exact Classical.byContradiction hout) (g := F0 m pc ls (.int i :: .ref a :: rest)) rfl (rest := rest) rfl (by rw [hb]; exact hdg) t
  simp only [arrV_size] at h1
  exact h1 st
theorem vx_bastZ {D : va_G} {cl : List vw_C} {ws : va_W} {tys : List (ClassId × FieldType)} {a : Nat} (hexec : p.tables.exec = Jvm.exec) (hb : c.code = cc) (hK : va_K D cl tys s) (hP : va_P D cl ws H) (q0 t0 : Nat) {cA : ClassId} {n : Nat} {f : Nat → Int32} (ha : ws[q0]? = some (a, .inl (cA, n, .inl f))) (ht : tys[t0]? = some (cA, .byte)) {i : Int32} {x : Int32} (hout : ¬ vp_in i n) (hdg : decode cc pc = .ok (.bastore, 1))
    (k : ∀ tx : String, tx = (toString "Index " ++ toString i ++ toString " out of bounds for length " ++ toString n : String) → vx_Note p l e R s m args below meth c H locs cells slots Q (F0 m pc ls rest) "java/lang/ArrayIndexOutOfBoundsException" tx) : W p l e R s m args below meth c H locs cells slots Q (F0 m pc ls (.int x :: .int i :: .ref a :: rest)) := by
  intro T hT X
  obtain ⟨t, st, q⟩ := k _ rfl T hT X
  refine ⟨t, ?_, q⟩
  have h1 := X.bastoreOut hexec (by rw [hT]; exact hP q0 _ ha) ((hK.2 t0 _ ht).1 n (fun j => .int (f j))) (j := i) (by show (i < 0 ∨ (arrV _ _ _).slots.size ≤ _); rw [arrV_size]; exact Classical.byContradiction hout) (g := F0 m pc ls (.int x :: .int i :: .ref a :: rest)) rfl (rest := rest) rfl (by rw [hb]; exact hdg) t
  simp only [arrV_size] at h1
  exact h1 st
theorem vx_zaldZ {D : va_G} {cl : List vw_C} {ws : va_W} {tys : List (ClassId × FieldType)} {a : Nat} (hexec : p.tables.exec = Jvm.exec) (hb : c.code = cc) (hK : va_K D cl tys s) (hP : va_P D cl ws H) (q0 t0 : Nat) {cA : ClassId} {n : Nat} {f : Nat → Int32} (ha : ws[q0]? = some (a, .inl (cA, n, .inl f))) (ht : tys[t0]? = some (cA, .boolean)) {i : Int32} (hout : ¬ vp_in i n) (hdg : decode cc pc = .ok (.baload, 1))
    (k : ∀ tx : String, tx = (toString "Index " ++ toString i ++ toString " out of bounds for length " ++ toString n : String) → vx_Note p l e R s m args below meth c H locs cells slots Q (F0 m pc ls rest) "java/lang/ArrayIndexOutOfBoundsException" tx) : W p l e R s m args below meth c H locs cells slots Q (F0 m pc ls (.int i :: .ref a :: rest)) := by
  intro T hT X
  obtain ⟨t, st, q⟩ := k _ rfl T hT X
  refine ⟨t, ?_, q⟩
  have h1 := X.baloadOut hexec (by rw [hT]; exact hP q0 _ ha) ((hK.2 t0 _ ht).1 n (fun j => .int (f j))) (j := i) (by show (i < 0 ∨ (arrV _ _ _).slots.size ≤ _); rw [arrV_size]; exact Classical.byContradiction hout) (g := F0 m pc ls (.int i :: .ref a :: rest)) rfl (rest := rest) rfl (by rw [hb]; exact hdg) t
  simp only [arrV_size] at h1
  exact h1 st
theorem vx_zastZ {D : va_G} {cl : List vw_C} {ws : va_W} {tys : List (ClassId × FieldType)} {a : Nat} (hexec : p.tables.exec = Jvm.exec) (hb : c.code = cc) (hK : va_K D cl tys s) (hP : va_P D cl ws H) (q0 t0 : Nat) {cA : ClassId} {n : Nat} {f : Nat → Int32} (ha : ws[q0]? = some (a, .inl (cA, n, .inl f))) (ht : tys[t0]? = some (cA, .boolean)) {i : Int32} {x : Int32} (hout : ¬ vp_in i n) (hdg : decode cc pc = .ok (.bastore, 1))
    (k : ∀ tx : String, tx = (toString "Index " ++ toString i ++ toString " out of bounds for length " ++ toString n : String) → vx_Note p l e R s m args below meth c H locs cells slots Q (F0 m pc ls rest) "java/lang/ArrayIndexOutOfBoundsException" tx) : W p l e R s m args below meth c H locs cells slots Q (F0 m pc ls (.int x :: .int i :: .ref a :: rest)) := by
  intro T hT X
  obtain ⟨t, st, q⟩ := k _ rfl T hT X
  refine ⟨t, ?_, q⟩
  have h1 := X.bastoreOut hexec (by rw [hT]; exact hP q0 _ ha) ((hK.2 t0 _ ht).1 n (fun j => .int (f j))) (j := i) (by show (i < 0 ∨ (arrV _ _ _).slots.size ≤ _); rw [arrV_size]; exact Classical.byContradiction hout) (g := F0 m pc ls (.int x :: .int i :: .ref a :: rest)) rfl (rest := rest) rfl (by rw [hb]; exact hdg) t
  simp only [arrV_size] at h1
  exact h1 st
theorem vx_caldZ {D : va_G} {cl : List vw_C} {ws : va_W} {tys : List (ClassId × FieldType)} {a : Nat} (hexec : p.tables.exec = Jvm.exec) (hb : c.code = cc) (hK : va_K D cl tys s) (hP : va_P D cl ws H) (q0 t0 : Nat) {cA : ClassId} {n : Nat} {f : Nat → Int32} (ha : ws[q0]? = some (a, .inl (cA, n, .inl f))) (ht : tys[t0]? = some (cA, .char)) {i : Int32} (hout : ¬ vp_in i n) (hdg : decode cc pc = .ok (.caload, 1))
    (k : ∀ tx : String, tx = (toString "Index " ++ toString i ++ toString " out of bounds for length " ++ toString n : String) → vx_Note p l e R s m args below meth c H locs cells slots Q (F0 m pc ls rest) "java/lang/ArrayIndexOutOfBoundsException" tx) : W p l e R s m args below meth c H locs cells slots Q (F0 m pc ls (.int i :: .ref a :: rest)) := by
  intro T hT X
  obtain ⟨t, st, q⟩ := k _ rfl T hT X
  refine ⟨t, ?_, q⟩
  have h1 := X.caloadOut hexec (by rw [hT]; exact hP q0 _ ha) ((hK.2 t0 _ ht).1 n (fun j => .int (f j))) (j := i) (by show (i < 0 ∨ (arrV _ _ _).slots.size ≤ _); rw [arrV_size]; exact Classical.byContradiction hout) (g := F0 m pc ls (.int i :: .ref a :: rest)) rfl (rest := rest) rfl (by rw [hb]; exact hdg) t
  simp only [arrV_size] at h1
  exact h1 st
theorem vx_castZ {D : va_G} {cl : List vw_C} {ws : va_W} {tys : List (ClassId × FieldType)} {a : Nat} (hexec : p.tables.exec = Jvm.exec) (hb : c.code = cc) (hK : va_K D cl tys s) (hP : va_P D cl ws H) (q0 t0 : Nat) {cA : ClassId} {n : Nat} {f : Nat → Int32} (ha : ws[q0]? = some (a, .inl (cA, n, .inl f))) (ht : tys[t0]? = some (cA, .char)) {i : Int32} {x : Int32} (hout : ¬ vp_in i n) (hdg : decode cc pc = .ok (.castore, 1))
    (k : ∀ tx : String, tx = (toString "Index " ++ toString i ++ toString " out of bounds for length " ++ toString n : String) → vx_Note p l e R s m args below meth c H locs cells slots Q (F0 m pc ls rest) "java/lang/ArrayIndexOutOfBoundsException" tx) : W p l e R s m args below meth c H locs cells slots Q (F0 m pc ls (.int x :: .int i :: .ref a :: rest)) := by
  intro T hT X
  obtain ⟨t, st, q⟩ := k _ rfl T hT X
  refine ⟨t, ?_, q⟩
  have h1 := X.castoreOut hexec (by rw [hT]; exact hP q0 _ ha) ((hK.2 t0 _ ht).1 n (fun j => .int (f j))) (j := i) (by show (i < 0 ∨ (arrV _ _ _).slots.size ≤ _); rw [arrV_size]; exact Classical.byContradiction hout) (g := F0 m pc ls (.int x :: .int i :: .ref a :: rest)) rfl (rest := rest) rfl (by rw [hb]; exact hdg) t
  simp only [arrV_size] at h1
  exact h1 st
theorem vx_saldZ {D : va_G} {cl : List vw_C} {ws : va_W} {tys : List (ClassId × FieldType)} {a : Nat} (hexec : p.tables.exec = Jvm.exec) (hb : c.code = cc) (hK : va_K D cl tys s) (hP : va_P D cl ws H) (q0 t0 : Nat) {cA : ClassId} {n : Nat} {f : Nat → Int32} (ha : ws[q0]? = some (a, .inl (cA, n, .inl f))) (ht : tys[t0]? = some (cA, .short)) {i : Int32} (hout : ¬ vp_in i n) (hdg : decode cc pc = .ok (.saload, 1))
    (k : ∀ tx : String, tx = (toString "Index " ++ toString i ++ toString " out of bounds for length " ++ toString n : String) → vx_Note p l e R s m args below meth c H locs cells slots Q (F0 m pc ls rest) "java/lang/ArrayIndexOutOfBoundsException" tx) : W p l e R s m args below meth c H locs cells slots Q (F0 m pc ls (.int i :: .ref a :: rest)) := by
  intro T hT X
  obtain ⟨t, st, q⟩ := k _ rfl T hT X
  refine ⟨t, ?_, q⟩
  have h1 := X.saloadOut hexec (by rw [hT]; exact hP q0 _ ha) ((hK.2 t0 _ ht).1 n (fun j => .int (f j))) (j := i) (by show (i < 0 ∨ (arrV _ _ _).slots.size ≤ _); rw [arrV_size]; exact Classical.byContradiction hout) (g := F0 m pc ls (.int i :: .ref a :: rest)) rfl (rest := rest) rfl (by rw [hb]; exact hdg) t
  simp only [arrV_size] at h1
  exact h1 st
theorem vx_sastZ {D : va_G} {cl : List vw_C} {ws : va_W} {tys : List (ClassId × FieldType)} {a : Nat} (hexec : p.tables.exec = Jvm.exec) (hb : c.code = cc) (hK : va_K D cl tys s) (hP : va_P D cl ws H) (q0 t0 : Nat) {cA : ClassId} {n : Nat} {f : Nat → Int32} (ha : ws[q0]? = some (a, .inl (cA, n, .inl f))) (ht : tys[t0]? = some (cA, .short)) {i : Int32} {x : Int32} (hout : ¬ vp_in i n) (hdg : decode cc pc = .ok (.sastore, 1))
    (k : ∀ tx : String, tx = (toString "Index " ++ toString i ++ toString " out of bounds for length " ++ toString n : String) → vx_Note p l e R s m args below meth c H locs cells slots Q (F0 m pc ls rest) "java/lang/ArrayIndexOutOfBoundsException" tx) : W p l e R s m args below meth c H locs cells slots Q (F0 m pc ls (.int x :: .int i :: .ref a :: rest)) := by
  intro T hT X
  obtain ⟨t, st, q⟩ := k _ rfl T hT X
  refine ⟨t, ?_, q⟩
  have h1 := X.sastoreOut hexec (by rw [hT]; exact hP q0 _ ha) ((hK.2 t0 _ ht).1 n (fun j => .int (f j))) (j := i) (by show (i < 0 ∨ (arrV _ _ _).slots.size ≤ _); rw [arrV_size]; exact Classical.byContradiction hout) (g := F0 m pc ls (.int x :: .int i :: .ref a :: rest)) rfl (rest := rest) rfl (by rw [hb]; exact hdg) t
  simp only [arrV_size] at h1
  exact h1 st
theorem vx_laldZ {D : va_G} {cl : List vw_C} {ws : va_W} {tys : List (ClassId × FieldType)} {a : Nat} (hexec : p.tables.exec = Jvm.exec) (hb : c.code = cc) (hK : va_K D cl tys s) (hP : va_P D cl ws H) (q0 t0 : Nat) {cA : ClassId} {n : Nat} {f : Nat → Int64} (ha : ws[q0]? = some (a, .inl (cA, n, .inr (.inl f)))) (ht : tys[t0]? = some (cA, .long)) {i : Int32} (hout : ¬ vp_in i n) (hdg : decode cc pc = .ok (.laload, 1))
    (k : ∀ tx : String, tx = (toString "Index " ++ toString i ++ toString " out of bounds for length " ++ toString n : String) → vx_Note p l e R s m args below meth c H locs cells slots Q (F0 m pc ls rest) "java/lang/ArrayIndexOutOfBoundsException" tx) : W p l e R s m args below meth c H locs cells slots Q (F0 m pc ls (.int i :: .ref a :: rest)) := by
  intro T hT X
  obtain ⟨t, st, q⟩ := k _ rfl T hT X
  refine ⟨t, ?_, q⟩
  have h1 := X.laloadOut hexec (by rw [hT]; exact hP q0 _ ha) ((hK.2 t0 _ ht).1 n (fun j => .long (f j))) (j := i) (by show (i < 0 ∨ (arrV _ _ _).slots.size ≤ _); rw [arrV_size]; exact Classical.byContradiction hout) (g := F0 m pc ls (.int i :: .ref a :: rest)) rfl (rest := rest) rfl (by rw [hb]; exact hdg) t
  simp only [arrV_size] at h1
  exact h1 st
theorem vx_lastZ {D : va_G} {cl : List vw_C} {ws : va_W} {tys : List (ClassId × FieldType)} {a : Nat} (hexec : p.tables.exec = Jvm.exec) (hb : c.code = cc) (hK : va_K D cl tys s) (hP : va_P D cl ws H) (q0 t0 : Nat) {cA : ClassId} {n : Nat} {f : Nat → Int64} (ha : ws[q0]? = some (a, .inl (cA, n, .inr (.inl f)))) (ht : tys[t0]? = some (cA, .long)) {i : Int32} {x : Int64} (hout : ¬ vp_in i n) (hdg : decode cc pc = .ok (.lastore, 1))
    (k : ∀ tx : String, tx = (toString "Index " ++ toString i ++ toString " out of bounds for length " ++ toString n : String) → vx_Note p l e R s m args below meth c H locs cells slots Q (F0 m pc ls rest) "java/lang/ArrayIndexOutOfBoundsException" tx) : W p l e R s m args below meth c H locs cells slots Q (F0 m pc ls (.long x :: .int i :: .ref a :: rest)) := by
  intro T hT X
  obtain ⟨t, st, q⟩ := k _ rfl T hT X
  refine ⟨t, ?_, q⟩
  have h1 := X.lastoreOut hexec (by rw [hT]; exact hP q0 _ ha) ((hK.2 t0 _ ht).1 n (fun j => .long (f j))) (j := i) (by show (i < 0 ∨ (arrV _ _ _).slots.size ≤ _); rw [arrV_size]; exact Classical.byContradiction hout) (g := F0 m pc ls (.long x :: .int i :: .ref a :: rest)) rfl (rest := rest) rfl (by rw [hb]; exact hdg) t
  simp only [arrV_size] at h1
  exact h1 st
theorem vx_faldZ {D : va_G} {cl : List vw_C} {ws : va_W} {tys : List (ClassId × FieldType)} {a : Nat} (hexec : p.tables.exec = Jvm.exec) (hb : c.code = cc) (hK : va_K D cl tys s) (hP : va_P D cl ws H) (q0 t0 : Nat) {cA : ClassId} {n : Nat} {f : Nat → UInt32} (ha : ws[q0]? = some (a, .inl (cA, n, .inr (.inr (.inl f))))) (ht : tys[t0]? = some (cA, .float)) {i : Int32} (hout : ¬ vp_in i n) (hdg : decode cc pc = .ok (.faload, 1))
    (k : ∀ tx : String, tx = (toString "Index " ++ toString i ++ toString " out of bounds for length " ++ toString n : String) → vx_Note p l e R s m args below meth c H locs cells slots Q (F0 m pc ls rest) "java/lang/ArrayIndexOutOfBoundsException" tx) : W p l e R s m args below meth c H locs cells slots Q (F0 m pc ls (.int i :: .ref a :: rest)) := by
  intro T hT X
  obtain ⟨t, st, q⟩ := k _ rfl T hT X
  refine ⟨t, ?_, q⟩
  have h1 := X.faloadOut hexec (by rw [hT]; exact hP q0 _ ha) ((hK.2 t0 _ ht).1 n (fun j => .float (f j))) (j := i) (by show (i < 0 ∨ (arrV _ _ _).slots.size ≤ _); rw [arrV_size]; exact Classical.byContradiction hout) (g := F0 m pc ls (.int i :: .ref a :: rest)) rfl (rest := rest) rfl (by rw [hb]; exact hdg) t
  simp only [arrV_size] at h1
  exact h1 st
theorem vx_fastZ {D : va_G} {cl : List vw_C} {ws : va_W} {tys : List (ClassId × FieldType)} {a : Nat} (hexec : p.tables.exec = Jvm.exec) (hb : c.code = cc) (hK : va_K D cl tys s) (hP : va_P D cl ws H) (q0 t0 : Nat) {cA : ClassId} {n : Nat} {f : Nat → UInt32} (ha : ws[q0]? = some (a, .inl (cA, n, .inr (.inr (.inl f))))) (ht : tys[t0]? = some (cA, .float)) {i : Int32} {x : UInt32} (hout : ¬ vp_in i n) (hdg : decode cc pc = .ok (.fastore, 1))
    (k : ∀ tx : String, tx = (toString "Index " ++ toString i ++ toString " out of bounds for length " ++ toString n : String) → vx_Note p l e R s m args below meth c H locs cells slots Q (F0 m pc ls rest) "java/lang/ArrayIndexOutOfBoundsException" tx) : W p l e R s m args below meth c H locs cells slots Q (F0 m pc ls (.float x :: .int i :: .ref a :: rest)) := by
  intro T hT X
  obtain ⟨t, st, q⟩ := k _ rfl T hT X
  refine ⟨t, ?_, q⟩
  have h1 := X.fastoreOut hexec (by rw [hT]; exact hP q0 _ ha) ((hK.2 t0 _ ht).1 n (fun j => .float (f j))) (j := i) (by show (i < 0 ∨ (arrV _ _ _).slots.size ≤ _); rw [arrV_size]; exact Classical.byContradiction hout) (g := F0 m pc ls (.float x :: .int i :: .ref a :: rest)) rfl (rest := rest) rfl (by rw [hb]; exact hdg) t
  simp only [arrV_size] at h1
  exact h1 st
theorem vx_daldZ {D : va_G} {cl : List vw_C} {ws : va_W} {tys : List (ClassId × FieldType)} {a : Nat} (hexec : p.tables.exec = Jvm.exec) (hb : c.code = cc) (hK : va_K D cl tys s) (hP : va_P D cl ws H) (q0 t0 : Nat) {cA : ClassId} {n : Nat} {f : Nat → UInt64} (ha : ws[q0]? = some (a, .inl (cA, n, .inr (.inr (.inr (.inl f)))))) (ht : tys[t0]? = some (cA, .double)) {i : Int32} (hout : ¬ vp_in i n) (hdg : decode cc pc = .ok (.daload, 1))
    (k : ∀ tx : String, tx = (toString "Index " ++ toString i ++ toString " out of bounds for length " ++ toString n : String) → vx_Note p l e R s m args below meth c H locs cells slots Q (F0 m pc ls rest) "java/lang/ArrayIndexOutOfBoundsException" tx) : W p l e R s m args below meth c H locs cells slots Q (F0 m pc ls (.int i :: .ref a :: rest)) := by
  intro T hT X
  obtain ⟨t, st, q⟩ := k _ rfl T hT X
  refine ⟨t, ?_, q⟩
  have h1 := X.daloadOut hexec (by rw [hT]; exact hP q0 _ ha) ((hK.2 t0 _ ht).1 n (fun j => .double (f j))) (j := i) (by show (i < 0 ∨ (arrV _ _ _).slots.size ≤ _); rw [arrV_size]; exact Classical.byContradiction hout) (g := F0 m pc ls (.int i :: .ref a :: rest)) rfl (rest := rest) rfl (by rw [hb]; exact hdg) t
  simp only [arrV_size] at h1
  exact h1 st
theorem vx_dastZ {D : va_G} {cl : List vw_C} {ws : va_W} {tys : List (ClassId × FieldType)} {a : Nat} (hexec : p.tables.exec = Jvm.exec) (hb : c.code = cc) (hK : va_K D cl tys s) (hP : va_P D cl ws H) (q0 t0 : Nat) {cA : ClassId} {n : Nat} {f : Nat → UInt64} (ha : ws[q0]? = some (a, .inl (cA, n, .inr (.inr (.inr (.inl f)))))) (ht : tys[t0]? = some (cA, .double)) {i : Int32} {x : UInt64} (hout : ¬ vp_in i n) (hdg : decode cc pc = .ok (.dastore, 1))
    (k : ∀ tx : String, tx = (toString "Index " ++ toString i ++ toString " out of bounds for length " ++ toString n : String) → vx_Note p l e R s m args below meth c H locs cells slots Q (F0 m pc ls rest) "java/lang/ArrayIndexOutOfBoundsException" tx) : W p l e R s m args below meth c H locs cells slots Q (F0 m pc ls (.double x :: .int i :: .ref a :: rest)) := by
  intro T hT X
  obtain ⟨t, st, q⟩ := k _ rfl T hT X
  refine ⟨t, ?_, q⟩
  have h1 := X.dastoreOut hexec (by rw [hT]; exact hP q0 _ ha) ((hK.2 t0 _ ht).1 n (fun j => .double (f j))) (j := i) (by show (i < 0 ∨ (arrV _ _ _).slots.size ≤ _); rw [arrV_size]; exact Classical.byContradiction hout) (g := F0 m pc ls (.double x :: .int i :: .ref a :: rest)) rfl (rest := rest) rfl (by rw [hb]; exact hdg) t
  simp only [arrV_size] at h1
  exact h1 st
theorem vx_arraylengthN (hexec : p.tables.exec = Jvm.exec) (hb : c.code = cc) (hdg : decode cc pc = .ok (.arraylength, 1)) (k : vx_NoteN p l e R s m args below meth c H locs cells slots Q (F0 m pc ls rest)) : W p l e R s m args below meth c H locs cells slots Q (F0 m pc ls (.null :: rest)) := by
  intro T hT X
  obtain ⟨t, st, q⟩ := k T hT X
  exact ⟨t, X.arraylengthNull hexec (g := F0 m pc ls (.null :: rest)) rfl (rest := rest) rfl (by rw [hb]; exact hdg) t st, q⟩
theorem vx_ialoadN (hexec : p.tables.exec = Jvm.exec) (hb : c.code = cc) {i : Int32} (hdg : decode cc pc = .ok (.iaload, 1)) (k : vx_NoteN p l e R s m args below meth c H locs cells slots Q (F0 m pc ls rest)) : W p l e R s m args below meth c H locs cells slots Q (F0 m pc ls (.int i :: .null :: rest)) := by
  intro T hT X
  obtain ⟨t, st, q⟩ := k T hT X
  exact ⟨t, X.ialoadNull hexec (g := F0 m pc ls (.int i :: .null :: rest)) rfl (rest := rest) rfl (by rw [hb]; exact hdg) t st, q⟩
theorem vx_laloadN (hexec : p.tables.exec = Jvm.exec) (hb : c.code = cc) {i : Int32} (hdg : decode cc pc = .ok (.laload, 1)) (k : vx_NoteN p l e R s m args below meth c H locs cells slots Q (F0 m pc ls rest)) : W p l e R s m args below meth c H locs cells slots Q (F0 m pc ls (.int i :: .null :: rest)) := by
  intro T hT X
  obtain ⟨t, st, q⟩ := k T hT X
  exact ⟨t, X.laloadNull hexec (g := F0 m pc ls (.int i :: .null :: rest)) rfl (rest := rest) rfl (by rw [hb]; exact hdg) t st, q⟩
theorem vx_faloadN (hexec : p.tables.exec = Jvm.exec) (hb : c.code = cc) {i : Int32} (hdg : decode cc pc = .ok (.faload, 1)) (k : vx_NoteN p l e R s m args below meth c H locs cells slots Q (F0 m pc ls rest)) : W p l e R s m args below meth c H locs cells slots Q (F0 m pc ls (.int i :: .null :: rest)) := by
  intro T hT X
  obtain ⟨t, st, q⟩ := k T hT X
  exact ⟨t, X.faloadNull hexec (g := F0 m pc ls (.int i :: .null :: rest)) rfl (rest := rest) rfl (by rw [hb]; exact hdg) t st, q⟩
theorem vx_daloadN (hexec : p.tables.exec = Jvm.exec) (hb : c.code = cc) {i : Int32} (hdg : decode cc pc = .ok (.daload, 1)) (k : vx_NoteN p l e R s m args below meth c H locs cells slots Q (F0 m pc ls rest)) : W p l e R s m args below meth c H locs cells slots Q (F0 m pc ls (.int i :: .null :: rest)) := by
  intro T hT X
  obtain ⟨t, st, q⟩ := k T hT X
  exact ⟨t, X.daloadNull hexec (g := F0 m pc ls (.int i :: .null :: rest)) rfl (rest := rest) rfl (by rw [hb]; exact hdg) t st, q⟩
theorem vx_aaloadN (hexec : p.tables.exec = Jvm.exec) (hb : c.code = cc) {i : Int32} (hdg : decode cc pc = .ok (.aaload, 1)) (k : vx_NoteN p l e R s m args below meth c H locs cells slots Q (F0 m pc ls rest)) : W p l e R s m args below meth c H locs cells slots Q (F0 m pc ls (.int i :: .null :: rest)) := by
  intro T hT X
  obtain ⟨t, st, q⟩ := k T hT X
  exact ⟨t, X.aaloadNull hexec (g := F0 m pc ls (.int i :: .null :: rest)) rfl (rest := rest) rfl (by rw [hb]; exact hdg) t st, q⟩
theorem vx_baloadN (hexec : p.tables.exec = Jvm.exec) (hb : c.code = cc) {i : Int32} (hdg : decode cc pc = .ok (.baload, 1)) (k : vx_NoteN p l e R s m args below meth c H locs cells slots Q (F0 m pc ls rest)) : W p l e R s m args below meth c H locs cells slots Q (F0 m pc ls (.int i :: .null :: rest)) := by
  intro T hT X
  obtain ⟨t, st, q⟩ := k T hT X
  exact ⟨t, X.baloadNull hexec (g := F0 m pc ls (.int i :: .null :: rest)) rfl (rest := rest) rfl (by rw [hb]; exact hdg) t st, q⟩
theorem vx_caloadN (hexec : p.tables.exec = Jvm.exec) (hb : c.code = cc) {i : Int32} (hdg : decode cc pc = .ok (.caload, 1)) (k : vx_NoteN p l e R s m args below meth c H locs cells slots Q (F0 m pc ls rest)) : W p l e R s m args below meth c H locs cells slots Q (F0 m pc ls (.int i :: .null :: rest)) := by
  intro T hT X
  obtain ⟨t, st, q⟩ := k T hT X
  exact ⟨t, X.caloadNull hexec (g := F0 m pc ls (.int i :: .null :: rest)) rfl (rest := rest) rfl (by rw [hb]; exact hdg) t st, q⟩
theorem vx_saloadN (hexec : p.tables.exec = Jvm.exec) (hb : c.code = cc) {i : Int32} (hdg : decode cc pc = .ok (.saload, 1)) (k : vx_NoteN p l e R s m args below meth c H locs cells slots Q (F0 m pc ls rest)) : W p l e R s m args below meth c H locs cells slots Q (F0 m pc ls (.int i :: .null :: rest)) := by
  intro T hT X
  obtain ⟨t, st, q⟩ := k T hT X
  exact ⟨t, X.saloadNull hexec (g := F0 m pc ls (.int i :: .null :: rest)) rfl (rest := rest) rfl (by rw [hb]; exact hdg) t st, q⟩
theorem vx_iastoreN (hexec : p.tables.exec = Jvm.exec) (hb : c.code = cc) {x : Int32} {i : Int32} (hdg : decode cc pc = .ok (.iastore, 1)) (k : vx_NoteN p l e R s m args below meth c H locs cells slots Q (F0 m pc ls rest)) : W p l e R s m args below meth c H locs cells slots Q (F0 m pc ls (.int x :: .int i :: .null :: rest)) := by
  intro T hT X
  obtain ⟨t, st, q⟩ := k T hT X
  exact ⟨t, X.iastoreNull hexec (g := F0 m pc ls (.int x :: .int i :: .null :: rest)) rfl (rest := rest) rfl (by rw [hb]; exact hdg) t st, q⟩
theorem vx_lastoreN (hexec : p.tables.exec = Jvm.exec) (hb : c.code = cc) {x : Int64} {i : Int32} (hdg : decode cc pc = .ok (.lastore, 1)) (k : vx_NoteN p l e R s m args below meth c H locs cells slots Q (F0 m pc ls rest)) : W p l e R s m args below meth c H locs cells slots Q (F0 m pc ls (.long x :: .int i :: .null :: rest)) := by
  intro T hT X
  obtain ⟨t, st, q⟩ := k T hT X
  exact ⟨t, X.lastoreNull hexec (g := F0 m pc ls (.long x :: .int i :: .null :: rest)) rfl (rest := rest) rfl (by rw [hb]; exact hdg) t st, q⟩
theorem vx_fastoreN (hexec : p.tables.exec = Jvm.exec) (hb : c.code = cc) {x : UInt32} {i : Int32} (hdg : decode cc pc = .ok (.fastore, 1)) (k : vx_NoteN p l e R s m args below meth c H locs cells slots Q (F0 m pc ls rest)) : W p l e R s m args below meth c H locs cells slots Q (F0 m pc ls (.float x :: .int i :: .null :: rest)) := by
  intro T hT X
  obtain ⟨t, st, q⟩ := k T hT X
  exact ⟨t, X.fastoreNull hexec (g := F0 m pc ls (.float x :: .int i :: .null :: rest)) rfl (rest := rest) rfl (by rw [hb]; exact hdg) t st, q⟩
theorem vx_dastoreN (hexec : p.tables.exec = Jvm.exec) (hb : c.code = cc) {x : UInt64} {i : Int32} (hdg : decode cc pc = .ok (.dastore, 1)) (k : vx_NoteN p l e R s m args below meth c H locs cells slots Q (F0 m pc ls rest)) : W p l e R s m args below meth c H locs cells slots Q (F0 m pc ls (.double x :: .int i :: .null :: rest)) := by
  intro T hT X
  obtain ⟨t, st, q⟩ := k T hT X
  exact ⟨t, X.dastoreNull hexec (g := F0 m pc ls (.double x :: .int i :: .null :: rest)) rfl (rest := rest) rfl (by rw [hb]; exact hdg) t st, q⟩
theorem vx_bastoreN (hexec : p.tables.exec = Jvm.exec) (hb : c.code = cc) {x : Int32} {i : Int32} (hdg : decode cc pc = .ok (.bastore, 1)) (k : vx_NoteN p l e R s m args below meth c H locs cells slots Q (F0 m pc ls rest)) : W p l e R s m args below meth c H locs cells slots Q (F0 m pc ls (.int x :: .int i :: .null :: rest)) := by
  intro T hT X
  obtain ⟨t, st, q⟩ := k T hT X
  exact ⟨t, X.bastoreNull hexec (g := F0 m pc ls (.int x :: .int i :: .null :: rest)) rfl (rest := rest) rfl (by rw [hb]; exact hdg) t st, q⟩
theorem vx_castoreN (hexec : p.tables.exec = Jvm.exec) (hb : c.code = cc) {x : Int32} {i : Int32} (hdg : decode cc pc = .ok (.castore, 1)) (k : vx_NoteN p l e R s m args below meth c H locs cells slots Q (F0 m pc ls rest)) : W p l e R s m args below meth c H locs cells slots Q (F0 m pc ls (.int x :: .int i :: .null :: rest)) := by
  intro T hT X
  obtain ⟨t, st, q⟩ := k T hT X
  exact ⟨t, X.castoreNull hexec (g := F0 m pc ls (.int x :: .int i :: .null :: rest)) rfl (rest := rest) rfl (by rw [hb]; exact hdg) t st, q⟩
theorem vx_sastoreN (hexec : p.tables.exec = Jvm.exec) (hb : c.code = cc) {x : Int32} {i : Int32} (hdg : decode cc pc = .ok (.sastore, 1)) (k : vx_NoteN p l e R s m args below meth c H locs cells slots Q (F0 m pc ls rest)) : W p l e R s m args below meth c H locs cells slots Q (F0 m pc ls (.int x :: .int i :: .null :: rest)) := by
  intro T hT X
  obtain ⟨t, st, q⟩ := k T hT X
  exact ⟨t, X.sastoreNull hexec (g := F0 m pc ls (.int x :: .int i :: .null :: rest)) rfl (rest := rest) rfl (by rw [hb]; exact hdg) t st, q⟩
theorem vx_invokeN {own C : String} {index maxL : Nat} {y : MethodName} {bytes : ByteArray} {ret : Option FieldType} (hexec : p.tables.exec = Jvm.exec) (hb : c.code = cc) (hown : s.vm.findClass own = some m.cls) (hlink : (Cond.methodLink own index y).before args s = true) (hinst : (Cond.instanceMethod y).before args s = true) (hcode : (Cond.code y bytes maxL ret).before args s = true) (hsel : (Cond.selects C y y).before args s = true)
    (hx : y.cls ≠ "java/lang/invoke/MethodHandle" ∧ y.cls ≠ "java/lang/invoke/VarHandle") {As : List Value} (hlen : (parseMethodDescriptor y.desc).map (fun d => d.parameters.length) = some As.length) (hdg : decode cc pc = .ok (.invokevirtual index, 3))
    (k : vx_NoteN p l e R s m args below meth c H locs cells slots Q (F0 m pc ls rest)) {st0 : List Value} (hst : st0 = As.reverse ++ .null :: rest) : W p l e R s m args below meth c H locs cells slots Q (F0 m pc ls st0) := by
  intro T hT X
  obtain ⟨r0, r, hn, hrm, hstR, hsigR⟩ := va_Decl.of hinst hcode
  obtain ⟨c2, r2, m2, q1, q2, q3, q4, kP, hkP, hkPi⟩ := Cond.selects_spec hsel
  cases hn.symm.trans q3
  have hl9 : As.length = r.sig.parameters.length := by
    rw [hsigR] at hlen
    exact (Option.some.inj hlen).symm
  obtain ⟨vm', X1, st1⟩ := X.invokevirtualNull hexec hown hlink hn hrm hstR hkP hkPi hx (g := F0 m pc ls st0) rfl (argsL := As) (rest := rest) hl9 hst (by rw [hb]; exact hdg)
  obtain ⟨t, st, q⟩ := k (T.setVm vm') hT X1
  exact ⟨t, st1 t st, q⟩
theorem vx_newarrayZ {atype : ArrayType} (hexec : p.tables.exec = Jvm.exec) (hb : c.code = cc) {n : Int32} (h0 : n < 0) (hdg : decode cc pc = .ok (.newarray atype, 2)) (k : ∀ tx : String, tx = toString n → vx_Note p l e R s m args below meth c H locs cells slots Q (F0 m pc ls rest) "java/lang/NegativeArraySizeException" tx) : W p l e R s m args below meth c H locs cells slots Q (F0 m pc ls (.int n :: rest)) := by
  intro T hT X
  obtain ⟨t, st, q⟩ := k _ rfl T hT X
  exact ⟨t, X.newarrayNegative hexec (g := F0 m pc ls (.int n :: rest)) rfl h0 (rest := rest) rfl (by rw [hb]; exact hdg) t st, q⟩
end
end VXM
/-! ===== END ===== -/
end
section
def RX0 : String := "UmbrellaSchool$1"
def TX0 : u_T := fun k => match k with
  | _ => ("", "", "", false)
def tyX0 : Nat → FieldType := fun k => match k with
  | _ => .int
theorem nmX0 : ∀ a, a < 0 → ∀ b, b < 0 → a ≠ b → (TX0 a).2.1 ≠ (TX0 b).2.1 := by decide +kernel
theorem tyX0_ok : ∀ k, k < 0 → parseFieldDescriptor (TX0 k).2.2.1 = some (tyX0 k) := by decide +kernel
def RX1 : String := "UmbrellaSchool$Books"
def TX1 : u_T := fun k => match k with
  | 0 => ("UmbrellaSchool$Books", "umbrellas", "[LUmbrellaSchool$Umbrella;", true)
  | 1 => ("UmbrellaSchool$Books", "count", "I", false)
  | 2 => ("UmbrellaSchool$Books", "wet", "I", false)
  | 3 => ("UmbrellaSchool$Books", "gale", "I", false)
  | 4 => ("UmbrellaSchool$Books", "termsEnded", "I", false)
  | 5 => ("UmbrellaSchool$Books", "openTrials", "I", false)
  | 6 => ("UmbrellaSchool$Books", "openReward", "I", false)
  | _ => ("UmbrellaSchool$Books", "closedReward", "I", false)
def tyX1 : Nat → FieldType := fun k => match k with
  | 0 => .array (.object "UmbrellaSchool$Umbrella")
  | 1 => .int
  | 2 => .int
  | 3 => .int
  | 4 => .int
  | 5 => .int
  | 6 => .int
  | _ => .int
theorem nmX1 : ∀ a, a < 8 → ∀ b, b < 8 → a ≠ b → (TX1 a).2.1 ≠ (TX1 b).2.1 := by decide +kernel
theorem tyX1_ok : ∀ k, k < 8 → parseFieldDescriptor (TX1 k).2.2.1 = some (tyX1 k) := by decide +kernel
abbrev cX1_init : ByteArray := prog_3_method_1_code
def yX1_init : MethodName := ⟨RX1, "<init>", "()V"⟩
abbrev cX1_copyFrom : ByteArray := prog_3_method_2_code
def yX1_copyFrom : MethodName := ⟨RX1, "copyFrom", "(LUmbrellaSchool$Books;)V"⟩
abbrev cX1_umbrellaAt : ByteArray := prog_3_method_3_code
def yX1_umbrellaAt : MethodName := ⟨RX1, "umbrellaAt", "(I)LUmbrellaSchool$Umbrella;"⟩
abbrev cX1_enrol : ByteArray := prog_3_method_4_code
def yX1_enrol : MethodName := ⟨RX1, "enrol", "(I)I"⟩
abbrev cX1_changeWet : ByteArray := prog_3_method_5_code
def yX1_changeWet : MethodName := ⟨RX1, "changeWet", "(I)I"⟩
abbrev cX1_changeGale : ByteArray := prog_3_method_6_code
def yX1_changeGale : MethodName := ⟨RX1, "changeGale", "(I)I"⟩
abbrev cX1_rewardFor : ByteArray := prog_3_method_7_code
def yX1_rewardFor : MethodName := ⟨RX1, "rewardFor", "(IIZ)I"⟩
abbrev cX1_openingPays : ByteArray := prog_3_method_8_code
def yX1_openingPays : MethodName := ⟨RX1, "openingPays", "(II)Z"⟩
abbrev cX1_teach : ByteArray := prog_3_method_9_code
def yX1_teach : MethodName := ⟨RX1, "teach", "(LUmbrellaSchool$Umbrella;III)I"⟩
abbrev cX1_enterReward : ByteArray := prog_3_method_10_code
def yX1_enterReward : MethodName := ⟨RX1, "enterReward", "(ZI)V"⟩
abbrev cX1_holdExam : ByteArray := prog_3_method_11_code
def yX1_holdExam : MethodName := ⟨RX1, "holdExam", "(LUmbrellaSchool$Umbrella;I)I"⟩
abbrev cX1_rightAnswers : ByteArray := prog_3_method_12_code
def yX1_rightAnswers : MethodName := ⟨RX1, "rightAnswers", "(LUmbrellaSchool$Umbrella;I)I"⟩
abbrev cX1_closeTerm : ByteArray := prog_3_method_13_code
def yX1_closeTerm : MethodName := ⟨RX1, "closeTerm", "()I"⟩
abbrev cX1_umbrellaAtRank : ByteArray := prog_3_method_14_code
def yX1_umbrellaAtRank : MethodName := ⟨RX1, "umbrellaAtRank", "(I)I"⟩
abbrev cX1_umbrellasBefore : ByteArray := prog_3_method_15_code
def yX1_umbrellasBefore : MethodName := ⟨RX1, "umbrellasBefore", "(I)I"⟩
abbrev cX1_rewardByUmbrellas : ByteArray := prog_3_method_16_code
def yX1_rewardByUmbrellas : MethodName := ⟨RX1, "rewardByUmbrellas", "()I"⟩
abbrev cX1_rewardByActions : ByteArray := prog_3_method_17_code
def yX1_rewardByActions : MethodName := ⟨RX1, "rewardByActions", "()I"⟩
abbrev cX1_countTrials : ByteArray := prog_3_method_18_code
def yX1_countTrials : MethodName := ⟨RX1, "countTrials", "()I"⟩
abbrev cX1_agrees : ByteArray := prog_3_method_19_code
def yX1_agrees : MethodName := ⟨RX1, "agrees", "()Z"⟩
def RX2 : String := "UmbrellaSchool$Command"
def TX2 : u_T := fun k => match k with
  | _ => ("", "", "", false)
def tyX2 : Nat → FieldType := fun k => match k with
  | _ => .int
theorem nmX2 : ∀ a, a < 0 → ∀ b, b < 0 → a ≠ b → (TX2 a).2.1 ≠ (TX2 b).2.1 := by decide +kernel
theorem tyX2_ok : ∀ k, k < 0 → parseFieldDescriptor (TX2 k).2.2.1 = some (tyX2 k) := by decide +kernel
def RX3 : String := "UmbrellaSchool$Refusal"
def TX3 : u_T := fun k => match k with
  | _ => ("", "", "", false)
def tyX3 : Nat → FieldType := fun k => match k with
  | _ => .int
theorem nmX3 : ∀ a, a < 0 → ∀ b, b < 0 → a ≠ b → (TX3 a).2.1 ≠ (TX3 b).2.1 := by decide +kernel
theorem tyX3_ok : ∀ k, k < 0 → parseFieldDescriptor (TX3 k).2.2.1 = some (tyX3 k) := by decide +kernel
def RX4 : String := "UmbrellaSchool$Umbrella"
def TX4 : u_T := fun k => match k with
  | 0 => ("UmbrellaSchool$Umbrella", "trialCases", "[I", true)
  | 1 => ("UmbrellaSchool$Umbrella", "trialRewards", "[I", true)
  | 2 => ("UmbrellaSchool$Umbrella", "caseCounts", "[I", true)
  | 3 => ("UmbrellaSchool$Umbrella", "caseSums", "[I", true)
  | 4 => ("UmbrellaSchool$Umbrella", "capacity", "I", false)
  | 5 => ("UmbrellaSchool$Umbrella", "explorePeriod", "I", false)
  | 6 => ("UmbrellaSchool$Umbrella", "trialsMade", "I", false)
  | 7 => ("UmbrellaSchool$Umbrella", "remembered", "I", false)
  | 8 => ("UmbrellaSchool$Umbrella", "rewardInAll", "I", false)
  | 9 => ("UmbrellaSchool$Umbrella", "rewardInTerm", "I", false)
  | 10 => ("UmbrellaSchool$Umbrella", "starsWon", "I", false)
  | _ => ("UmbrellaSchool$Umbrella", "exams", "I", false)
def tyX4 : Nat → FieldType := fun k => match k with
  | 0 => .array .int
  | 1 => .array .int
  | 2 => .array .int
  | 3 => .array .int
  | 4 => .int
  | 5 => .int
  | 6 => .int
  | 7 => .int
  | 8 => .int
  | 9 => .int
  | 10 => .int
  | _ => .int
theorem nmX4 : ∀ a, a < 12 → ∀ b, b < 12 → a ≠ b → (TX4 a).2.1 ≠ (TX4 b).2.1 := by decide +kernel
theorem tyX4_ok : ∀ k, k < 12 → parseFieldDescriptor (TX4 k).2.2.1 = some (tyX4 k) := by decide +kernel
abbrev cX4_init : ByteArray := prog_6_method_1_code
def yX4_init : MethodName := ⟨RX4, "<init>", "()V"⟩
abbrev cX4_copyFrom : ByteArray := prog_6_method_2_code
def yX4_copyFrom : MethodName := ⟨RX4, "copyFrom", "(LUmbrellaSchool$Umbrella;)V"⟩
abbrev cX4_changePeriod : ByteArray := prog_6_method_3_code
def yX4_changePeriod : MethodName := ⟨RX4, "changePeriod", "(I)I"⟩
abbrev cX4_willExplore : ByteArray := prog_6_method_4_code
def yX4_willExplore : MethodName := ⟨RX4, "willExplore", "()Z"⟩
abbrev cX4_opensIn : ByteArray := prog_6_method_5_code
def yX4_opensIn : MethodName := ⟨RX4, "opensIn", "(I)Z"⟩
abbrev cX4_enterTrial : ByteArray := prog_6_method_6_code
def yX4_enterTrial : MethodName := ⟨RX4, "enterTrial", "(II)V"⟩
abbrev cX4_makeRoom : ByteArray := prog_6_method_7_code
def yX4_makeRoom : MethodName := ⟨RX4, "makeRoom", "()V"⟩
abbrev cX4_forgetTrialsIn : ByteArray := prog_6_method_8_code
def yX4_forgetTrialsIn : MethodName := ⟨RX4, "forgetTrialsIn", "(I)I"⟩
abbrev cX4_countCase : ByteArray := prog_6_method_9_code
def yX4_countCase : MethodName := ⟨RX4, "countCase", "(III)V"⟩
abbrev cX4_addUpTrials : ByteArray := prog_6_method_10_code
def yX4_addUpTrials : MethodName := ⟨RX4, "addUpTrials", "(I)I"⟩
abbrev cX4_timesIn : ByteArray := prog_6_method_11_code
def yX4_timesIn : MethodName := ⟨RX4, "timesIn", "(I)I"⟩
abbrev cX4_countKnownSituations : ByteArray := prog_6_method_12_code
def yX4_countKnownSituations : MethodName := ⟨RX4, "countKnownSituations", "()I"⟩
abbrev cX4_situationAtRank : ByteArray := prog_6_method_13_code
def yX4_situationAtRank : MethodName := ⟨RX4, "situationAtRank", "(I)I"⟩
abbrev cX4_situationsBefore : ByteArray := prog_6_method_14_code
def yX4_situationsBefore : MethodName := ⟨RX4, "situationsBefore", "(I)I"⟩
abbrev cX4_noteExam : ByteArray := prog_6_method_15_code
def yX4_noteExam : MethodName := ⟨RX4, "noteExam", "(IZ)V"⟩
abbrev cX4_hasPassed : ByteArray := prog_6_method_16_code
def yX4_hasPassed : MethodName := ⟨RX4, "hasPassed", "(I)Z"⟩
abbrev cX4_sumsAgree : ByteArray := prog_6_method_17_code
def yX4_sumsAgree : MethodName := ⟨RX4, "sumsAgree", "()Z"⟩
abbrev cX4_ranksBefore : ByteArray := prog_6_method_18_code
def yX4_ranksBefore : MethodName := ⟨RX4, "ranksBefore", "(LUmbrellaSchool$Umbrella;)Z"⟩
def RX5 : String := "UmbrellaSchool"
def TX5 : u_T := fun k => match k with
  | 0 => ("UmbrellaSchool", "now", "LUmbrellaSchool$Books;", true)
  | 1 => ("UmbrellaSchool", "snapshot", "LUmbrellaSchool$Books;", true)
  | 2 => ("UmbrellaSchool", "history", "[LUmbrellaSchool$Books;", true)
  | 3 => ("UmbrellaSchool", "script", "Ljava/lang/StringBuilder;", true)
  | 4 => ("UmbrellaSchool", "output", "Ljava/lang/StringBuilder;", true)
  | 5 => ("UmbrellaSchool", "undoable", "I", false)
  | 6 => ("UmbrellaSchool", "hasSnapshot", "Z", false)
  | 7 => ("UmbrellaSchool", "errorAt", "I", false)
  | _ => ("UmbrellaSchool", "failedAt", "I", false)
def tyX5 : Nat → FieldType := fun k => match k with
  | 0 => .object "UmbrellaSchool$Books"
  | 1 => .object "UmbrellaSchool$Books"
  | 2 => .array (.object "UmbrellaSchool$Books")
  | 3 => .object "java/lang/StringBuilder"
  | 4 => .object "java/lang/StringBuilder"
  | 5 => .int
  | 6 => .boolean
  | 7 => .int
  | _ => .int
theorem nmX5 : ∀ a, a < 9 → ∀ b, b < 9 → a ≠ b → (TX5 a).2.1 ≠ (TX5 b).2.1 := by decide +kernel
theorem tyX5_ok : ∀ k, k < 9 → parseFieldDescriptor (TX5 k).2.2.1 = some (tyX5 k) := by decide +kernel
abbrev cX5_init : ByteArray := prog_1_method_1_code
def yX5_init : MethodName := ⟨RX5, "<init>", "()V"⟩
abbrev cX5_addUmbrella : ByteArray := prog_1_method_2_code
def yX5_addUmbrella : MethodName := ⟨RX5, "addUmbrella", "(I)I"⟩
abbrev cX5_train : ByteArray := prog_1_method_3_code
def yX5_train : MethodName := ⟨RX5, "train", "(IIII)I"⟩
abbrev cX5_setPeriod : ByteArray := prog_1_method_4_code
def yX5_setPeriod : MethodName := ⟨RX5, "setPeriod", "(II)I"⟩
abbrev cX5_setWetPenalty : ByteArray := prog_1_method_5_code
def yX5_setWetPenalty : MethodName := ⟨RX5, "setWetPenalty", "(I)I"⟩
abbrev cX5_setGalePenalty : ByteArray := prog_1_method_6_code
def yX5_setGalePenalty : MethodName := ⟨RX5, "setGalePenalty", "(I)I"⟩
abbrev cX5_forgetRain : ByteArray := prog_1_method_7_code
def yX5_forgetRain : MethodName := ⟨RX5, "forgetRain", "(II)I"⟩
abbrev cX5_examine : ByteArray := prog_1_method_8_code
def yX5_examine : MethodName := ⟨RX5, "examine", "(II)I"⟩
abbrev cX5_endTerm : ByteArray := prog_1_method_9_code
def yX5_endTerm : MethodName := ⟨RX5, "endTerm", "()I"⟩
abbrev cX5_umbrellaCount : ByteArray := prog_1_method_10_code
def yX5_umbrellaCount : MethodName := ⟨RX5, "umbrellaCount", "()I"⟩
abbrev cX5_memory : ByteArray := prog_1_method_11_code
def yX5_memory : MethodName := ⟨RX5, "memory", "(I)I"⟩
abbrev cX5_period : ByteArray := prog_1_method_12_code
def yX5_period : MethodName := ⟨RX5, "period", "(I)I"⟩
abbrev cX5_trials : ByteArray := prog_1_method_13_code
def yX5_trials : MethodName := ⟨RX5, "trials", "(I)I"⟩
abbrev cX5_rememberedTrials : ByteArray := prog_1_method_14_code
def yX5_rememberedTrials : MethodName := ⟨RX5, "rememberedTrials", "(I)I"⟩
abbrev cX5_trialRain : ByteArray := prog_1_method_15_code
def yX5_trialRain : MethodName := ⟨RX5, "trialRain", "(II)I"⟩
abbrev cX5_trialOpened : ByteArray := prog_1_method_16_code
def yX5_trialOpened : MethodName := ⟨RX5, "trialOpened", "(II)Z"⟩
abbrev cX5_trialReward : ByteArray := prog_1_method_17_code
def yX5_trialReward : MethodName := ⟨RX5, "trialReward", "(II)I"⟩
abbrev cX5_reward : ByteArray := prog_1_method_18_code
def yX5_reward : MethodName := ⟨RX5, "reward", "(IIZ)I"⟩
abbrev cX5_shouldOpen : ByteArray := prog_1_method_19_code
def yX5_shouldOpen : MethodName := ⟨RX5, "shouldOpen", "(II)Z"⟩
abbrev cX5_wouldOpen : ByteArray := prog_1_method_20_code
def yX5_wouldOpen : MethodName := ⟨RX5, "wouldOpen", "(III)Z"⟩
abbrev cX5_exploresNext : ByteArray := prog_1_method_21_code
def yX5_exploresNext : MethodName := ⟨RX5, "exploresNext", "(I)Z"⟩
abbrev cX5_timesTried : ByteArray := prog_1_method_22_code
def yX5_timesTried : MethodName := ⟨RX5, "timesTried", "(IIIZ)I"⟩
abbrev cX5_rewardSum : ByteArray := prog_1_method_23_code
def yX5_rewardSum : MethodName := ⟨RX5, "rewardSum", "(IIIZ)I"⟩
abbrev cX5_rewardSumByTrials : ByteArray := prog_1_method_24_code
def yX5_rewardSumByTrials : MethodName := ⟨RX5, "rewardSumByTrials", "(IIIZ)I"⟩
abbrev cX5_meanReward : ByteArray := prog_1_method_25_code
def yX5_meanReward : MethodName := ⟨RX5, "meanReward", "(IIIZ)D"⟩
abbrev cX5_rightHabits : ByteArray := prog_1_method_26_code
def yX5_rightHabits : MethodName := ⟨RX5, "rightHabits", "(I)I"⟩
abbrev cX5_knownSituations : ByteArray := prog_1_method_27_code
def yX5_knownSituations : MethodName := ⟨RX5, "knownSituations", "(I)I"⟩
abbrev cX5_situationRain : ByteArray := prog_1_method_28_code
def yX5_situationRain : MethodName := ⟨RX5, "situationRain", "(II)I"⟩
abbrev cX5_situationWind : ByteArray := prog_1_method_29_code
def yX5_situationWind : MethodName := ⟨RX5, "situationWind", "(II)I"⟩
abbrev cX5_hasExam : ByteArray := prog_1_method_30_code
def yX5_hasExam : MethodName := ⟨RX5, "hasExam", "(II)Z"⟩
abbrev cX5_isGraduate : ByteArray := prog_1_method_31_code
def yX5_isGraduate : MethodName := ⟨RX5, "isGraduate", "(I)Z"⟩
abbrev cX5_totalReward : ByteArray := prog_1_method_32_code
def yX5_totalReward : MethodName := ⟨RX5, "totalReward", "(I)I"⟩
abbrev cX5_termReward : ByteArray := prog_1_method_33_code
def yX5_termReward : MethodName := ⟨RX5, "termReward", "(I)I"⟩
abbrev cX5_stars : ByteArray := prog_1_method_34_code
def yX5_stars : MethodName := ⟨RX5, "stars", "(I)I"⟩
abbrev cX5_umbrellaByStars : ByteArray := prog_1_method_35_code
def yX5_umbrellaByStars : MethodName := ⟨RX5, "umbrellaByStars", "(I)I"⟩
abbrev cX5_wetPenalty : ByteArray := prog_1_method_36_code
def yX5_wetPenalty : MethodName := ⟨RX5, "wetPenalty", "()I"⟩
abbrev cX5_galePenalty : ByteArray := prog_1_method_37_code
def yX5_galePenalty : MethodName := ⟨RX5, "galePenalty", "()I"⟩
abbrev cX5_term : ByteArray := prog_1_method_38_code
def yX5_term : MethodName := ⟨RX5, "term", "()I"⟩
abbrev cX5_schoolReward : ByteArray := prog_1_method_39_code
def yX5_schoolReward : MethodName := ⟨RX5, "schoolReward", "()I"⟩
abbrev cX5_schoolRewardByActions : ByteArray := prog_1_method_40_code
def yX5_schoolRewardByActions : MethodName := ⟨RX5, "schoolRewardByActions", "()I"⟩
abbrev cX5_meanSchoolReward : ByteArray := prog_1_method_41_code
def yX5_meanSchoolReward : MethodName := ⟨RX5, "meanSchoolReward", "()D"⟩
abbrev cX5_openShare : ByteArray := prog_1_method_42_code
def yX5_openShare : MethodName := ⟨RX5, "openShare", "()F"⟩
abbrev cX5_isConsistent : ByteArray := prog_1_method_43_code
def yX5_isConsistent : MethodName := ⟨RX5, "isConsistent", "()Z"⟩
abbrev cX5_renderHabits : ByteArray := prog_1_method_44_code
def yX5_renderHabits : MethodName := ⟨RX5, "renderHabits", "(I)I"⟩
abbrev cX5_renderUmbrella : ByteArray := prog_1_method_45_code
def yX5_renderUmbrella : MethodName := ⟨RX5, "renderUmbrella", "(I)I"⟩
abbrev cX5_outputAt : ByteArray := prog_1_method_46_code
def yX5_outputAt : MethodName := ⟨RX5, "outputAt", "(I)C"⟩
abbrev cX5_type : ByteArray := prog_1_method_47_code
def yX5_type : MethodName := ⟨RX5, "type", "(C)I"⟩
abbrev cX5_runScript : ByteArray := prog_1_method_48_code
def yX5_runScript : MethodName := ⟨RX5, "runScript", "()I"⟩
abbrev cX5_errorPosition : ByteArray := prog_1_method_49_code
def yX5_errorPosition : MethodName := ⟨RX5, "errorPosition", "()I"⟩
abbrev cX5_failedCommand : ByteArray := prog_1_method_50_code
def yX5_failedCommand : MethodName := ⟨RX5, "failedCommand", "()I"⟩
abbrev cX5_undo : ByteArray := prog_1_method_51_code
def yX5_undo : MethodName := ⟨RX5, "undo", "()I"⟩
abbrev cX5_save : ByteArray := prog_1_method_52_code
def yX5_save : MethodName := ⟨RX5, "save", "()I"⟩
abbrev cX5_restore : ByteArray := prog_1_method_53_code
def yX5_restore : MethodName := ⟨RX5, "restore", "()I"⟩
abbrev cX5_change : ByteArray := prog_1_method_54_code
def yX5_change : MethodName := ⟨RX5, "change", "(LUmbrellaSchool$Command;IIII)I"⟩
abbrev cX5_refusalOf : ByteArray := prog_1_method_55_code
def yX5_refusalOf : MethodName := ⟨RX5, "refusalOf", "(LUmbrellaSchool$Command;IIII)LUmbrellaSchool$Refusal;"⟩
abbrev cX5_refusalFor : ByteArray := prog_1_method_56_code
def yX5_refusalFor : MethodName := ⟨RX5, "refusalFor", "(IZ)LUmbrellaSchool$Refusal;"⟩
abbrev cX5_raise : ByteArray := prog_1_method_57_code
def yX5_raise : MethodName := ⟨RX5, "raise", "(LUmbrellaSchool$Refusal;)V"⟩
abbrev cX5_perform : ByteArray := prog_1_method_58_code
def yX5_perform : MethodName := ⟨RX5, "perform", "(LUmbrellaSchool$Command;IIII)I"⟩
abbrev cX5_keepForUndo : ByteArray := prog_1_method_59_code
def yX5_keepForUndo : MethodName := ⟨RX5, "keepForUndo", "()V"⟩
abbrev cX5_takeBack : ByteArray := prog_1_method_60_code
def yX5_takeBack : MethodName := ⟨RX5, "takeBack", "()V"⟩
abbrev cX5_countChange : ByteArray := prog_1_method_61_code
def yX5_countChange : MethodName := ⟨RX5, "countChange", "()V"⟩
abbrev cX5_moveOldestToEnd : ByteArray := prog_1_method_62_code
def yX5_moveOldestToEnd : MethodName := ⟨RX5, "moveOldestToEnd", "()V"⟩
abbrev cX5_findFormError : ByteArray := prog_1_method_63_code
def yX5_findFormError : MethodName := ⟨RX5, "findFormError", "()I"⟩
abbrev cX5_countCommands : ByteArray := prog_1_method_64_code
def yX5_countCommands : MethodName := ⟨RX5, "countCommands", "()I"⟩
abbrev cX5_runCommand : ByteArray := prog_1_method_65_code
def yX5_runCommand : MethodName := ⟨RX5, "runCommand", "(I)Z"⟩
abbrev cX5_commandEnd : ByteArray := prog_1_method_66_code
def yX5_commandEnd : MethodName := ⟨RX5, "commandEnd", "(I)I"⟩
abbrev cX5_commandAt : ByteArray := prog_1_method_67_code
def yX5_commandAt : MethodName := ⟨RX5, "commandAt", "(II)LUmbrellaSchool$Command;"⟩
abbrev cX5_longestMatch : ByteArray := prog_1_method_68_code
def yX5_longestMatch : MethodName := ⟨RX5, "longestMatch", "(I)I"⟩
abbrev cX5_matchedLength : ByteArray := prog_1_method_69_code
def yX5_matchedLength : MethodName := ⟨RX5, "matchedLength", "(Ljava/lang/String;I)I"⟩
abbrev cX5_fits : ByteArray := prog_1_method_70_code
def yX5_fits : MethodName := ⟨RX5, "fits", "(CC)Z"⟩
abbrev cX5_digitAt : ByteArray := prog_1_method_71_code
def yX5_digitAt : MethodName := ⟨RX5, "digitAt", "(III)I"⟩
abbrev cX5_isDigit : ByteArray := prog_1_method_72_code
def yX5_isDigit : MethodName := ⟨RX5, "isDigit", "(C)Z"⟩
abbrev cX5_isBetween : ByteArray := prog_1_method_73_code
def yX5_isBetween : MethodName := ⟨RX5, "isBetween", "(III)Z"⟩
abbrev cX5_isLevel : ByteArray := prog_1_method_74_code
def yX5_isLevel : MethodName := ⟨RX5, "isLevel", "(I)Z"⟩
abbrev cX5_requireSituation : ByteArray := prog_1_method_75_code
def yX5_requireSituation : MethodName := ⟨RX5, "requireSituation", "(II)V"⟩
abbrev cX5_trialIndex : ByteArray := prog_1_method_76_code
def yX5_trialIndex : MethodName := ⟨RX5, "trialIndex", "(LUmbrellaSchool$Umbrella;I)I"⟩
abbrev cX5_rankedSituation : ByteArray := prog_1_method_77_code
def yX5_rankedSituation : MethodName := ⟨RX5, "rankedSituation", "(II)I"⟩
abbrev cX5_situationOf : ByteArray := prog_1_method_78_code
def yX5_situationOf : MethodName := ⟨RX5, "situationOf", "(II)I"⟩
abbrev cX5_rainOfSituation : ByteArray := prog_1_method_79_code
def yX5_rainOfSituation : MethodName := ⟨RX5, "rainOfSituation", "(I)I"⟩
abbrev cX5_windOfSituation : ByteArray := prog_1_method_80_code
def yX5_windOfSituation : MethodName := ⟨RX5, "windOfSituation", "(I)I"⟩
abbrev cX5_caseInSituation : ByteArray := prog_1_method_81_code
def yX5_caseInSituation : MethodName := ⟨RX5, "caseInSituation", "(IZ)I"⟩
abbrev cX5_caseOf : ByteArray := prog_1_method_82_code
def yX5_caseOf : MethodName := ⟨RX5, "caseOf", "(IIZ)I"⟩
abbrev cX5_rainOfCase : ByteArray := prog_1_method_83_code
def yX5_rainOfCase : MethodName := ⟨RX5, "rainOfCase", "(I)I"⟩
abbrev cX5_isOpenCase : ByteArray := prog_1_method_84_code
def yX5_isOpenCase : MethodName := ⟨RX5, "isOpenCase", "(I)Z"⟩
abbrev cX5_valueAt : ByteArray := prog_1_method_85_code
def yX5_valueAt : MethodName := ⟨RX5, "valueAt", "([II)I"⟩
abbrev cX5_putAt : ByteArray := prog_1_method_86_code
def yX5_putAt : MethodName := ⟨RX5, "putAt", "([III)V"⟩
abbrev cX5_addAt : ByteArray := prog_1_method_87_code
def yX5_addAt : MethodName := ⟨RX5, "addAt", "([III)V"⟩
abbrev cX5_copyRow : ByteArray := prog_1_method_88_code
def yX5_copyRow : MethodName := ⟨RX5, "copyRow", "([I[I)V"⟩
def RX6 : String := "UmbrellaSchoolModel"
def TX6 : u_T := fun k => match k with
  | 0 => ("UmbrellaSchoolModel", "thrown", "I", false)
  | 1 => ("UmbrellaSchoolModel", "w", "[I", true)
  | 2 => ("UmbrellaSchoolModel", "undos", "[I", true)
  | 3 => ("UmbrellaSchoolModel", "savedRow", "[I", true)
  | 4 => ("UmbrellaSchoolModel", "before", "[I", true)
  | 5 => ("UmbrellaSchoolModel", "changes", "I", false)
  | 6 => ("UmbrellaSchoolModel", "firstChange", "I", false)
  | 7 => ("UmbrellaSchoolModel", "isSaved", "Z", false)
  | 8 => ("UmbrellaSchoolModel", "line", "[C", true)
  | 9 => ("UmbrellaSchoolModel", "lineLength", "I", false)
  | 10 => ("UmbrellaSchoolModel", "text", "[C", true)
  | 11 => ("UmbrellaSchoolModel", "textLength", "I", false)
  | 12 => ("UmbrellaSchoolModel", "textAt", "I", false)
  | 13 => ("UmbrellaSchoolModel", "errorAt", "I", false)
  | 14 => ("UmbrellaSchoolModel", "failedAt", "I", false)
  | 15 => ("UmbrellaSchoolModel", "numbers", "[I", true)
  | 16 => ("UmbrellaSchoolModel", "sort", "I", false)
  | _ => ("UmbrellaSchoolModel", "done", "I", false)
def tyX6 : Nat → FieldType := fun k => match k with
  | 0 => .int
  | 1 => .array .int
  | 2 => .array .int
  | 3 => .array .int
  | 4 => .array .int
  | 5 => .int
  | 6 => .int
  | 7 => .boolean
  | 8 => .array .char
  | 9 => .int
  | 10 => .array .char
  | 11 => .int
  | 12 => .int
  | 13 => .int
  | 14 => .int
  | 15 => .array .int
  | 16 => .int
  | _ => .int
theorem nmX6 : ∀ a, a < 18 → ∀ b, b < 18 → a ≠ b → (TX6 a).2.1 ≠ (TX6 b).2.1 := by decide +kernel
theorem tyX6_ok : ∀ k, k < 18 → parseFieldDescriptor (TX6 k).2.2.1 = some (tyX6 k) := by decide +kernel
abbrev cX6_thrown : ByteArray := prog_8_method_1_code
def yX6_thrown : MethodName := ⟨RX6, "thrown", "()I"⟩
abbrev cX6_fails : ByteArray := prog_8_method_2_code
def yX6_fails : MethodName := ⟨RX6, "fails", "(I)I"⟩
abbrev cX6_isBetween : ByteArray := prog_8_method_3_code
def yX6_isBetween : MethodName := ⟨RX6, "isBetween", "(III)Z"⟩
abbrev cX6_init : ByteArray := prog_8_method_4_code
def yX6_init : MethodName := ⟨RX6, "<init>", "()V"⟩
abbrev cX6_copies : ByteArray := prog_8_method_5_code
def yX6_copies : MethodName := ⟨RX6, "copies", "()V"⟩
abbrev cX6_goesBack : ByteArray := prog_8_method_6_code
def yX6_goesBack : MethodName := ⟨RX6, "goesBack", "()V"⟩
abbrev cX6_keeps : ByteArray := prog_8_method_7_code
def yX6_keeps : MethodName := ⟨RX6, "keeps", "()V"⟩
abbrev cX6_remembers : ByteArray := prog_8_method_8_code
def yX6_remembers : MethodName := ⟨RX6, "remembers", "()V"⟩
abbrev cX6_isUmbrella : ByteArray := prog_8_method_9_code
def yX6_isUmbrella : MethodName := ⟨RX6, "isUmbrella", "(I)Z"⟩
abbrev cX6_of : ByteArray := prog_8_method_10_code
def yX6_of : MethodName := ⟨RX6, "of", "(II)I"⟩
abbrev cX6_puts : ByteArray := prog_8_method_11_code
def yX6_puts : MethodName := ⟨RX6, "puts", "(III)V"⟩
abbrev cX6_adds : ByteArray := prog_8_method_12_code
def yX6_adds : MethodName := ⟨RX6, "adds", "(III)V"⟩
abbrev cX6_trialOf : ByteArray := prog_8_method_13_code
def yX6_trialOf : MethodName := ⟨RX6, "trialOf", "(IIII)I"⟩
abbrev cX6_rainOf : ByteArray := prog_8_method_14_code
def yX6_rainOf : MethodName := ⟨RX6, "rainOf", "(I)I"⟩
abbrev cX6_rewardOf : ByteArray := prog_8_method_15_code
def yX6_rewardOf : MethodName := ⟨RX6, "rewardOf", "(I)I"⟩
abbrev cX6_isSituation : ByteArray := prog_8_method_16_code
def yX6_isSituation : MethodName := ⟨RX6, "isSituation", "(II)Z"⟩
abbrev cX6_rewardNow : ByteArray := prog_8_method_17_code
def yX6_rewardNow : MethodName := ⟨RX6, "rewardNow", "(III)I"⟩
abbrev cX6_isRightToOpen : ByteArray := prog_8_method_18_code
def yX6_isRightToOpen : MethodName := ⟨RX6, "isRightToOpen", "(II)Z"⟩
abbrev cX6_triedTimes : ByteArray := prog_8_method_19_code
def yX6_triedTimes : MethodName := ⟨RX6, "triedTimes", "(IIII)I"⟩
abbrev cX6_sumOf : ByteArray := prog_8_method_20_code
def yX6_sumOf : MethodName := ⟨RX6, "sumOf", "(IIII)I"⟩
abbrev cX6_habit : ByteArray := prog_8_method_21_code
def yX6_habit : MethodName := ⟨RX6, "habit", "(III)I"⟩
abbrev cX6_notAdd : ByteArray := prog_8_method_22_code
def yX6_notAdd : MethodName := ⟨RX6, "notAdd", "(I)I"⟩
abbrev cX6_addsUmbrella : ByteArray := prog_8_method_23_code
def yX6_addsUmbrella : MethodName := ⟨RX6, "addsUmbrella", "(I)I"⟩
abbrev cX6_addUmbrella : ByteArray := prog_8_method_24_code
def yX6_addUmbrella : MethodName := ⟨RX6, "addUmbrella", "(I)I"⟩
abbrev cX6_explores : ByteArray := prog_8_method_25_code
def yX6_explores : MethodName := ⟨RX6, "explores", "(I)Z"⟩
abbrev cX6_learns : ByteArray := prog_8_method_26_code
def yX6_learns : MethodName := ⟨RX6, "learns", "(II)V"⟩
abbrev cX6_tries : ByteArray := prog_8_method_27_code
def yX6_tries : MethodName := ⟨RX6, "tries", "(III)I"⟩
abbrev cX6_notTrain : ByteArray := prog_8_method_28_code
def yX6_notTrain : MethodName := ⟨RX6, "notTrain", "(IIII)I"⟩
abbrev cX6_trains : ByteArray := prog_8_method_29_code
def yX6_trains : MethodName := ⟨RX6, "trains", "(IIII)I"⟩
abbrev cX6_train : ByteArray := prog_8_method_30_code
def yX6_train : MethodName := ⟨RX6, "train", "(IIII)I"⟩
abbrev cX6_notPeriod : ByteArray := prog_8_method_31_code
def yX6_notPeriod : MethodName := ⟨RX6, "notPeriod", "(II)I"⟩
abbrev cX6_setsPeriod : ByteArray := prog_8_method_32_code
def yX6_setsPeriod : MethodName := ⟨RX6, "setsPeriod", "(II)I"⟩
abbrev cX6_setPeriod : ByteArray := prog_8_method_33_code
def yX6_setPeriod : MethodName := ⟨RX6, "setPeriod", "(II)I"⟩
abbrev cX6_notPenalty : ByteArray := prog_8_method_34_code
def yX6_notPenalty : MethodName := ⟨RX6, "notPenalty", "(I)I"⟩
abbrev cX6_sets : ByteArray := prog_8_method_35_code
def yX6_sets : MethodName := ⟨RX6, "sets", "(II)I"⟩
abbrev cX6_setsChecked : ByteArray := prog_8_method_36_code
def yX6_setsChecked : MethodName := ⟨RX6, "setsChecked", "(II)I"⟩
abbrev cX6_setWetPenalty : ByteArray := prog_8_method_37_code
def yX6_setWetPenalty : MethodName := ⟨RX6, "setWetPenalty", "(I)I"⟩
abbrev cX6_setGalePenalty : ByteArray := prog_8_method_38_code
def yX6_setGalePenalty : MethodName := ⟨RX6, "setGalePenalty", "(I)I"⟩
abbrev cX6_notOne : ByteArray := prog_8_method_39_code
def yX6_notOne : MethodName := ⟨RX6, "notOne", "(II)I"⟩
abbrev cX6_forgets : ByteArray := prog_8_method_40_code
def yX6_forgets : MethodName := ⟨RX6, "forgets", "(II)I"⟩
abbrev cX6_forgetRain : ByteArray := prog_8_method_41_code
def yX6_forgetRain : MethodName := ⟨RX6, "forgetRain", "(II)I"⟩
abbrev cX6_isRight : ByteArray := prog_8_method_42_code
def yX6_isRight : MethodName := ⟨RX6, "isRight", "(III)Z"⟩
abbrev cX6_hasExamOf : ByteArray := prog_8_method_43_code
def yX6_hasExamOf : MethodName := ⟨RX6, "hasExamOf", "(II)Z"⟩
abbrev cX6_examines : ByteArray := prog_8_method_44_code
def yX6_examines : MethodName := ⟨RX6, "examines", "(II)I"⟩
abbrev cX6_examine : ByteArray := prog_8_method_45_code
def yX6_examine : MethodName := ⟨RX6, "examine", "(II)I"⟩
abbrev cX6_notEnd : ByteArray := prog_8_method_46_code
def yX6_notEnd : MethodName := ⟨RX6, "notEnd", "()I"⟩
abbrev cX6_endsTerm : ByteArray := prog_8_method_47_code
def yX6_endsTerm : MethodName := ⟨RX6, "endsTerm", "()I"⟩
abbrev cX6_endTerm : ByteArray := prog_8_method_48_code
def yX6_endTerm : MethodName := ⟨RX6, "endTerm", "()I"⟩
abbrev cX6_asks : ByteArray := prog_8_method_49_code
def yX6_asks : MethodName := ⟨RX6, "asks", "(I)I"⟩
abbrev cX6_umbrellaCount : ByteArray := prog_8_method_50_code
def yX6_umbrellaCount : MethodName := ⟨RX6, "umbrellaCount", "()I"⟩
abbrev cX6_asksUmbrella : ByteArray := prog_8_method_51_code
def yX6_asksUmbrella : MethodName := ⟨RX6, "asksUmbrella", "(II)I"⟩
abbrev cX6_memory : ByteArray := prog_8_method_52_code
def yX6_memory : MethodName := ⟨RX6, "memory", "(I)I"⟩
abbrev cX6_period : ByteArray := prog_8_method_53_code
def yX6_period : MethodName := ⟨RX6, "period", "(I)I"⟩
abbrev cX6_trials : ByteArray := prog_8_method_54_code
def yX6_trials : MethodName := ⟨RX6, "trials", "(I)I"⟩
abbrev cX6_rememberedTrials : ByteArray := prog_8_method_55_code
def yX6_rememberedTrials : MethodName := ⟨RX6, "rememberedTrials", "(I)I"⟩
abbrev cX6_trialAt : ByteArray := prog_8_method_56_code
def yX6_trialAt : MethodName := ⟨RX6, "trialAt", "(II)I"⟩
abbrev cX6_trialRain : ByteArray := prog_8_method_57_code
def yX6_trialRain : MethodName := ⟨RX6, "trialRain", "(II)I"⟩
abbrev cX6_trialOpened : ByteArray := prog_8_method_58_code
def yX6_trialOpened : MethodName := ⟨RX6, "trialOpened", "(II)Z"⟩
abbrev cX6_trialReward : ByteArray := prog_8_method_59_code
def yX6_trialReward : MethodName := ⟨RX6, "trialReward", "(II)I"⟩
abbrev cX6_reward : ByteArray := prog_8_method_60_code
def yX6_reward : MethodName := ⟨RX6, "reward", "(IIZ)I"⟩
abbrev cX6_shouldOpen : ByteArray := prog_8_method_61_code
def yX6_shouldOpen : MethodName := ⟨RX6, "shouldOpen", "(II)Z"⟩
abbrev cX6_notAsk : ByteArray := prog_8_method_62_code
def yX6_notAsk : MethodName := ⟨RX6, "notAsk", "(III)I"⟩
abbrev cX6_wouldOpen : ByteArray := prog_8_method_63_code
def yX6_wouldOpen : MethodName := ⟨RX6, "wouldOpen", "(III)Z"⟩
abbrev cX6_exploresNext : ByteArray := prog_8_method_64_code
def yX6_exploresNext : MethodName := ⟨RX6, "exploresNext", "(I)Z"⟩
abbrev cX6_timesTried : ByteArray := prog_8_method_65_code
def yX6_timesTried : MethodName := ⟨RX6, "timesTried", "(IIIZ)I"⟩
abbrev cX6_rewardSum : ByteArray := prog_8_method_66_code
def yX6_rewardSum : MethodName := ⟨RX6, "rewardSum", "(IIIZ)I"⟩
abbrev cX6_rewardSumByTrials : ByteArray := prog_8_method_67_code
def yX6_rewardSumByTrials : MethodName := ⟨RX6, "rewardSumByTrials", "(IIIZ)I"⟩
abbrev cX6_meanReward : ByteArray := prog_8_method_68_code
def yX6_meanReward : MethodName := ⟨RX6, "meanReward", "(IIIZ)D"⟩
abbrev cX6_rightHabits : ByteArray := prog_8_method_69_code
def yX6_rightHabits : MethodName := ⟨RX6, "rightHabits", "(I)I"⟩
abbrev cX6_trialsIn : ByteArray := prog_8_method_70_code
def yX6_trialsIn : MethodName := ⟨RX6, "trialsIn", "(II)I"⟩
abbrev cX6_knownSituations : ByteArray := prog_8_method_71_code
def yX6_knownSituations : MethodName := ⟨RX6, "knownSituations", "(I)I"⟩
abbrev cX6_situationAt : ByteArray := prog_8_method_72_code
def yX6_situationAt : MethodName := ⟨RX6, "situationAt", "(II)I"⟩
abbrev cX6_situationRain : ByteArray := prog_8_method_73_code
def yX6_situationRain : MethodName := ⟨RX6, "situationRain", "(II)I"⟩
abbrev cX6_situationWind : ByteArray := prog_8_method_74_code
def yX6_situationWind : MethodName := ⟨RX6, "situationWind", "(II)I"⟩
abbrev cX6_hasExam : ByteArray := prog_8_method_75_code
def yX6_hasExam : MethodName := ⟨RX6, "hasExam", "(II)Z"⟩
abbrev cX6_isGraduate : ByteArray := prog_8_method_76_code
def yX6_isGraduate : MethodName := ⟨RX6, "isGraduate", "(I)Z"⟩
abbrev cX6_totalReward : ByteArray := prog_8_method_77_code
def yX6_totalReward : MethodName := ⟨RX6, "totalReward", "(I)I"⟩
abbrev cX6_termReward : ByteArray := prog_8_method_78_code
def yX6_termReward : MethodName := ⟨RX6, "termReward", "(I)I"⟩
abbrev cX6_stars : ByteArray := prog_8_method_79_code
def yX6_stars : MethodName := ⟨RX6, "stars", "(I)I"⟩
abbrev cX6_isAhead : ByteArray := prog_8_method_80_code
def yX6_isAhead : MethodName := ⟨RX6, "isAhead", "(II)Z"⟩
abbrev cX6_umbrellaByStars : ByteArray := prog_8_method_81_code
def yX6_umbrellaByStars : MethodName := ⟨RX6, "umbrellaByStars", "(I)I"⟩
abbrev cX6_wetPenalty : ByteArray := prog_8_method_82_code
def yX6_wetPenalty : MethodName := ⟨RX6, "wetPenalty", "()I"⟩
abbrev cX6_galePenalty : ByteArray := prog_8_method_83_code
def yX6_galePenalty : MethodName := ⟨RX6, "galePenalty", "()I"⟩
abbrev cX6_term : ByteArray := prog_8_method_84_code
def yX6_term : MethodName := ⟨RX6, "term", "()I"⟩
abbrev cX6_rewardAll : ByteArray := prog_8_method_85_code
def yX6_rewardAll : MethodName := ⟨RX6, "rewardAll", "()I"⟩
abbrev cX6_schoolReward : ByteArray := prog_8_method_86_code
def yX6_schoolReward : MethodName := ⟨RX6, "schoolReward", "()I"⟩
abbrev cX6_schoolRewardByActions : ByteArray := prog_8_method_87_code
def yX6_schoolRewardByActions : MethodName := ⟨RX6, "schoolRewardByActions", "()I"⟩
abbrev cX6_meanSchoolReward : ByteArray := prog_8_method_88_code
def yX6_meanSchoolReward : MethodName := ⟨RX6, "meanSchoolReward", "()D"⟩
abbrev cX6_openShare : ByteArray := prog_8_method_89_code
def yX6_openShare : MethodName := ⟨RX6, "openShare", "()F"⟩
abbrev cX6_isConsistent : ByteArray := prog_8_method_90_code
def yX6_isConsistent : MethodName := ⟨RX6, "isConsistent", "()Z"⟩
abbrev cX6_writes : ByteArray := prog_8_method_91_code
def yX6_writes : MethodName := ⟨RX6, "writes", "(I)V"⟩
abbrev cX6_writesNumber : ByteArray := prog_8_method_92_code
def yX6_writesNumber : MethodName := ⟨RX6, "writesNumber", "(I)V"⟩
abbrev cX6_renderHabits : ByteArray := prog_8_method_93_code
def yX6_renderHabits : MethodName := ⟨RX6, "renderHabits", "(I)I"⟩
abbrev cX6_renderUmbrella : ByteArray := prog_8_method_94_code
def yX6_renderUmbrella : MethodName := ⟨RX6, "renderUmbrella", "(I)I"⟩
abbrev cX6_outputAt : ByteArray := prog_8_method_95_code
def yX6_outputAt : MethodName := ⟨RX6, "outputAt", "(I)C"⟩
abbrev cX6_type : ByteArray := prog_8_method_96_code
def yX6_type : MethodName := ⟨RX6, "type", "(C)I"⟩
abbrev cX6_nextChar : ByteArray := prog_8_method_97_code
def yX6_nextChar : MethodName := ⟨RX6, "nextChar", "()I"⟩
abbrev cX6_reads : ByteArray := prog_8_method_98_code
def yX6_reads : MethodName := ⟨RX6, "reads", "(I)Z"⟩
abbrev cX6_readsDigit : ByteArray := prog_8_method_99_code
def yX6_readsDigit : MethodName := ⟨RX6, "readsDigit", "(I)Z"⟩
abbrev cX6_readsNumber : ByteArray := prog_8_method_100_code
def yX6_readsNumber : MethodName := ⟨RX6, "readsNumber", "(I)Z"⟩
abbrev cX6_readsTwo : ByteArray := prog_8_method_101_code
def yX6_readsTwo : MethodName := ⟨RX6, "readsTwo", "()Z"⟩
abbrev cX6_readsTrain : ByteArray := prog_8_method_102_code
def yX6_readsTrain : MethodName := ⟨RX6, "readsTrain", "()Z"⟩
abbrev cX6_readsT : ByteArray := prog_8_method_103_code
def yX6_readsT : MethodName := ⟨RX6, "readsT", "()Z"⟩
abbrev cX6_readsCommand : ByteArray := prog_8_method_104_code
def yX6_readsCommand : MethodName := ⟨RX6, "readsCommand", "()Z"⟩
abbrev cX6_readsAll : ByteArray := prog_8_method_105_code
def yX6_readsAll : MethodName := ⟨RX6, "readsAll", "()Z"⟩
abbrev cX6_notNow : ByteArray := prog_8_method_106_code
def yX6_notNow : MethodName := ⟨RX6, "notNow", "()I"⟩
abbrev cX6_doesNow : ByteArray := prog_8_method_107_code
def yX6_doesNow : MethodName := ⟨RX6, "doesNow", "()I"⟩
abbrev cX6_doesAll : ByteArray := prog_8_method_108_code
def yX6_doesAll : MethodName := ⟨RX6, "doesAll", "()Z"⟩
abbrev cX6_runScript : ByteArray := prog_8_method_109_code
def yX6_runScript : MethodName := ⟨RX6, "runScript", "()I"⟩
abbrev cX6_errorPosition : ByteArray := prog_8_method_110_code
def yX6_errorPosition : MethodName := ⟨RX6, "errorPosition", "()I"⟩
abbrev cX6_failedCommand : ByteArray := prog_8_method_111_code
def yX6_failedCommand : MethodName := ⟨RX6, "failedCommand", "()I"⟩
abbrev cX6_undo : ByteArray := prog_8_method_112_code
def yX6_undo : MethodName := ⟨RX6, "undo", "()I"⟩
abbrev cX6_save : ByteArray := prog_8_method_113_code
def yX6_save : MethodName := ⟨RX6, "save", "()I"⟩
abbrev cX6_restore : ByteArray := prog_8_method_114_code
def yX6_restore : MethodName := ⟨RX6, "restore", "()I"⟩
def RJx145de : String := "java/io/Serializable"
def TJx145de : u_T := fun k => match k with
  | _ => ("", "", "", false)
def tyJx145de : Nat → FieldType := fun k => match k with
  | _ => .int
theorem nmJx145de : ∀ a, a < 0 → ∀ b, b < 0 → a ≠ b → (TJx145de a).2.1 ≠ (TJx145de b).2.1 := by decide +kernel
theorem tyJx145de_ok : ∀ k, k < 0 → parseFieldDescriptor (TJx145de k).2.2.1 = some (tyJx145de k) := by decide +kernel
def RJ5 : String := "java/lang/AbstractStringBuilder"
def TJ5 : u_T := fun k => match k with
  | _ => ("", "", "", false)
def tyJ5 : Nat → FieldType := fun k => match k with
  | _ => .int
theorem nmJ5 : ∀ a, a < 0 → ∀ b, b < 0 → a ≠ b → (TJ5 a).2.1 ≠ (TJ5 b).2.1 := by decide +kernel
theorem tyJ5_ok : ∀ k, k < 0 → parseFieldDescriptor (TJ5 k).2.2.1 = some (tyJ5 k) := by decide +kernel
abbrev cJ5_init_d00df : ByteArray := prog_10_method_2_code
def yJ5_init_d00df : MethodName := ⟨RJ5, "<init>", "(I)V"⟩
abbrev cJ5_length_8abf5 : ByteArray := prog_10_method_6_code
def yJ5_length_8abf5 : MethodName := ⟨RJ5, "length", "()I"⟩
abbrev cJ5_ensureCapacityInternal_d00df : ByteArray := prog_10_method_9_code
def yJ5_ensureCapacityInternal_d00df : MethodName := ⟨RJ5, "ensureCapacityInternal", "(I)V"⟩
abbrev cJ5_newCapacity_0f7a4 : ByteArray := prog_10_method_10_code
def yJ5_newCapacity_0f7a4 : MethodName := ⟨RJ5, "newCapacity", "(I)I"⟩
abbrev cJ5_inflate_da8c8 : ByteArray := prog_10_method_11_code
def yJ5_inflate_da8c8 : MethodName := ⟨RJ5, "inflate", "()V"⟩
abbrev cJ5_setLength_d00df : ByteArray := prog_10_method_13_code
def yJ5_setLength_d00df : MethodName := ⟨RJ5, "setLength", "(I)V"⟩
abbrev cJ5_charAt_5068e : ByteArray := prog_10_method_14_code
def yJ5_charAt_5068e : MethodName := ⟨RJ5, "charAt", "(I)C"⟩
abbrev cJ5_append_cf1ce : ByteArray := prog_10_method_22_code
def yJ5_append_cf1ce : MethodName := ⟨RJ5, "append", "(Ljava/lang/String;)Ljava/lang/AbstractStringBuilder;"⟩
abbrev cJ5_appendNull_278bc : ByteArray := prog_10_method_26_code
def yJ5_appendNull_278bc : MethodName := ⟨RJ5, "appendNull", "()Ljava/lang/AbstractStringBuilder;"⟩
abbrev cJ5_append_3fe6f : ByteArray := prog_10_method_31_code
def yJ5_append_3fe6f : MethodName := ⟨RJ5, "append", "(C)Ljava/lang/AbstractStringBuilder;"⟩
abbrev cJ5_append_c97b9 : ByteArray := prog_10_method_32_code
def yJ5_append_c97b9 : MethodName := ⟨RJ5, "append", "(I)Ljava/lang/AbstractStringBuilder;"⟩
abbrev cJ5_getValue_6d5f1 : ByteArray := prog_10_method_64_code
def yJ5_getValue_6d5f1 : MethodName := ⟨RJ5, "getValue", "()[B"⟩
abbrev cJ5_isLatin1_aae02 : ByteArray := prog_10_method_68_code
def yJ5_isLatin1_aae02 : MethodName := ⟨RJ5, "isLatin1", "()Z"⟩
abbrev cJ5_inflateIfNeededFor_a7421 : ByteArray := prog_10_method_71_code
def yJ5_inflateIfNeededFor_a7421 : MethodName := ⟨RJ5, "inflateIfNeededFor", "(Ljava/lang/String;)V"⟩
abbrev cJ5_putStringAt_47b60 : ByteArray := prog_10_method_73_code
def yJ5_putStringAt_47b60 : MethodName := ⟨RJ5, "putStringAt", "(ILjava/lang/String;)V"⟩
def RJx2cfe8 : String := "java/lang/Appendable"
def TJx2cfe8 : u_T := fun k => match k with
  | _ => ("", "", "", false)
def tyJx2cfe8 : Nat → FieldType := fun k => match k with
  | _ => .int
theorem nmJx2cfe8 : ∀ a, a < 0 → ∀ b, b < 0 → a ≠ b → (TJx2cfe8 a).2.1 ≠ (TJx2cfe8 b).2.1 := by decide +kernel
theorem tyJx2cfe8_ok : ∀ k, k < 0 → parseFieldDescriptor (TJx2cfe8 k).2.2.1 = some (tyJx2cfe8 k) := by decide +kernel
def RJx00060 : String := "java/lang/ArrayIndexOutOfBoundsException"
def TJx00060 : u_T := fun k => match k with
  | 0 => ("java/lang/Throwable", "backtrace", "Ljava/lang/Object;", false)
  | 1 => ("java/lang/Throwable", "detailMessage", "Ljava/lang/String;", false)
  | 2 => ("java/lang/Throwable", "cause", "Ljava/lang/Throwable;", false)
  | 3 => ("java/lang/Throwable", "stackTrace", "[Ljava/lang/StackTraceElement;", false)
  | 4 => ("java/lang/Throwable", "depth", "I", false)
  | _ => ("java/lang/Throwable", "suppressedExceptions", "Ljava/util/List;", false)
def tyJx00060 : Nat → FieldType := fun k => match k with
  | 0 => .object "java/lang/Object"
  | 1 => .object "java/lang/String"
  | 2 => .object "java/lang/Throwable"
  | 3 => .array (.object "java/lang/StackTraceElement")
  | 4 => .int
  | _ => .object "java/util/List"
theorem nmJx00060 : ∀ a, a < 6 → ∀ b, b < 6 → a ≠ b → (TJx00060 a).2.1 ≠ (TJx00060 b).2.1 := by decide +kernel
theorem tyJx00060_ok : ∀ k, k < 6 → parseFieldDescriptor (TJx00060 k).2.2.1 = some (tyJx00060 k) := by decide +kernel
abbrev cJx00060_init_a7421 : ByteArray := prog_13_method_2_code
def yJx00060_init_a7421 : MethodName := ⟨RJx00060, "<init>", "(Ljava/lang/String;)V"⟩
abbrev cJx00060_init_d00df : ByteArray := prog_13_method_3_code
def yJx00060_init_d00df : MethodName := ⟨RJx00060, "<init>", "(I)V"⟩
def RJx9f9b0 : String := "java/lang/CharSequence"
def TJx9f9b0 : u_T := fun k => match k with
  | _ => ("", "", "", false)
def tyJx9f9b0 : Nat → FieldType := fun k => match k with
  | _ => .int
theorem nmJx9f9b0 : ∀ a, a < 0 → ∀ b, b < 0 → a ≠ b → (TJx9f9b0 a).2.1 ≠ (TJx9f9b0 b).2.1 := by decide +kernel
theorem tyJx9f9b0_ok : ∀ k, k < 0 → parseFieldDescriptor (TJx9f9b0 k).2.2.1 = some (tyJx9f9b0 k) := by decide +kernel
def RJx8e188 : String := "java/lang/Cloneable"
def TJx8e188 : u_T := fun k => match k with
  | _ => ("", "", "", false)
def tyJx8e188 : Nat → FieldType := fun k => match k with
  | _ => .int
theorem nmJx8e188 : ∀ a, a < 0 → ∀ b, b < 0 → a ≠ b → (TJx8e188 a).2.1 ≠ (TJx8e188 b).2.1 := by decide +kernel
theorem tyJx8e188_ok : ∀ k, k < 0 → parseFieldDescriptor (TJx8e188 k).2.2.1 = some (tyJx8e188 k) := by decide +kernel
def RJxb160c : String := "java/lang/Comparable"
def TJxb160c : u_T := fun k => match k with
  | _ => ("", "", "", false)
def tyJxb160c : Nat → FieldType := fun k => match k with
  | _ => .int
theorem nmJxb160c : ∀ a, a < 0 → ∀ b, b < 0 → a ≠ b → (TJxb160c a).2.1 ≠ (TJxb160c b).2.1 := by decide +kernel
theorem tyJxb160c_ok : ∀ k, k < 0 → parseFieldDescriptor (TJxb160c k).2.2.1 = some (tyJxb160c k) := by decide +kernel
def RJx29ce0 : String := "java/lang/Enum"
def TJx29ce0 : u_T := fun k => match k with
  | _ => ("", "", "", false)
def tyJx29ce0 : Nat → FieldType := fun k => match k with
  | _ => .int
theorem nmJx29ce0 : ∀ a, a < 0 → ∀ b, b < 0 → a ≠ b → (TJx29ce0 a).2.1 ≠ (TJx29ce0 b).2.1 := by decide +kernel
theorem tyJx29ce0_ok : ∀ k, k < 0 → parseFieldDescriptor (TJx29ce0 k).2.2.1 = some (tyJx29ce0 k) := by decide +kernel
abbrev cJx29ce0_ordinal_8abf5 : ByteArray := prog_17_method_2_code
def yJx29ce0_ordinal_8abf5 : MethodName := ⟨RJx29ce0, "ordinal", "()I"⟩
def RJ6 : String := "java/lang/Integer"
def TJ6 : u_T := fun k => match k with
  | _ => ("", "", "", false)
def tyJ6 : Nat → FieldType := fun k => match k with
  | _ => .int
theorem nmJ6 : ∀ a, a < 0 → ∀ b, b < 0 → a ≠ b → (TJ6 a).2.1 ≠ (TJ6 b).2.1 := by decide +kernel
theorem tyJ6_ok : ∀ k, k < 0 → parseFieldDescriptor (TJ6 k).2.2.1 = some (tyJ6 k) := by decide +kernel
abbrev cJ6_getChars_ba4f3 : ByteArray := prog_22_method_12_code
def yJ6_getChars_ba4f3 : MethodName := ⟨RJ6, "getChars", "(II[B)I"⟩
abbrev cJ6_stringSize_0f7a4 : ByteArray := prog_22_method_13_code
def yJ6_stringSize_0f7a4 : MethodName := ⟨RJ6, "stringSize", "(I)I"⟩
def RJ9 : String := "java/lang/Math"
def TJ9 : u_T := fun k => match k with
  | _ => ("", "", "", false)
def tyJ9 : Nat → FieldType := fun k => match k with
  | _ => .int
theorem nmJ9 : ∀ a, a < 0 → ∀ b, b < 0 → a ≠ b → (TJ9 a).2.1 ≠ (TJ9 b).2.1 := by decide +kernel
theorem tyJ9_ok : ∀ k, k < 0 → parseFieldDescriptor (TJ9 k).2.2.1 = some (tyJ9 k) := by decide +kernel
abbrev cJ9_max_7cf53 : ByteArray := prog_23_method_65_code
def yJ9_max_7cf53 : MethodName := ⟨RJ9, "max", "(II)I"⟩
abbrev cJ9_min_7cf53 : ByteArray := prog_23_method_69_code
def yJ9_min_7cf53 : MethodName := ⟨RJ9, "min", "(II)I"⟩
def RJxd2413 : String := "java/lang/Number"
def TJxd2413 : u_T := fun k => match k with
  | _ => ("", "", "", false)
def tyJxd2413 : Nat → FieldType := fun k => match k with
  | _ => .int
theorem nmJxd2413 : ∀ a, a < 0 → ∀ b, b < 0 → a ≠ b → (TJxd2413 a).2.1 ≠ (TJxd2413 b).2.1 := by decide +kernel
theorem tyJxd2413_ok : ∀ k, k < 0 → parseFieldDescriptor (TJxd2413 k).2.2.1 = some (tyJxd2413 k) := by decide +kernel
def RJ0 : String := "java/lang/String"
def TJ0 : u_T := fun k => match k with
  | 0 => ("java/lang/String", "value", "[B", true)
  | 1 => ("java/lang/String", "coder", "B", true)
  | 2 => ("java/lang/String", "hash", "I", false)
  | _ => ("java/lang/String", "hashIsZero", "Z", false)
def tyJ0 : Nat → FieldType := fun k => match k with
  | 0 => .array .byte
  | 1 => .byte
  | 2 => .int
  | _ => .boolean
theorem nmJ0 : ∀ a, a < 4 → ∀ b, b < 4 → a ≠ b → (TJ0 a).2.1 ≠ (TJ0 b).2.1 := by decide +kernel
theorem tyJ0_ok : ∀ k, k < 4 → parseFieldDescriptor (TJ0 k).2.2.1 = some (tyJ0 k) := by decide +kernel
abbrev cJ0_init_81219 : ByteArray := prog_26_method_53_code
def yJ0_init_81219 : MethodName := ⟨RJ0, "<init>", "(Ljava/lang/StringBuilder;)V"⟩
abbrev cJ0_length_8abf5 : ByteArray := prog_26_method_54_code
def yJ0_length_8abf5 : MethodName := ⟨RJ0, "length", "()I"⟩
abbrev cJ0_charAt_5068e : ByteArray := prog_26_method_56_code
def yJ0_charAt_5068e : MethodName := ⟨RJ0, "charAt", "(I)C"⟩
abbrev cJ0_getBytes_840e7 : ByteArray := prog_26_method_147_code
def yJ0_getBytes_840e7 : MethodName := ⟨RJ0, "getBytes", "([BIB)V"⟩
abbrev cJ0_init_db425 : ByteArray := prog_26_method_150_code
def yJ0_init_db425 : MethodName := ⟨RJ0, "<init>", "(Ljava/lang/AbstractStringBuilder;Ljava/lang/Void;)V"⟩
abbrev cJ0_coder_7d493 : ByteArray := prog_26_method_152_code
def yJ0_coder_7d493 : MethodName := ⟨RJ0, "coder", "()B"⟩
abbrev cJ0_isLatin1_aae02 : ByteArray := prog_26_method_154_code
def yJ0_isLatin1_aae02 : MethodName := ⟨RJ0, "isLatin1", "()Z"⟩
abbrev cJ0_checkIndex_df160 : ByteArray := prog_26_method_155_code
def yJ0_checkIndex_df160 : MethodName := ⟨RJ0, "checkIndex", "(II)V"⟩
abbrev cJ0_checkBoundsOffCount_cabcc : ByteArray := prog_26_method_157_code
def yJ0_checkBoundsOffCount_cabcc : MethodName := ⟨RJ0, "checkBoundsOffCount", "(III)I"⟩
abbrev cJ0_checkBoundsBeginEnd_23922 : ByteArray := prog_26_method_158_code
def yJ0_checkBoundsBeginEnd_23922 : MethodName := ⟨RJ0, "checkBoundsBeginEnd", "(III)V"⟩
def RJ4 : String := "java/lang/StringBuilder"
def TJ4 : u_T := fun k => match k with
  | 0 => ("java/lang/AbstractStringBuilder", "value", "[B", false)
  | 1 => ("java/lang/AbstractStringBuilder", "coder", "B", false)
  | 2 => ("java/lang/AbstractStringBuilder", "maybeLatin1", "Z", false)
  | _ => ("java/lang/AbstractStringBuilder", "count", "I", false)
def tyJ4 : Nat → FieldType := fun k => match k with
  | 0 => .array .byte
  | 1 => .byte
  | 2 => .boolean
  | _ => .int
theorem nmJ4 : ∀ a, a < 4 → ∀ b, b < 4 → a ≠ b → (TJ4 a).2.1 ≠ (TJ4 b).2.1 := by decide +kernel
theorem tyJ4_ok : ∀ k, k < 4 → parseFieldDescriptor (TJ4 k).2.2.1 = some (tyJ4 k) := by decide +kernel
abbrev cJ4_init_da8c8 : ByteArray := prog_27_method_1_code
def yJ4_init_da8c8 : MethodName := ⟨RJ4, "<init>", "()V"⟩
abbrev cJ4_append_15ec4 : ByteArray := prog_27_method_7_code
def yJ4_append_15ec4 : MethodName := ⟨RJ4, "append", "(Ljava/lang/String;)Ljava/lang/StringBuilder;"⟩
abbrev cJ4_append_cf468 : ByteArray := prog_27_method_14_code
def yJ4_append_cf468 : MethodName := ⟨RJ4, "append", "(C)Ljava/lang/StringBuilder;"⟩
abbrev cJ4_append_bf812 : ByteArray := prog_27_method_15_code
def yJ4_append_bf812 : MethodName := ⟨RJ4, "append", "(I)Ljava/lang/StringBuilder;"⟩
abbrev cJ4_toString_0e30d : ByteArray := prog_27_method_42_code
def yJ4_toString_0e30d : MethodName := ⟨RJ4, "toString", "()Ljava/lang/String;"⟩
abbrev cJ4_charAt_5068e : ByteArray := prog_27_method_88_code
def yJ4_charAt_5068e : MethodName := ⟨RJ4, "charAt", "(I)C"⟩
abbrev cJ4_setLength_d00df : ByteArray := prog_27_method_89_code
def yJ4_setLength_d00df : MethodName := ⟨RJ4, "setLength", "(I)V"⟩
abbrev cJ4_length_8abf5 : ByteArray := prog_27_method_93_code
def yJ4_length_8abf5 : MethodName := ⟨RJ4, "length", "()I"⟩
def RJx7c733 : String := "java/lang/StringIndexOutOfBoundsException"
def TJx7c733 : u_T := fun k => match k with
  | 0 => ("java/lang/Throwable", "backtrace", "Ljava/lang/Object;", false)
  | 1 => ("java/lang/Throwable", "detailMessage", "Ljava/lang/String;", false)
  | 2 => ("java/lang/Throwable", "cause", "Ljava/lang/Throwable;", false)
  | 3 => ("java/lang/Throwable", "stackTrace", "[Ljava/lang/StackTraceElement;", false)
  | 4 => ("java/lang/Throwable", "depth", "I", false)
  | _ => ("java/lang/Throwable", "suppressedExceptions", "Ljava/util/List;", false)
def tyJx7c733 : Nat → FieldType := fun k => match k with
  | 0 => .object "java/lang/Object"
  | 1 => .object "java/lang/String"
  | 2 => .object "java/lang/Throwable"
  | 3 => .array (.object "java/lang/StackTraceElement")
  | 4 => .int
  | _ => .object "java/util/List"
theorem nmJx7c733 : ∀ a, a < 6 → ∀ b, b < 6 → a ≠ b → (TJx7c733 a).2.1 ≠ (TJx7c733 b).2.1 := by decide +kernel
theorem tyJx7c733_ok : ∀ k, k < 6 → parseFieldDescriptor (TJx7c733 k).2.2.1 = some (tyJx7c733 k) := by decide +kernel
abbrev cJx7c733_init_d00df : ByteArray := prog_28_method_3_code
def yJx7c733_init_d00df : MethodName := ⟨RJx7c733, "<init>", "(I)V"⟩
def RJ1 : String := "java/lang/StringLatin1"
def TJ1 : u_T := fun k => match k with
  | _ => ("", "", "", false)
def tyJ1 : Nat → FieldType := fun k => match k with
  | _ => .int
theorem nmJ1 : ∀ a, a < 0 → ∀ b, b < 0 → a ≠ b → (TJ1 a).2.1 ≠ (TJ1 b).2.1 := by decide +kernel
theorem tyJ1_ok : ∀ k, k < 0 → parseFieldDescriptor (TJ1 k).2.2.1 = some (tyJ1 k) := by decide +kernel
abbrev cJ1_charAt_3b067 : ByteArray := prog_29_method_2_code
def yJ1_charAt_3b067 : MethodName := ⟨RJ1, "charAt", "([BI)C"⟩
abbrev cJ1_canEncode_fc78d : ByteArray := prog_29_method_3_code
def yJ1_canEncode_fc78d : MethodName := ⟨RJ1, "canEncode", "(C)Z"⟩
abbrev cJ1_fillNull_b72d1 : ByteArray := prog_29_method_48_code
def yJ1_fillNull_b72d1 : MethodName := ⟨RJ1, "fillNull", "([BII)V"⟩
abbrev cJ1_inflate_0e8fd : ByteArray := prog_29_method_50_code
def yJ1_inflate_0e8fd : MethodName := ⟨RJ1, "inflate", "([BI[BII)V"⟩
def RJ2 : String := "java/lang/StringUTF16"
def TJ2 : u_T := fun k => match k with
  | _ => ("", "", "", false)
def tyJ2 : Nat → FieldType := fun k => match k with
  | _ => .int
theorem nmJ2 : ∀ a, a < 0 → ∀ b, b < 0 → a ≠ b → (TJ2 a).2.1 ≠ (TJ2 b).2.1 := by decide +kernel
theorem tyJ2_ok : ∀ k, k < 0 → parseFieldDescriptor (TJ2 k).2.2.1 = some (tyJ2 k) := by decide +kernel
abbrev cJ2_newBytesFor_77867 : ByteArray := prog_30_method_2_code
def yJ2_newBytesFor_77867 : MethodName := ⟨RJ2, "newBytesFor", "(I)[B"⟩
abbrev cJ2_newBytesLength_0f7a4 : ByteArray := prog_30_method_3_code
def yJ2_newBytesLength_0f7a4 : MethodName := ⟨RJ2, "newBytesLength", "(I)I"⟩
abbrev cJ2_putChar_b72d1 : ByteArray := prog_30_method_4_code
def yJ2_putChar_b72d1 : MethodName := ⟨RJ2, "putChar", "([BII)V"⟩
abbrev cJ2_getChar_3b067 : ByteArray := prog_30_method_5_code
def yJ2_getChar_3b067 : MethodName := ⟨RJ2, "getChar", "([BI)C"⟩
abbrev cJ2_length_9d52b : ByteArray := prog_30_method_6_code
def yJ2_length_9d52b : MethodName := ⟨RJ2, "length", "([B)I"⟩
abbrev cJ2_coderFromArrayLen_85cad : ByteArray := prog_30_method_15_code
def yJ2_coderFromArrayLen_85cad : MethodName := ⟨RJ2, "coderFromArrayLen", "([BI)B"⟩
abbrev cJ2_compress_39247 : ByteArray := prog_30_method_17_code
def yJ2_compress_39247 : MethodName := ⟨RJ2, "compress", "([BII)[B"⟩
abbrev cJ2_compress_5af95 : ByteArray := prog_30_method_22_code
def yJ2_compress_5af95 : MethodName := ⟨RJ2, "compress", "([BI[BII)I"⟩
abbrev cJ2_fillNull_b72d1 : ByteArray := prog_30_method_70_code
def yJ2_fillNull_b72d1 : MethodName := ⟨RJ2, "fillNull", "([BII)V"⟩
abbrev cJ2_putCharSB_b72d1 : ByteArray := prog_30_method_71_code
def yJ2_putCharSB_b72d1 : MethodName := ⟨RJ2, "putCharSB", "([BII)V"⟩
abbrev cJ2_getChars_46870 : ByteArray := prog_30_method_77_code
def yJ2_getChars_46870 : MethodName := ⟨RJ2, "getChars", "(III[B)I"⟩
abbrev cJ2_putCharsAt_cd4e5 : ByteArray := prog_30_method_81_code
def yJ2_putCharsAt_cd4e5 : MethodName := ⟨RJ2, "putCharsAt", "([BICCCC)I"⟩
abbrev cJ2_charAt_3b067 : ByteArray := prog_30_method_83_code
def yJ2_charAt_3b067 : MethodName := ⟨RJ2, "charAt", "([BI)C"⟩
abbrev cJ2_inflate_0e8fd : ByteArray := prog_30_method_86_code
def yJ2_inflate_0e8fd : MethodName := ⟨RJ2, "inflate", "([BI[BII)V"⟩
abbrev cJ2_getChars_ba4f3 : ByteArray := prog_30_method_89_code
def yJ2_getChars_ba4f3 : MethodName := ⟨RJ2, "getChars", "(II[B)I"⟩
abbrev cJ2_checkIndex_2214a : ByteArray := prog_30_method_91_code
def yJ2_checkIndex_2214a : MethodName := ⟨RJ2, "checkIndex", "(I[B)V"⟩
abbrev cJ2_checkBoundsBeginEnd_d044e : ByteArray := prog_30_method_93_code
def yJ2_checkBoundsBeginEnd_d044e : MethodName := ⟨RJ2, "checkBoundsBeginEnd", "(II[B)V"⟩
abbrev cJ2_checkBoundsOffCount_d044e : ByteArray := prog_30_method_94_code
def yJ2_checkBoundsOffCount_d044e : MethodName := ⟨RJ2, "checkBoundsOffCount", "(II[B)V"⟩
def RJ10 : String := "java/lang/System"
def TJ10 : u_T := fun k => match k with
  | _ => ("", "", "", false)
def tyJ10 : Nat → FieldType := fun k => match k with
  | _ => .int
theorem nmJ10 : ∀ a, a < 0 → ∀ b, b < 0 → a ≠ b → (TJ10 a).2.1 ≠ (TJ10 b).2.1 := by decide +kernel
theorem tyJ10_ok : ∀ k, k < 0 → parseFieldDescriptor (TJ10 k).2.2.1 = some (tyJ10 k) := by decide +kernel
def RJxfd54e : String := "java/lang/constant/Constable"
def TJxfd54e : u_T := fun k => match k with
  | _ => ("", "", "", false)
def tyJxfd54e : Nat → FieldType := fun k => match k with
  | _ => .int
theorem nmJxfd54e : ∀ a, a < 0 → ∀ b, b < 0 → a ≠ b → (TJxfd54e a).2.1 ≠ (TJxfd54e b).2.1 := by decide +kernel
theorem tyJxfd54e_ok : ∀ k, k < 0 → parseFieldDescriptor (TJxfd54e k).2.2.1 = some (tyJxfd54e k) := by decide +kernel
def RJx3cf43 : String := "java/lang/constant/ConstantDesc"
def TJx3cf43 : u_T := fun k => match k with
  | _ => ("", "", "", false)
def tyJx3cf43 : Nat → FieldType := fun k => match k with
  | _ => .int
theorem nmJx3cf43 : ∀ a, a < 0 → ∀ b, b < 0 → a ≠ b → (TJx3cf43 a).2.1 ≠ (TJx3cf43 b).2.1 := by decide +kernel
theorem tyJx3cf43_ok : ∀ k, k < 0 → parseFieldDescriptor (TJx3cf43 k).2.2.1 = some (tyJx3cf43 k) := by decide +kernel
def RJ7 : String := "java/util/Arrays"
def TJ7 : u_T := fun k => match k with
  | _ => ("", "", "", false)
def tyJ7 : Nat → FieldType := fun k => match k with
  | _ => .int
theorem nmJ7 : ∀ a, a < 0 → ∀ b, b < 0 → a ≠ b → (TJ7 a).2.1 ≠ (TJ7 b).2.1 := by decide +kernel
theorem tyJ7_ok : ∀ k, k < 0 → parseFieldDescriptor (TJ7 k).2.2.1 = some (tyJ7 k) := by decide +kernel
abbrev cJ7_rangeCheck_23922 : ByteArray := prog_35_method_30_code
def yJ7_rangeCheck_23922 : MethodName := ⟨RJ7, "rangeCheck", "(III)V"⟩
abbrev cJ7_fill_eb02e : ByteArray := prog_35_method_110_code
def yJ7_fill_eb02e : MethodName := ⟨RJ7, "fill", "([BIIB)V"⟩
abbrev cJ7_copyOf_9075b : ByteArray := prog_35_method_121_code
def yJ7_copyOf_9075b : MethodName := ⟨RJ7, "copyOf", "([BI)[B"⟩
abbrev cJ7_checkLength_df160 : ByteArray := prog_35_method_131_code
def yJ7_checkLength_df160 : MethodName := ⟨RJ7, "checkLength", "(II)V"⟩
abbrev cJ7_copyOfRange_39247 : ByteArray := prog_35_method_132_code
def yJ7_copyOfRange_39247 : MethodName := ⟨RJ7, "copyOfRange", "([BII)[B"⟩
abbrev cJ7_copyOfRangeByte_39247 : ByteArray := prog_35_method_133_code
def yJ7_copyOfRangeByte_39247 : MethodName := ⟨RJ7, "copyOfRangeByte", "([BII)[B"⟩
def RJ8 : String := "jdk/internal/util/ArraysSupport"
def TJ8 : u_T := fun k => match k with
  | _ => ("", "", "", false)
def tyJ8 : Nat → FieldType := fun k => match k with
  | _ => .int
theorem nmJ8 : ∀ a, a < 0 → ∀ b, b < 0 → a ≠ b → (TJ8 a).2.1 ≠ (TJ8 b).2.1 := by decide +kernel
theorem tyJ8_ok : ∀ k, k < 0 → parseFieldDescriptor (TJ8 k).2.2.1 = some (tyJ8 k) := by decide +kernel
abbrev cJ8_newLength_cabcc : ByteArray := prog_37_method_27_code
def yJ8_newLength_cabcc : MethodName := ⟨RJ8, "newLength", "(III)I"⟩
abbrev cJ8_hugeLength_7cf53 : ByteArray := prog_37_method_28_code
def yJ8_hugeLength_7cf53 : MethodName := ⟨RJ8, "hugeLength", "(II)I"⟩
def RJ3 : String := "jdk/internal/util/Preconditions"
def TJ3 : u_T := fun k => match k with
  | _ => ("", "", "", false)
def tyJ3 : Nat → FieldType := fun k => match k with
  | _ => .int
theorem nmJ3 : ∀ a, a < 0 → ∀ b, b < 0 → a ≠ b → (TJ3 a).2.1 ≠ (TJ3 b).2.1 := by decide +kernel
theorem tyJ3_ok : ∀ k, k < 0 → parseFieldDescriptor (TJ3 k).2.2.1 = some (tyJ3 k) := by decide +kernel
abbrev cJ3_checkIndex_8e157 : ByteArray := prog_38_method_11_code
def yJ3_checkIndex_8e157 : MethodName := ⟨RJ3, "checkIndex", "(IILjava/util/function/BiFunction;)I"⟩
abbrev cJ3_checkFromToIndex_8c36e : ByteArray := prog_38_method_12_code
def yJ3_checkFromToIndex_8c36e : MethodName := ⟨RJ3, "checkFromToIndex", "(IIILjava/util/function/BiFunction;)I"⟩
abbrev cJ3_checkFromIndexSize_8c36e : ByteArray := prog_38_method_13_code
def yJ3_checkFromIndexSize_8c36e : MethodName := ⟨RJ3, "checkFromIndexSize", "(IIILjava/util/function/BiFunction;)I"⟩
def RL : String := "UmbrellaSchoolLaw"
abbrev cL_addUmbrella : ByteArray := method_3_code
def yL_addUmbrella : MethodName := ⟨RL, "addUmbrella", "(LUmbrellaSchool;I[J)I"⟩
abbrev cL_train : ByteArray := method_4_code
def yL_train : MethodName := ⟨RL, "train", "(LUmbrellaSchool;IIII[J)I"⟩
abbrev cL_setPeriod : ByteArray := method_5_code
def yL_setPeriod : MethodName := ⟨RL, "setPeriod", "(LUmbrellaSchool;II[J)I"⟩
abbrev cL_setWetPenalty : ByteArray := method_6_code
def yL_setWetPenalty : MethodName := ⟨RL, "setWetPenalty", "(LUmbrellaSchool;I[J)I"⟩
abbrev cL_setGalePenalty : ByteArray := method_7_code
def yL_setGalePenalty : MethodName := ⟨RL, "setGalePenalty", "(LUmbrellaSchool;I[J)I"⟩
abbrev cL_forgetRain : ByteArray := method_8_code
def yL_forgetRain : MethodName := ⟨RL, "forgetRain", "(LUmbrellaSchool;II[J)I"⟩
abbrev cL_examine : ByteArray := method_9_code
def yL_examine : MethodName := ⟨RL, "examine", "(LUmbrellaSchool;II[J)I"⟩
abbrev cL_endTerm : ByteArray := method_10_code
def yL_endTerm : MethodName := ⟨RL, "endTerm", "(LUmbrellaSchool;[J)I"⟩
abbrev cL_memory : ByteArray := method_11_code
def yL_memory : MethodName := ⟨RL, "memory", "(LUmbrellaSchool;I[J)I"⟩
abbrev cL_period : ByteArray := method_12_code
def yL_period : MethodName := ⟨RL, "period", "(LUmbrellaSchool;I[J)I"⟩
abbrev cL_trials : ByteArray := method_13_code
def yL_trials : MethodName := ⟨RL, "trials", "(LUmbrellaSchool;I[J)I"⟩
abbrev cL_rememberedTrials : ByteArray := method_14_code
def yL_rememberedTrials : MethodName := ⟨RL, "rememberedTrials", "(LUmbrellaSchool;I[J)I"⟩
abbrev cL_trialRain : ByteArray := method_15_code
def yL_trialRain : MethodName := ⟨RL, "trialRain", "(LUmbrellaSchool;II[J)I"⟩
abbrev cL_trialOpened : ByteArray := method_16_code
def yL_trialOpened : MethodName := ⟨RL, "trialOpened", "(LUmbrellaSchool;II[J)I"⟩
abbrev cL_trialReward : ByteArray := method_17_code
def yL_trialReward : MethodName := ⟨RL, "trialReward", "(LUmbrellaSchool;II[J)I"⟩
abbrev cL_reward : ByteArray := method_18_code
def yL_reward : MethodName := ⟨RL, "reward", "(LUmbrellaSchool;IIZ[J)I"⟩
abbrev cL_shouldOpen : ByteArray := method_19_code
def yL_shouldOpen : MethodName := ⟨RL, "shouldOpen", "(LUmbrellaSchool;II[J)I"⟩
abbrev cL_wouldOpen : ByteArray := method_20_code
def yL_wouldOpen : MethodName := ⟨RL, "wouldOpen", "(LUmbrellaSchool;III[J)I"⟩
abbrev cL_exploresNext : ByteArray := method_21_code
def yL_exploresNext : MethodName := ⟨RL, "exploresNext", "(LUmbrellaSchool;I[J)I"⟩
abbrev cL_timesTried : ByteArray := method_22_code
def yL_timesTried : MethodName := ⟨RL, "timesTried", "(LUmbrellaSchool;IIIZ[J)I"⟩
abbrev cL_rewardSum : ByteArray := method_23_code
def yL_rewardSum : MethodName := ⟨RL, "rewardSum", "(LUmbrellaSchool;IIIZ[J)I"⟩
abbrev cL_rewardSumByTrials : ByteArray := method_24_code
def yL_rewardSumByTrials : MethodName := ⟨RL, "rewardSumByTrials", "(LUmbrellaSchool;IIIZ[J)I"⟩
abbrev cL_meanReward : ByteArray := method_25_code
def yL_meanReward : MethodName := ⟨RL, "meanReward", "(LUmbrellaSchool;IIIZ[D)I"⟩
abbrev cL_rightHabits : ByteArray := method_26_code
def yL_rightHabits : MethodName := ⟨RL, "rightHabits", "(LUmbrellaSchool;I[J)I"⟩
abbrev cL_knownSituations : ByteArray := method_27_code
def yL_knownSituations : MethodName := ⟨RL, "knownSituations", "(LUmbrellaSchool;I[J)I"⟩
abbrev cL_situationRain : ByteArray := method_28_code
def yL_situationRain : MethodName := ⟨RL, "situationRain", "(LUmbrellaSchool;II[J)I"⟩
abbrev cL_situationWind : ByteArray := method_29_code
def yL_situationWind : MethodName := ⟨RL, "situationWind", "(LUmbrellaSchool;II[J)I"⟩
abbrev cL_hasExam : ByteArray := method_30_code
def yL_hasExam : MethodName := ⟨RL, "hasExam", "(LUmbrellaSchool;II[J)I"⟩
abbrev cL_isGraduate : ByteArray := method_31_code
def yL_isGraduate : MethodName := ⟨RL, "isGraduate", "(LUmbrellaSchool;I[J)I"⟩
abbrev cL_totalReward : ByteArray := method_32_code
def yL_totalReward : MethodName := ⟨RL, "totalReward", "(LUmbrellaSchool;I[J)I"⟩
abbrev cL_termReward : ByteArray := method_33_code
def yL_termReward : MethodName := ⟨RL, "termReward", "(LUmbrellaSchool;I[J)I"⟩
abbrev cL_stars : ByteArray := method_34_code
def yL_stars : MethodName := ⟨RL, "stars", "(LUmbrellaSchool;I[J)I"⟩
abbrev cL_umbrellaByStars : ByteArray := method_35_code
def yL_umbrellaByStars : MethodName := ⟨RL, "umbrellaByStars", "(LUmbrellaSchool;I[J)I"⟩
abbrev cL_meanSchoolReward : ByteArray := method_36_code
def yL_meanSchoolReward : MethodName := ⟨RL, "meanSchoolReward", "(LUmbrellaSchool;[D)I"⟩
abbrev cL_openShare : ByteArray := method_37_code
def yL_openShare : MethodName := ⟨RL, "openShare", "(LUmbrellaSchool;[D)I"⟩
abbrev cL_renderHabits : ByteArray := method_38_code
def yL_renderHabits : MethodName := ⟨RL, "renderHabits", "(LUmbrellaSchool;I[J)I"⟩
abbrev cL_renderUmbrella : ByteArray := method_39_code
def yL_renderUmbrella : MethodName := ⟨RL, "renderUmbrella", "(LUmbrellaSchool;I[J)I"⟩
abbrev cL_outputAt : ByteArray := method_40_code
def yL_outputAt : MethodName := ⟨RL, "outputAt", "(LUmbrellaSchool;I[J)I"⟩
abbrev cL_type : ByteArray := method_41_code
def yL_type : MethodName := ⟨RL, "type", "(LUmbrellaSchool;C[J)I"⟩
abbrev cL_runScript : ByteArray := method_42_code
def yL_runScript : MethodName := ⟨RL, "runScript", "(LUmbrellaSchool;[J)I"⟩
abbrev cL_errorPosition : ByteArray := method_43_code
def yL_errorPosition : MethodName := ⟨RL, "errorPosition", "(LUmbrellaSchool;[J)I"⟩
abbrev cL_failedCommand : ByteArray := method_44_code
def yL_failedCommand : MethodName := ⟨RL, "failedCommand", "(LUmbrellaSchool;[J)I"⟩
abbrev cL_undo : ByteArray := method_45_code
def yL_undo : MethodName := ⟨RL, "undo", "(LUmbrellaSchool;[J)I"⟩
abbrev cL_restore : ByteArray := method_46_code
def yL_restore : MethodName := ⟨RL, "restore", "(LUmbrellaSchool;[J)I"⟩
abbrev cL_law : ByteArray := code
def yL_law : MethodName := ⟨RL, "law", "([I)Z"⟩
abbrev vwCl : List vw_C := [(RJ0, TJ0, 4), (RJ4, TJ4, 4), (RJx00060, TJx00060, 6), (RJx7c733, TJx7c733, 6), (RX1, TX1, 8), (RX4, TX4, 12), (RX5, TX5, 9), (RX6, TX6, 18)]
end
section
/-! THE LAYER: heaps as functions (a shape G, contents S, texts T), and one judgement Xj over W whose rows speak of them alone -/
-- shapes: addresses, kinds, lengths; contents: int fields, reference fields, rows of numbers, rows of references
abbrev gG : Type := List Nat × (Nat → Nat) × (Nat → Nat)
abbrev gS : Type := (Nat → Nat → Int32) × (Nat → Nat → Option Nat) × (Nat → Nat → Int32) × (Nat → Nat → Option Nat)
abbrev gT : Type := List (Nat × List Nat)
abbrev gY : Type := (Nat → ClassId) × (Nat → Nat)
def gL (G : gG) : List Nat := G.1
def gK (G : gG) (a : Nat) : Nat := G.2.1 a
def gn (G : gG) (a : Nat) : Nat := G.2.2 a
/-- a is an object (or a row) of kind k -/
def gis (G : gG) (k a : Nat) : Prop := a ∈ gL G ∧ gK G a = k
def gI (S : gS) (f a : Nat) : Int32 := S.1 f a
def gP (S : gS) (f a : Nat) : Option Nat := S.2.1 f a
def gr (S : gS) (a i : Nat) : Int32 := S.2.2.1 a i
def gq (S : gS) (a i : Nat) : Option Nat := S.2.2.2 a i
def sI (S : gS) (f a : Nat) (v : Int32) : gS := (fun f' a' => if f' = f ∧ a' = a then v else S.1 f' a', S.2)
def sP (S : gS) (f a : Nat) (v : Option Nat) : gS := (S.1, fun f' a' => if f' = f ∧ a' = a then v else S.2.1 f' a', S.2.2)
def sr (S : gS) (a i : Nat) (v : Int32) : gS := (S.1, S.2.1, fun a' i' => if a' = a ∧ i' = i then v else S.2.2.1 a' i', S.2.2.2)
def srow (S : gS) (a : Nat) (f : Nat → Int32) : gS := (S.1, S.2.1, fun a' i' => if a' = a then f i' else S.2.2.1 a' i', S.2.2.2)
def sq (S : gS) (a i : Nat) (v : Option Nat) : gS := (S.1, S.2.1, S.2.2.1, fun a' i' => if a' = a ∧ i' = i then v else S.2.2.2 a' i')
-- the fields of each kind: .inl an int field's number, .inr a reference field's
def gkt : Nat → Option (Nat × List (Nat ⊕ Nat)) := fun k => match k with
  | 0 => some (4, [.inr 0, .inl 0, .inl 1, .inl 2, .inl 3, .inl 4, .inl 5, .inl 6])
  | 1 => some (5, [.inr 1, .inr 2, .inr 3, .inr 4, .inl 10, .inl 11, .inl 12, .inl 13, .inl 14, .inl 15, .inl 16, .inl 17])
  | 2 => some (6, [.inr 5, .inr 6, .inr 7, .inr 8, .inr 9, .inl 20, .inl 21, .inl 22, .inl 23])
  | 3 => some (7, [.inl 30, .inr 10, .inr 11, .inr 12, .inr 13, .inl 31, .inl 32, .inl 33, .inr 14, .inl 34, .inr 15, .inl 35, .inl 36, .inl 37, .inl 38, .inr 16, .inl 39, .inl 40])
  | _ => none
def gfv (S : gS) (a : Nat) (x : Nat ⊕ Nat) : Value := match x with
  | .inl f => .int (gI S f a)
  | .inr f => va_rf (gP S f a)
def gar (cy : gY) (G : gG) (S : gS) (a : Nat) : va_E :=
  if gK G a = 6 then .inl (cy.1 1, gn G a, .inl (gr S a)) else
  if gK G a = 7 then .inl (cy.1 2, gn G a, .inl (gr S a)) else
  if gK G a = 8 then .inl (cy.1 3, gn G a, .inr (.inr (.inr (.inr (gq S a))))) else
  .inl (cy.1 4, gn G a, .inr (.inr (.inr (.inr (gq S a)))))
def gce (cy : gY) (G : gG) (S : gS) (a : Nat) : va_E := match gkt (gK G a) with
  | some (ci, fl) => .inr (ci, fl.map (gfv S a))
  | none => gar cy G S a
def gw (cy : gY) (G : gG) (S : gS) : va_W := va_pl (gL G) (gce cy G S)
def gty (cy : gY) : List (ClassId × FieldType) := [(cy.1 0, .byte), (cy.1 1, .char), (cy.1 2, .int), (cy.1 3, .object "UmbrellaSchool$Books"), (cy.1 4, .object "UmbrellaSchool$Umbrella")]
-- texts: a StringBuilder at a holds tx; its bytes lie at some other address
def gZ (cy : gY) : va_W → gT → Prop
  | Z, [] => Z = []
  | Z, (a, tx) :: T => ∃ (arr cap : Nat) (ml : Int32) (by' : Nat → Int32) (Z' : va_W), Z = (a, .inr (1, [.ref arr, .int 0, .int ml, .int (nI tx.length)])) :: (arr, .inl (cy.1 0, cap, .inl by')) :: Z' ∧ tx.length ≤ cap ∧ cap ≤ 65536 ∧ sb_Lat (fun i => tx.getD i 0) tx.length by' ∧ sb_Fit by' ∧ gZ cy Z' T
-- reading behind writing
theorem gI_sI (S : gS) (f a f' a' : Nat) (v : Int32) : gI (sI S f a v) f' a' = if f' = f ∧ a' = a then v else gI S f' a' := rfl
theorem gI_sP (S : gS) (f a f' a' : Nat) (v : Option Nat) : gI (sP S f a v) f' a' = gI S f' a' := rfl
theorem gI_sr (S : gS) (a i f' a' : Nat) (v : Int32) : gI (sr S a i v) f' a' = gI S f' a' := rfl
theorem gI_srow (S : gS) (a f' a' : Nat) (v : Nat → Int32) : gI (srow S a v) f' a' = gI S f' a' := rfl
theorem gI_sq (S : gS) (a i f' a' : Nat) (v : Option Nat) : gI (sq S a i v) f' a' = gI S f' a' := rfl
theorem gP_sI (S : gS) (f a f' a' : Nat) (v : Int32) : gP (sI S f a v) f' a' = gP S f' a' := rfl
theorem gP_sP (S : gS) (f a f' a' : Nat) (v : Option Nat) : gP (sP S f a v) f' a' = if f' = f ∧ a' = a then v else gP S f' a' := rfl
theorem gP_sr (S : gS) (a i f' a' : Nat) (v : Int32) : gP (sr S a i v) f' a' = gP S f' a' := rfl
theorem gP_srow (S : gS) (a f' a' : Nat) (v : Nat → Int32) : gP (srow S a v) f' a' = gP S f' a' := rfl
theorem gP_sq (S : gS) (a i f' a' : Nat) (v : Option Nat) : gP (sq S a i v) f' a' = gP S f' a' := rfl
theorem gr_sI (S : gS) (f a a' i' : Nat) (v : Int32) : gr (sI S f a v) a' i' = gr S a' i' := rfl
theorem gr_sP (S : gS) (f a a' i' : Nat) (v : Option Nat) : gr (sP S f a v) a' i' = gr S a' i' := rfl
theorem gr_sr (S : gS) (a i a' i' : Nat) (v : Int32) : gr (sr S a i v) a' i' = if a' = a ∧ i' = i then v else gr S a' i' := rfl
theorem gr_srow (S : gS) (a a' i' : Nat) (v : Nat → Int32) : gr (srow S a v) a' i' = if a' = a then v i' else gr S a' i' := rfl
theorem gr_sq (S : gS) (a i a' i' : Nat) (v : Option Nat) : gr (sq S a i v) a' i' = gr S a' i' := rfl
theorem gq_sI (S : gS) (f a a' i' : Nat) (v : Int32) : gq (sI S f a v) a' i' = gq S a' i' := rfl
theorem gq_sP (S : gS) (f a a' i' : Nat) (v : Option Nat) : gq (sP S f a v) a' i' = gq S a' i' := rfl
theorem gq_sr (S : gS) (a i a' i' : Nat) (v : Int32) : gq (sr S a i v) a' i' = gq S a' i' := rfl
theorem gq_srow (S : gS) (a a' i' : Nat) (v : Nat → Int32) : gq (srow S a v) a' i' = gq S a' i' := rfl
theorem gq_sq (S : gS) (a i a' i' : Nat) (v : Option Nat) : gq (sq S a i v) a' i' = if a' = a ∧ i' = i then v else gq S a' i' := rfl
-- a list of fields, one of them written
theorem g_mset {α β : Type} [DecidableEq α] (fl : List α) (g : α → β) (k : Nat) (x : α) (v : β) (hn : fl.Nodup) (hk : fl[k]? = some x) : (fl.map g).set k v = fl.map (fun y => if y = x then v else g y) := by
  apply List.ext_getElem?
  intro i
  rw [List.getElem?_set, List.getElem?_map, List.getElem?_map, List.length_map]
  by_cases e : k = i
  · subst e
    have hl := (List.getElem?_eq_some_iff.mp hk).1
    rw [if_pos rfl, if_pos hl, hk]
    simp
  · rw [if_neg e]
    cases h : fl[i]? with
    | none => rfl
    | some y =>
      have hy : y ≠ x := by
        intro z
        subst z
        have h1 := (List.getElem?_eq_some_iff.mp hk)
        have h2 := (List.getElem?_eq_some_iff.mp h)
        have hp := List.pairwise_iff_getElem.mp (show List.Pairwise (fun a b => a ≠ b) fl from hn)
        rcases Nat.lt_or_gt_of_ne e with q | q
        · exact hp k i h1.1 h2.1 q (h1.2.trans h2.2.symm)
        · exact hp i k h2.1 h1.1 q (h2.2.trans h1.2.symm)
      simp [hy]
theorem gkt_nodup : ∀ k ci fl, gkt k = some (ci, fl) → fl.Nodup := by
  intro k ci fl h
  match k, h with
  | 0, h => cases h; decide
  | 1, h => cases h; decide
  | 2, h => cases h; decide
  | 3, h => cases h; decide
  | k + 4, h => cases h
theorem gce_obj {cy : gY} {G : gG} {S : gS} {a ci : Nat} {fl : List (Nat ⊕ Nat)} (h : gkt (gK G a) = some (ci, fl)) : gce cy G S a = .inr (ci, fl.map (gfv S a)) := by
  unfold gce
  rw [h]
theorem gce_eq {cy : gY} {G : gG} {S S' : gS} {b : Nat} (h1 : ∀ f, gI S' f b = gI S f b) (h2 : ∀ f, gP S' f b = gP S f b) (h3 : gr S' b = gr S b) (h4 : gq S' b = gq S b) : gce cy G S' b = gce cy G S b := by
  have e : gfv S' b = gfv S b := by
    funext x
    cases x with
    | inl f => show Value.int _ = Value.int _; rw [h1]
    | inr f => show va_rf _ = va_rf _; rw [h2]
  unfold gce gar
  rw [e, h3, h4]
theorem gup_I {cy : gY} {G : gG} {S : gS} {a ci f k : Nat} {fl : List (Nat ⊕ Nat)} (h : gkt (gK G a) = some (ci, fl)) (hk : fl[k]? = some (.inl f)) (v : Int32) (b : Nat) : va_up (gce cy G S) a (.inr (ci, (fl.map (gfv S a)).set k (.int v))) b = gce cy G (sI S f a v) b := by
  by_cases e : b = a
  · subst e
    rw [gce_obj h, g_mset fl _ k _ _ (gkt_nodup _ _ _ h) hk]
    unfold va_up
    rw [if_pos rfl]
    congr 2
    apply List.map_congr_left
    intro y _
    cases y with
    | inl f' =>
      show (if (Sum.inl f' : Nat ⊕ Nat) = .inl f then Value.int v else Value.int (gI S f' b)) = Value.int (gI (sI S f b v) f' b)
      rw [gI_sI]
      by_cases z : f' = f
      · subst z; simp
      · rw [if_neg (by intro q; exact z (Sum.inl.inj q)), if_neg (by intro q; exact z q.1)]
    | inr f' => rfl
  · rw [va_up_ne _ _ e]
    exact (gce_eq (S := S) (S' := sI S f a v) (fun f' => by rw [gI_sI, if_neg (fun q => e q.2)]) (fun _ => rfl) rfl rfl).symm
theorem gup_P {cy : gY} {G : gG} {S : gS} {a ci f k : Nat} {fl : List (Nat ⊕ Nat)} (h : gkt (gK G a) = some (ci, fl)) (hk : fl[k]? = some (.inr f)) (v : Option Nat) (b : Nat) : va_up (gce cy G S) a (.inr (ci, (fl.map (gfv S a)).set k (va_rf v))) b = gce cy G (sP S f a v) b := by
  by_cases e : b = a
  · subst e
    rw [gce_obj h, g_mset fl _ k _ _ (gkt_nodup _ _ _ h) hk]
    unfold va_up
    rw [if_pos rfl]
    congr 2
    apply List.map_congr_left
    intro y _
    cases y with
    | inr f' =>
      show (if (Sum.inr f' : Nat ⊕ Nat) = .inr f then va_rf v else va_rf (gP S f' b)) = va_rf (gP (sP S f b v) f' b)
      rw [gP_sP]
      by_cases z : f' = f
      · subst z; simp
      · rw [if_neg (by intro q; exact z (Sum.inr.inj q)), if_neg (by intro q; exact z q.1)]
    | inl f' => rfl
  · rw [va_up_ne _ _ e]
    exact (gce_eq (S := S) (S' := sP S f a v) (fun _ => rfl) (fun f' => by rw [gP_sP, if_neg (fun q => e q.2)]) rfl rfl).symm
theorem gce_i {cy : gY} {G : gG} {S : gS} {a : Nat} (h : gK G a = 7) : gce cy G S a = .inl (cy.1 2, gn G a, .inl (gr S a)) := by
  unfold gce gar; rw [h]; rfl
theorem gce_c {cy : gY} {G : gG} {S : gS} {a : Nat} (h : gK G a = 6) : gce cy G S a = .inl (cy.1 1, gn G a, .inl (gr S a)) := by
  unfold gce gar; rw [h]; rfl
theorem gce_b {cy : gY} {G : gG} {S : gS} {a : Nat} (h : gK G a = 8) : gce cy G S a = .inl (cy.1 3, gn G a, .inr (.inr (.inr (.inr (gq S a))))) := by
  unfold gce gar; rw [h]; rfl
theorem gce_u {cy : gY} {G : gG} {S : gS} {a : Nat} (h : gK G a = 9) : gce cy G S a = .inl (cy.1 4, gn G a, .inr (.inr (.inr (.inr (gq S a))))) := by
  unfold gce gar; rw [h]; rfl
theorem gup_row {cy : gY} {G : gG} {S : gS} {a : Nat} (v : Nat → Int32) (e : va_E) (he : e = gce cy G (srow S a v) a) (b : Nat) : va_up (gce cy G S) a e b = gce cy G (srow S a v) b := by
  by_cases z : b = a
  · subst z; rw [he]; unfold va_up; rw [if_pos rfl]
  · rw [va_up_ne _ _ z]
    exact (gce_eq (S := S) (S' := srow S a v) (fun _ => rfl) (fun _ => rfl) (by funext i; rw [gr_srow, if_neg z]) rfl).symm
theorem sr_srow (S : gS) (a i : Nat) (v : Int32) : sr S a i v = srow S a (upd (gr S a) i v) := by
  have h : (fun a' i' => if a' = a ∧ i' = i then v else S.2.2.1 a' i') = (fun a' i' => if a' = a then upd (gr S a) i v i' else S.2.2.1 a' i') := by
    funext a' i'
    by_cases z : a' = a
    · subst z
      rw [if_pos rfl]
      show _ = (if i' = i then v else S.2.2.1 a' i')
      by_cases y : i' = i
      · rw [if_pos ⟨rfl, y⟩, if_pos y]
      · rw [if_neg (fun q => y q.2), if_neg y]
    · rw [if_neg (fun q => z q.1), if_neg z]
  show (S.1, S.2.1, _, S.2.2.2) = (S.1, S.2.1, _, S.2.2.2)
  rw [h]
theorem gup_q {cy : gY} {G : gG} {S : gS} {a i : Nat} (v : Option Nat) (e : va_E) (he : e = gce cy G (sq S a i v) a) (b : Nat) : va_up (gce cy G S) a e b = gce cy G (sq S a i v) b := by
  by_cases z : b = a
  · subst z; rw [he]; unfold va_up; rw [if_pos rfl]
  · rw [va_up_ne _ _ z]
    exact (gce_eq (S := S) (S' := sq S a i v) (fun _ => rfl) (fun _ => rfl) rfl (by funext j; rw [gq_sq, if_neg (fun q => z q.1)])).symm
-- locals: place by place what is known
def gl (ls : Array Slot) (nL : Nat) (lv : List (Option Value)) : Prop := ls.size = nL ∧ lv_wf ls ∧ lv.length = nL ∧ ∀ (i : Nat) (v : Value), lv[i]? = some (some v) → ls[i]? = some (.val v)
def gas (lv : List (Option Value)) : List (Nat × Value) := (List.range lv.length).filterMap (fun i => match lv[i]? with | some (some v) => some (i, v) | _ => none)
theorem gas_mem {lv : List (Option Value)} {i : Nat} {v : Value} : (i, v) ∈ gas lv ↔ lv[i]? = some (some v) := by
  unfold gas
  rw [List.mem_filterMap]
  constructor
  · rintro ⟨j, hj, h⟩
    split at h
    · rename_i w hw
      cases h
      exact hw
    · cases h
  · intro h
    refine ⟨i, List.mem_range.mpr (List.getElem?_eq_some_iff.mp h).1, ?_⟩
    rw [h]
theorem gl_has {ls : Array Slot} {nL : Nat} {lv : List (Option Value)} (h : gl ls nL lv) : lv_has ls nL (gas lv) := ⟨h.1, h.2.1, fun q hq => h.2.2.2 q.1 q.2 (gas_mem.mp hq)⟩
theorem gl_of {ls : Array Slot} {nL i : Nat} {lv : List (Option Value)} {v : Value} (hp : ∀ w, lv[i - 1]? = some (some w) → 0 < i → w.category = 1) (hi : i < nL) (hn : lv.length = nL) (h : lv_has ls nL ((i, v) :: (gas lv).filter (fun q => !(q.1 == i) && !(q.1 + 1 == i && q.2.category == 2)))) : gl ls nL (lv.set i (some v)) := by
  refine ⟨h.1, h.2.1, by rw [List.length_set]; exact hn, fun j w hj => ?_⟩
  rw [List.getElem?_set] at hj
  by_cases e : i = j
  · subst e
    rw [if_pos rfl] at hj
    split at hj
    · cases hj
      exact h.2.2 _ List.mem_cons_self
    · cases hj
  · rw [if_neg e] at hj
    refine h.2.2 (j, w) (List.mem_cons_of_mem _ (List.mem_filter.mpr ⟨gas_mem.mpr hj, ?_⟩))
    have h1 : (j == i) = false := by simpa using fun q : j = i => e q.symm
    have h2 : (j + 1 == i && w.category == 2) = false := by
      by_cases z : j + 1 = i
      · have : w.category = 1 := hp w (by rw [← z]; exact hj) (by omega)
        simp [this]
      · simp [z]
    simp [h1, h2]
theorem gl_sub {ls : Array Slot} {nL : Nat} {lv lv' : List (Option Value)} (h : gl ls nL lv) (hn : lv'.length = lv.length) (hs : ∀ (i : Nat) (v : Value), lv'[i]? = some (some v) → lv[i]? = some (some v)) : gl ls nL lv' := ⟨h.1, h.2.1, hn.trans h.2.2.1, fun i v hi => h.2.2.2 i v (hs i v hi)⟩
theorem gl_drop {ls : Array Slot} {nL : Nat} {lv : List (Option Value)} (k : Nat) (h : gl ls nL lv) : gl ls nL (lv.set k none) := gl_sub h (List.length_set ..) (fun i v hi => by
  rw [List.getElem?_set] at hi
  split at hi
  · split at hi <;> cases hi
  · exact hi)
theorem gl_entry {vs : List Value} {n : Nat} (hn : vs.length ≤ n) (h : (lg_sl vs).length ≤ n) (h1 : ∀ v ∈ vs, v.category = 1) : gl ((lg_sl vs ++ List.replicate (n - (lg_sl vs).length) Slot.unset).toArray) n (vs.map some ++ List.replicate (n - vs.length) none) := by
  obtain ⟨a, b, c⟩ := lv_entry vs h
  refine ⟨a, b, by simp; omega, fun i v hi => ?_⟩
  have hv : vs[i]? = some v := by
    rw [List.getElem?_append] at hi
    split at hi
    · rw [List.getElem?_map] at hi
      cases q : vs[i]? with
      | none => rw [q] at hi; cases hi
      | some w => rw [q] at hi; cases hi; rfl
    · rw [List.getElem?_replicate] at hi
      split at hi <;> cases hi
  have key : ∀ (us : List Value) (o i : Nat), (∀ v ∈ us, v.category = 1) → us[i]? = some v → (o + i, v) ∈ lv_args o us := by
    intro us
    induction us with
    | nil => intro o i _ q; simp at q
    | cons u us ih =>
      intro o i hc q
      have hu : u.category = 1 := hc u List.mem_cons_self
      cases i with
      | zero =>
        simp at q
        subst q
        unfold lv_args
        exact List.mem_cons_self
      | succ i =>
        have := ih (o + 1) i (fun w hw => hc w (List.mem_cons_of_mem _ hw)) (by simpa using q)
        unfold lv_args
        refine List.mem_cons_of_mem _ ?_
        rw [show o + (i + 1) = o + 1 + i by omega, hu]
        exact this
  have := c _ (key vs 0 i h1 hv)
  simpa using this
theorem lg_len : ∀ vs : List Value, (∀ v ∈ vs, v.category = 1) → (lg_sl vs).length = vs.length := by
  intro vs
  induction vs with
  | nil => intro _; rfl
  | cons v vs ih =>
    intro h
    have e := ih (fun w hw => h w (List.mem_cons_of_mem _ hw))
    unfold lg_sl at e ⊢
    rw [List.flatMap_cons, List.length_append, e, h v List.mem_cons_self]
    simp
    omega
end
section
/-! what never changes: the tables' words, constants, texts; the judgement; contracts; calls -/
def gTb : List Cond := lw_tbl.filter goodWord
def gNest : List (String × Nat × MethodName × String) := [("UmbrellaSchool$Books", 39, ⟨"UmbrellaSchool$Umbrella", "<init>", "()V"⟩, "UmbrellaSchool"), ("UmbrellaSchool$Books", 62, ⟨"UmbrellaSchool", "situationOf", "(II)I"⟩, "UmbrellaSchool"), ("UmbrellaSchool$Books", 77, ⟨"UmbrellaSchool", "caseInSituation", "(IZ)I"⟩, "UmbrellaSchool"), ("UmbrellaSchool$Umbrella", 49, ⟨"UmbrellaSchool", "copyRow", "([I[I)V"⟩, "UmbrellaSchool"), ("UmbrellaSchool$Umbrella", 53, ⟨"UmbrellaSchool", "caseInSituation", "(IZ)I"⟩, "UmbrellaSchool"), ("UmbrellaSchool$Umbrella", 57, ⟨"UmbrellaSchool", "valueAt", "([II)I"⟩, "UmbrellaSchool"), ("UmbrellaSchool$Umbrella", 61, ⟨"UmbrellaSchool", "putAt", "([III)V"⟩, "UmbrellaSchool"), ("UmbrellaSchool$Umbrella", 69, ⟨"UmbrellaSchool", "rainOfCase", "(I)I"⟩, "UmbrellaSchool"), ("UmbrellaSchool$Umbrella", 73, ⟨"UmbrellaSchool", "addAt", "([III)V"⟩, "UmbrellaSchool")]
def gMsg : List (String × Nat × String) := []
def gCmds : List String := ["ADD", "TRAIN", "PERIOD", "WET", "GALE", "FORGET", "EXAM", "TERM"]
def gRefs : List String := ["NOTHING", "UMBRELLA", "ARGUMENT", "STATE"]
def gForms : List (List Int32) := [[97,100,100,32,35,35],[116,114,97,105,110,32,35,32,35,35,120,35],[112,101,114,105,111,100,32,35,32,35],[119,101,116,32,35],[103,97,108,101,32,35],[102,111,114,103,101,116,32,35,32,35],[101,120,97,109,32,35,32,35],[116,101,114,109]]
def gF (D : va_G) (cy : gY) (U : State) : Prop := va_K D vwCl (gty cy) U ∧ (∀ q ∈ gNest, va_Nw (.methodLinkNest q.1 q.2.1 q.2.2.1 q.2.2.2) U) ∧ ∀ q ∈ gMsg, ∃ a, vk_R q.1 q.2.1 q.2.2 a U
theorem gF.warm {D : va_G} {cy : gY} {s U : State} (hW : s.WarmedH U.vm) (h : gF D cy s) : gF D cy U := ⟨va_K.moved hW.alike h.1, fun q hq => va_Nw.warmM hW (h.2.1 q hq), fun q hq => (h.2.2 q hq).imp fun _ z => vk_R.warm hW z⟩
theorem gF.same {D : va_G} {cy : gY} {s U : State} (hv : s.vm = U.vm) (h : gF D cy s) : gF D cy U := ⟨va_K.moved (by rw [hv]; exact Vm.Alike.refl _) h.1, fun q hq => va_Nw.same rfl hv (h.2.1 q hq), fun q hq => (h.2.2 q hq).imp fun _ z => vk_R.same hv.symm z⟩
def gH (cy : gY) (A : Nat → Prop) (U : State) (H : Heap) : Prop :=
  vx_Zq Bundle.tN "UNASSIGNED_STACK" Bundle.steD A U H ∧ vx_Zq Bundle.tN "SUPPRESSED_SENTINEL" Bundle.listD A U H ∧
  va_En "UmbrellaSchool$Command" "LUmbrellaSchool$Command;" gCmds [("java/lang/Enum", "ordinal", "I", [0, 1, 2, 3, 4, 5, 6, 7]), ("UmbrellaSchool$Command", "leastLength", "I", [5, 10, 10, 5, 6, 10, 8, 4])] cy.2 A U H ∧
  va_En "UmbrellaSchool$Refusal" "LUmbrellaSchool$Refusal;" gRefs [] (fun k => cy.2 (10 + k)) A U H ∧
  (∀ k, k < 8 → va_OF "UmbrellaSchool$Command" "form" "Ljava/lang/String;" (.ref (cy.2 (20 + k))) (cy.2 k) A U H) ∧
  vk_S 8 (gForms.map List.length) gForms (fun k => cy.2 (20 + k)) (fun k => cy.2 (30 + k)) A U H ∧
  va_Z "UmbrellaSchool" "COMMANDS" "[LUmbrellaSchool$Command;" (.ref (cy.2 40)) A U H ∧
  va_T (.object "UmbrellaSchool$Command") (cy.2 40) 8 (fun j => .ref (cy.2 j)) A U H ∧
  va_Z "UmbrellaSchool$1" "$SwitchMap$UmbrellaSchool$Command" "[I" (.ref (cy.2 41)) A U H ∧
  va_T .int (cy.2 41) 8 (fun j => .int (nI (j + 1))) A U H ∧
  va_Z "java/lang/String" "COMPACT_STRINGS" "Z" (.int 1) A U H ∧
  va_Z "java/lang/Integer" "DigitOnes" "[B" (.ref (cy.2 50)) A U H ∧
  va_T .byte (cy.2 50) 100 (fun j => .int (nI (48 + j % 10))) A U H ∧
  va_Z "java/lang/Integer" "DigitTens" "[B" (.ref (cy.2 51)) A U H ∧
  va_T .byte (cy.2 51) 100 (fun j => .int (nI (48 + j / 10))) A U H
theorem gH.kept {cy : gY} {A : Nat → Prop} {U : State} {H H1 : Heap} (h : gH cy A U H) (hq : ∀ a : Nat, a < H.size → ¬ A a → H1[a]? = H[a]?) : gH cy A U H1 := by
  obtain ⟨h1, h2, h3, h4, h5, h6, h7, h8, h9, h10, h11, h12, h13, h14, h15⟩ := h
  exact ⟨h1.kept hq, h2.kept hq, h3.kept hq, h4.kept hq, fun k hk => (h5 k hk).kept hq, h6.kept hq, h7.kept hq, h8.kept hq, h9.kept hq, h10.kept hq, h11.kept hq, h12.kept hq, h13.kept hq, h14.kept hq, h15.kept hq⟩
theorem gH.narrow {cy : gY} {A B : Nat → Prop} {U : State} {H : Heap} (h : gH cy A U H) (hq : ∀ q, B q → A q) : gH cy B U H := by
  obtain ⟨h1, h2, h3, h4, h5, h6, h7, h8, h9, h10, h11, h12, h13, h14, h15⟩ := h
  exact ⟨h1.narrow hq, h2.narrow hq, h3.narrow hq, h4.narrow hq, fun k hk => (h5 k hk).narrow hq, h6.narrow hq, h7.narrow hq, h8.narrow hq, h9.narrow hq, h10.narrow hq, h11.narrow hq, h12.narrow hq, h13.narrow hq, h14.narrow hq, h15.narrow hq⟩
theorem gH.moved {cy : gY} {A : Nat → Prop} {u U : State} {H : Heap} (hq : u.vm.Alike U.vm) (h : gH cy A u H) : gH cy A U H := by
  obtain ⟨h1, h2, h3, h4, h5, h6, h7, h8, h9, h10, h11, h12, h13, h14, h15⟩ := h
  exact ⟨h1.moved hq, h2.moved hq, h3.moved hq, h4.moved hq, fun k hk => (h5 k hk).moved hq, h6.moved hq, h7.moved hq, h8.moved hq, h9.moved hq, h10.moved hq, h11.moved hq, h12.moved hq, h13.moved hq, h14.moved hq, h15.moved hq⟩
-- worlds in two parts
theorem gP_app {D : va_G} {cl : List vw_C} {w1 w2 : va_W} {H : Heap} (h : va_P D cl (w1 ++ w2) H) : va_P D cl w1 H ∧ va_P D cl w2 H := by
  constructor
  · intro k q hk
    obtain ⟨j, hj⟩ := List.getElem?_of_mem (List.mem_append_left w2 (List.mem_of_getElem? hk))
    exact h j q hj
  · intro k q hk
    obtain ⟨j, hj⟩ := List.getElem?_of_mem (List.mem_append_right w1 (List.mem_of_getElem? hk))
    exact h j q hj
theorem gD_app {A : Nat → Prop} {w1 w2 : va_W} (h : va_D A (w1 ++ w2)) : va_D A w1 ∧ va_D A w2 ∧ ∀ p ∈ w1, ∀ q ∈ w2, p.1 ≠ q.1 := by
  have l1 : ∀ (i : Nat) (p : Nat × va_E), w1[i]? = some p → (w1 ++ w2)[i]? = some p := fun i p hi => by
    rw [List.getElem?_append_left (List.getElem?_eq_some_iff.mp hi).1]; exact hi
  have l2 : ∀ (i : Nat) (p : Nat × va_E), w2[i]? = some p → (w1 ++ w2)[w1.length + i]? = some p := fun i p hi => by
    rw [List.getElem?_append_right (by omega), Nat.add_sub_cancel_left]; exact hi
  refine ⟨⟨fun i j p q hi hj e => h.1 i j p q (l1 i p hi) (l1 j q hj) e, fun k q hk => h.2 k q (l1 k q hk)⟩, ⟨fun i j p q hi hj e => ?_, fun k q hk => h.2 _ q (l2 k q hk)⟩, fun p hp q hq e => ?_⟩
  · have := h.1 _ _ p q (l2 i p hi) (l2 j q hj) e
    omega
  · obtain ⟨i, hi⟩ := List.getElem?_of_mem hp
    obtain ⟨j, hj⟩ := List.getElem?_of_mem hq
    have h1 := h.1 _ _ p q (l1 i p hi) (l2 j q hj) e
    have h2 := (List.getElem?_eq_some_iff.mp hi).1
    omega
-- the judgement
abbrev gKx : Type := (Program × Launch × Env × Room) × (State × MethodId × Array Value × List Frame) × (Method × Code) × (va_G × gY) × (Nat → Prop) × (State → Prop) × (Nat × Nat × Nat)
abbrev kp (K : gKx) : Program := K.1.1
abbrev kl (K : gKx) : Launch := K.1.2.1
abbrev ke (K : gKx) : Env := K.1.2.2.1
abbrev kR (K : gKx) : Room := K.1.2.2.2
abbrev ks (K : gKx) : State := K.2.1.1
abbrev km (K : gKx) : MethodId := K.2.1.2.1
abbrev ka (K : gKx) : Array Value := K.2.1.2.2.1
abbrev kb (K : gKx) : List Frame := K.2.1.2.2.2
abbrev kM (K : gKx) : Method := K.2.2.1.1
abbrev kc (K : gKx) : Code := K.2.2.1.2
abbrev kD (K : gKx) : va_G := K.2.2.2.1.1
abbrev ky (K : gKx) : gY := K.2.2.2.1.2
abbrev kA (K : gKx) : Nat → Prop := K.2.2.2.2.1
abbrev kQ (K : gKx) : State → Prop := K.2.2.2.2.2.1
abbrev kN (K : gKx) : Nat := K.2.2.2.2.2.2.1
abbrev kC (K : gKx) : Nat := K.2.2.2.2.2.2.2.1
abbrev kS (K : gKx) : Nat := K.2.2.2.2.2.2.2.2
def kW (K : gKx) (H : Heap) (locs : List Loc) (cells slots : Nat) (g : JFrame) : Prop := W (kp K) (kl K) (ke K) (kR K) (ks K) (km K) (ka K) (kb K) (kM K) (kc K) H locs cells slots (kQ K) g
def gAt (K : gKx) (PX : va_W) (G : gG) (lv : List (Option Value)) (S : gS) (T : gT) (c0 s0 : Nat) (H : Heap) (locs : List Loc) (cells slots : Nat) (ls : Array Slot) (Z : va_W) : Prop :=
  gZ (ky K) Z T ∧ va_P (kD K) vwCl ((PX ++ Z) ++ gw (ky K) G S) H ∧ va_D (kA K) ((PX ++ Z) ++ gw (ky K) G S) ∧ va_S (kA K) (ks K).heap H locs ∧ gl ls (kN K) lv ∧ cells + c0 ≤ kC K ∧ slots + s0 ≤ kS K
def Xj (K : gKx) (PX : va_W) (G : gG) (pc : Nat) (lv : List (Option Value)) (st : List Value) (S : gS) (T : gT) (c0 s0 : Nat) : Prop :=
  ∀ (H : Heap) (locs : List Loc) (cells slots : Nat) (ls : Array Slot) (Z : va_W), gAt K PX G lv S T c0 s0 H locs cells slots ls Z → kW K H locs cells slots (F0 (km K) pc ls st)
def grm (d mc ms : Nat) : Room := { frames := d, cells := mc, slots := ms, locals := 64 * d }
def Gd (K : gKx) (own : String) (cc : ByteArray) (d : Nat) : Prop :=
  ((kp K).tables.exec = Jvm.exec ∧ (kc K).code = cc ∧ (kc K).maxLocals = kN K ∧ (ks K).vm.findClass own = some (km K).cls ∧ (∀ w ∈ gTb, w.before (ka K) (ks K) = true)) ∧ gF (kD K) (ky K) (ks K) ∧ gH (ky K) (kA K) (ks K) (ks K).heap ∧ (kl K).stackTraces = false ∧ (∀ q, (ks K).heap.size ≤ q → kA K q) ∧ (kM K).locks = false ∧ kR K = grm d (kC K) (kS K)
theorem Gd.tb {K : gKx} {own : String} {cc : ByteArray} {d : Nat} (g : Gd K own cc d) {w : Cond} (h : w ∈ lw_tbl) (hg : goodWord w = true) : w.before (ka K) (ks K) = true := g.1.2.2.2.2 w (List.mem_filter.mpr ⟨h, hg⟩)
-- contracts
def gPre (cy : gY) (D : va_G) (G : gG) (S : gS) (Z : va_W) (sz : Nat) (U : State) : Prop := U.heap.size = sz ∧ va_P D vwCl (Z ++ gw cy G S) U.heap ∧ va_D (fun _ => True) (Z ++ gw cy G S) ∧ gF D cy U ∧ gH cy (va_A (Z ++ gw cy G S) sz) U U.heap
def gPost (cy : gY) (D : va_G) (G : gG) (S : gS) (T : gT) (A : Nat → Prop) (t : State) : Prop := ∃ Z', gZ cy Z' T ∧ va_P D vwCl (Z' ++ gw cy G S) t.heap ∧ va_D A (Z' ++ gw cy G S)
def gQ (v : Option Value) (B : State → Prop) (A : Nat → Prop) : Array Value → State → Outcome → State → Prop := fun _ st oc t => (oc = .returned v ∧ B t) ∧ va_F A st t
def Ct (ad : Nat → Nat) (y : MethodName) (ws : List Cond) (d mc ms : Nat) (As : List Value) (G : gG) (S : gS) (T : gT) (v : Option Value) (G' : gG) (S' : gS) (T' : gT) : Prop :=
  ∀ (l : Launch) (D : va_G) (c1 : Nat → ClassId) (Z : va_W) (sz : Nat), l.stackTraces = false → gZ (c1, ad) Z T →
    Met l y ws (grm d mc ms) (va_Pc As (gPre (c1, ad) D G S Z sz)) (gQ v (gPost (c1, ad) D G' S' T' (va_A (Z ++ gw (c1, ad) G S) sz)) (va_A (Z ++ gw (c1, ad) G S) sz)) mc ms (va_A (Z ++ gw (c1, ad) G S) sz)
/-- the end that a contract's body owes -/
def gEnd (K : gKx) (ret : Option FieldType) (v : Option Value) (G : gG) (S : gS) (T : gT) : Prop :=
  (kM K).sig.returnType = ret ∧ kQ K = MQ (kb K) (gQ v (gPost (ky K) (kD K) G S T (kA K)) (kA K)) (ka K) (ks K) (kC K) (kS K) (kA K)
theorem gF_blind {cy : gY} {D : va_G} {G : gG} {S : gS} {Z : va_W} {sz : Nat} {As : List Value} : FrameBlind (va_Pc As (gPre cy D G S Z sz)) := by
  intro a U g mk h
  obtain ⟨h1, h2, h3, h4, h5, h6⟩ := h
  exact ⟨h1, h2, h3, h4, gF.same (U := U.calling g mk a) rfl h5, gH.moved (U := U.calling g mk a) (Vm.Alike.refl U.vm) h6⟩
theorem Ct.of {ad : Nat → Nat} {y : MethodName} {cc : ByteArray} {nL d mc ms : Nat} {ret : Option FieldType} {As : List Value} {G G' : gG} {S S' : gS} {T T' : gT} {v : Option Value} (hy : plainName y.cls = true) (hlen : As.length ≤ nL) (hcat : ∀ v ∈ As, v.category = 1)
    (body : ∀ K : gKx, Gd K y.cls cc d → gEnd K ret v G' S' T' → (ky K).2 = ad ∧ kN K = nL → Xj K [] G 0 (As.map some ++ List.replicate (nL - As.length) none) [] S T mc ms) : Ct ad y (Cond.code y cc nL ret :: gTb) d mc ms As G S T v G' S' T' := by
  intro l D c1 Z sz hl hZ
  refine Met.ofW (cc := cc) (maxL := nL) (ret := ret) hy rfl ?_
  intro p e s m args below meth c s₁ B hml hv
  obtain ⟨rfl, hsz, hP, hD0, hF, hH⟩ := hv
  have hts := atoms_spec (ws := Cond.code y cc nL ret :: gTb) B.pre
  subst hsz
  have hD := hD0.self (sz := s.heap.size)
  have hX := body (((p, l, e, grm d mc ms), (s, m, As.toArray, below), (meth, c), (D, (c1, ad)), va_A (Z ++ gw (c1, ad) G S) s.heap.size, MQ below (gQ v (gPost (c1, ad) D G' S' T' (va_A (Z ++ gw (c1, ad) G S) s.heap.size)) (va_A (Z ++ gw (c1, ad) G S) s.heap.size)) As.toArray s mc ms (va_A (Z ++ gw (c1, ad) G S) s.heap.size), nL, mc, ms) : gKx)
    ⟨⟨B.exec, B.bytes, hml, findClass_of_methodNamed B.named, fun w hw => hts w (List.mem_cons_of_mem _ hw)⟩, hF, hH, hl, fun q h => Or.inr h, B.notSynchronized, rfl⟩ ⟨B.returns, rfl⟩ ⟨rfl, rfl⟩
  have hh : va_D (va_A (Z ++ gw (c1, ad) G S) s.heap.size) (([] ++ Z) ++ gw (c1, ad) G S) := hD
  rw [lg_entry_eq]
  exact hX s.heap [] 0 0 _ Z ⟨hZ, hP, hh, va_S.rf, gl_entry hlen (by rw [lg_len As hcat]; exact hlen) hcat, by simp, by simp⟩
end
section
/-! calls and returns -/
def gCa (y : MethodName) (bytes : ByteArray) (maxL : Nat) (ret : Option FieldType) (n : Nat) : Prop := Cond.code y bytes maxL ret ∈ lw_tbl ∧ Cond.initialized y.cls ∈ lw_tbl ∧ (y.cls ≠ "java/lang/invoke/MethodHandle" ∧ y.cls ≠ "java/lang/invoke/VarHandle" ∧ (parseMethodDescriptor y.desc).map (fun d => d.parameters.length) = some n) ∧ maxL ≤ 40
theorem gGood {y : MethodName} {bytes : ByteArray} {maxL : Nat} {ret : Option FieldType} (h : Cond.code y bytes maxL ret ∈ lw_tbl) : GoodIn gTb (Cond.code y bytes maxL ret :: gTb) := by
  intro w hw
  have h1 : w ∈ gTb := by
    rcases List.mem_cons.mp hw with e | e
    · subst e
      exact List.mem_filter.mpr ⟨h, rfl⟩
    · exact e
  exact ⟨h1, good_of_word (List.mem_filter.mp h1).2⟩
theorem gIn {K : gKx} {PX : va_W} {G : gG} {lv : List (Option Value)} {S : gS} {T : gT} {c0 s0 : Nat} {H : Heap} {locs : List Loc} {cells slots : Nat} {ls : Array Slot} {Z : va_W} {own : String} {cc : ByteArray} {d : Nat} (g : Gd K own cc d) (h : gAt K PX G lv S T c0 s0 H locs cells slots ls Z) :
    ∀ q, va_A (Z ++ gw (ky K) G S) H.size q → kA K q := by
  obtain ⟨hZ, hP, hD, hS, -⟩ := h
  rw [List.append_assoc] at hD
  have h2 := (gD_app hD).2.1
  rintro q (⟨k, e, hk⟩ | hq)
  · exact h2.2 k _ hk
  · exact g.2.2.2.2.1 q (Nat.le_trans hS.1 hq)
/-- the callee's start -/
theorem gGive {K : gKx} {PX : va_W} {G : gG} {lv : List (Option Value)} {S : gS} {T : gT} {c0 s0 : Nat} {H : Heap} {locs : List Loc} {cells slots : Nat} {ls : Array Slot} {Z : va_W} {own : String} {cc : ByteArray} {d : Nat} (g : Gd K own cc d) (h : gAt K PX G lv S T c0 s0 H locs cells slots ls Z) :
    ∀ U : State, U.heap = H → (ks K).WarmedH U.vm → gPre (ky K) (kD K) G S Z H.size U := by
  intro U hU hW
  have hin := gIn g h
  obtain ⟨hZ, hP, hD, hS, -⟩ := h
  rw [List.append_assoc] at hP hD
  have h2 := (gD_app hD).2.1
  refine ⟨by rw [hU], by rw [hU]; exact (gP_app hP).2, h2.weaken (fun _ _ _ _ => trivial), gF.warm hW g.2.1, ?_⟩
  rw [hU]
  exact ((gH.kept g.2.2.1 hS.2.1).narrow hin).moved hW.alike
/-- behind the callee -/
theorem gTake {K : gKx} {PX : va_W} {G G' : gG} {lv : List (Option Value)} {S S' : gS} {T T' : gT} {c0 s0 mc ms : Nat} {H : Heap} {locs L : List Loc} {cells slots : Nat} {ls : Array Slot} {Z : va_W} {own : String} {cc : ByteArray} {d : Nat} {st₀ t T1 : State} (g : Gd K own cc d) (h : gAt K PX G lv S T c0 s0 H locs cells slots ls Z)
    (hc : mc ≤ c0) (hs : ms ≤ s0) (h0 : st₀.heap = H) (hL : ∀ q ∈ L, va_A (Z ++ gw (ky K) G S) H.size q.base) (e1 : T1.heap = t.heap) (hB : gPost (ky K) (kD K) G' S' T' (va_A (Z ++ gw (ky K) G S) H.size) t) (hF : va_F (va_A (Z ++ gw (ky K) G S) H.size) st₀ t) :
    ∃ Z', gAt K PX G' lv S' T' (c0 - mc) (s0 - ms) T1.heap (locs ++ L) (cells + mc) (slots + ms) ls Z' := by
  have hin := gIn g h
  obtain ⟨hZ, hP, hD, hS, hl, hcc, hss⟩ := h
  rw [List.append_assoc] at hP hD
  obtain ⟨hD1, hD2, hD3⟩ := gD_app hD
  obtain ⟨hP1, -⟩ := gP_app hP
  obtain ⟨Z', hZ', hP', hD'⟩ := hB
  obtain ⟨hz, hk⟩ := hF
  rw [h0] at hz hk
  have hnot : ∀ (k : Nat) (q : Nat × va_E), PX[k]? = some q → ¬ va_A (Z ++ gw (ky K) G S) H.size q.1 := by
    rintro k q hk1 (⟨j, e, hj⟩ | hq)
    · exact hD3 q (List.mem_of_getElem? hk1) _ (List.mem_of_getElem? hj) rfl
    · exact absurd (hP1 k q hk1).lt (Nat.not_lt.mpr hq)
  refine ⟨Z', hZ', ?_, ?_, ⟨Nat.le_trans hS.1 (by rw [e1]; exact hz), fun q h1 h2 => by rw [e1, hk q (Nat.lt_of_lt_of_le h1 hS.1) (fun z => h2 (hin q z))]; exact hS.2.1 q h1 h2, fun q hq => by
      rcases List.mem_append.mp hq with h | h
      · exact hS.2.2 q h
      · exact hin _ (hL q h)⟩, hl, by omega, by omega⟩
  · rw [List.append_assoc, e1]
    refine va_P.app ?_ hP'
    exact hP1.kept fun k q hk1 => hk q.1 (hP1 k q hk1).lt (hnot k q hk1)
  · rw [List.append_assoc]
    refine va_D.app hD1 (hD'.weaken fun k q _ z => hin _ z) ?_
    intro i j p q hi hj e
    exact hnot i p hi (by rw [e]; exact hD'.2 j q hj)
theorem x_run {K : gKx} {PX : va_W} {G G' : gG} {pc : Nat} {lv : List (Option Value)} {st rest st2 : List Value} {S S' : gS} {T T' : gT} {c0 s0 : Nat} {own : String} {cc : ByteArray} {d mc ms : Nat} {v : Option Value} {a : Array Value} (g : Gd K own cc d) (hc : mc ≤ c0) (hs : ms ≤ s0) (h2 : v.toList ++ rest = st2)
    (hr : ∀ (H : Heap) (locs : List Loc) (cells slots : Nat) (ls : Array Slot) (Z : va_W), gAt K PX G lv S T c0 s0 H locs cells slots ls Z → cells + mc ≤ (kR K).cells ∧ slots + ms ≤ (kR K).slots →
      va_Run (kp K) (kl K) (ke K) (kR K) (ks K) (km K) (ka K) (kb K) (kM K) (kc K) H locs cells slots mc ms (F0 (km K) pc ls st) rest (gQ v (gPost (ky K) (kD K) G' S' T' (va_A (Z ++ gw (ky K) G S) H.size)) (va_A (Z ++ gw (ky K) G S) H.size) a) (va_A (Z ++ gw (ky K) G S) H.size))
    (k : Xj K PX G' (pc + 3) lv st2 S' T' (c0 - mc) (s0 - ms)) : Xj K PX G pc lv st S T c0 s0 := by
  intro H locs cells slots ls Z hat
  have hrm : kR K = grm d (kC K) (kS K) := g.2.2.2.2.2.2
  have hcap : cells + mc ≤ (kR K).cells ∧ slots + ms ≤ (kR K).slots := by
    have e1 : (kR K).cells = kC K := by rw [hrm]; rfl
    have e2 : (kR K).slots = kS K := by rw [hrm]; rfl
    rw [e1, e2]
    have := hat.2.2.2.2.2
    omega
  intro T0 hT X
  obtain ⟨v', st₀, t, T1, L, h0, X', hL, e1, e2, ⟨⟨hv, hB⟩, hF⟩, hst⟩ := hr H locs cells slots ls Z hat hcap T0 hT X
  cases hv
  obtain ⟨Z', hat'⟩ := gTake g hat hc hs h0 hL e1 hB hF
  subst h2
  obtain ⟨t2, a1, b1⟩ := k T1.heap (locs ++ L) (cells + mc) (slots + ms) ls Z' hat' T1 rfl X'
  exact ⟨t2, hst t2 a1, b1⟩
theorem gRoom {K : gKx} {own : String} {cc : ByteArray} {d d' mc ms maxL : Nat} (g : Gd K own cc d) (hd : d' + 1 ≤ d) (hm : maxL ≤ 40) : (grm d' mc ms).frames + 1 ≤ (kR K).frames ∧ 8 + (maxL + 11) + (grm d' mc ms).locals ≤ (kR K).locals := by
  rw [show kR K = grm d (kC K) (kS K) from g.2.2.2.2.2.2]
  show d' + 1 ≤ d ∧ 8 + (maxL + 11) + 64 * d' ≤ 64 * d
  omega
-- a virtual call within the tables: y's class is the receiver's
theorem x_callV {K : gKx} {PX : va_W} {G G' : gG} {pc b ci idx n : Nat} {lv : List (Option Value)} {st rest st2 As : List Value} {S S' : gS} {T T' : gT} {c0 s0 : Nat} {own : String} {cc : ByteArray} {d d' mc ms maxL : Nat} {ret : Option FieldType} {bytes : ByteArray} {y : MethodName} {v : Option Value} {fl : List (Nat ⊕ Nat)} {TC : u_T} {NC : Nat} (g : Gd K own cc d)
    (hC : Ct (ky K).2 y (Cond.code y bytes maxL ret :: gTb) d' mc ms (.ref b :: As) G S T v G' S' T') (hca : gCa y bytes maxL ret n) (hin : Cond.instanceMethod y ∈ lw_tbl) (hse : Cond.selects y.cls y y ∈ lw_tbl) (hlk : Cond.methodLink own idx y ∈ lw_tbl)
    (hb : gis G (gK G b) b) (hk : gkt (gK G b) = some (ci, fl)) (hcl : vwCl[ci]? = some (y.cls, TC, NC)) (hd : d' + 1 ≤ d) (hc : mc ≤ c0) (hs : ms ≤ s0) (hn : As.length = n) (hst : st = As.reverse ++ .ref b :: rest) (hW : (rest.map fun v => v.category).sum ≤ 8) (hdg : decode cc pc = .ok (.invokevirtual idx, 3)) (h2 : v.toList ++ rest = st2)
    (k : Xj K PX G' (pc + 3) lv st2 S' T' (c0 - mc) (s0 - ms)) : Xj K PX G pc lv st S T c0 s0 := by
  refine x_run (a := (Value.ref b :: As).toArray) g hc hs h2 (fun H locs cells slots ls Z hat hcap => ?_) k
  have hM := hC (kl K) (kD K) (ky K).1 Z H.size g.2.2.2.1 hat.1
  obtain ⟨q0, hq0, hq1⟩ : ∃ q0, ((PX ++ Z) ++ gw (ky K) G S)[q0]? = some (b, gce (ky K) G S b) ∧ True := by
    obtain ⟨q0, h⟩ := va_pl_get (X := PX ++ Z) (f := gce (ky K) G S) hb.1
    exact ⟨q0, h, trivial⟩
  rw [gce_obj hk] at hq0
  have hrec := va_recv g.2.1.1 hat.2.1 hcl hq0
  exact va_runV (cc := cc) (nL := kN K) (Ts := gTb) (own := own) (n := n) (C := y.cls) g.1 hM ⟨callB_of n g.1.2.2.2.2 (gGood hca.1) rfl rfl rfl (g.tb hca.2.1 rfl) (g.tb hlk rfl) hca.2.2.1 (gRoom g hd hca.2.2.2), g.tb hin rfl, g.tb hse rfl⟩
    ⟨gF_blind, hrec, fun U hU hW => ⟨rfl, gGive g hat U hU hW⟩⟩ rfl hn hat.2.2.2.2.1.1 hst (lv_room hW) hdg hcap
theorem x_callS {K : gKx} {PX : va_W} {G G' : gG} {pc idx n : Nat} {lv : List (Option Value)} {st rest st2 As : List Value} {S S' : gS} {T T' : gT} {c0 s0 : Nat} {own : String} {cc : ByteArray} {d d' mc ms maxL : Nat} {ret : Option FieldType} {bytes : ByteArray} {y : MethodName} {v : Option Value} (g : Gd K own cc d)
    (hC : Ct (ky K).2 y (Cond.code y bytes maxL ret :: gTb) d' mc ms As G S T v G' S' T') (hca : gCa y bytes maxL ret n) (hstc : Cond.static y ∈ lw_tbl) (hlk : Cond.methodLink own idx y ∈ lw_tbl)
    (hd : d' + 1 ≤ d) (hc : mc ≤ c0) (hs : ms ≤ s0) (hn : As.length = n) (hst : st = As.reverse ++ rest) (hW : (rest.map fun v => v.category).sum ≤ 8) (hdg : decode cc pc = .ok (.invokestatic idx, 3)) (h2 : v.toList ++ rest = st2)
    (k : Xj K PX G' (pc + 3) lv st2 S' T' (c0 - mc) (s0 - ms)) : Xj K PX G pc lv st S T c0 s0 := by
  refine x_run (a := As.toArray) g hc hs h2 (fun H locs cells slots ls Z hat hcap => ?_) k
  have hM := hC (kl K) (kD K) (ky K).1 Z H.size g.2.2.2.1 hat.1
  exact va_runS (cc := cc) (nL := kN K) (Ts := gTb) (own := own) (n := n) g.1 hM ⟨callB_of n g.1.2.2.2.2 (gGood hca.1) rfl rfl rfl (g.tb hca.2.1 rfl) (g.tb hlk rfl) hca.2.2.1 (gRoom g hd hca.2.2.2), g.tb hstc rfl⟩
    ⟨gF_blind, fun U hU hW => ⟨rfl, gGive g hat U hU hW⟩⟩ rfl hn hat.2.2.2.2.1.1 hst (lv_room hW) hdg hcap
-- a static call of a nest mate's private method
theorem x_callN {K : gKx} {PX : va_W} {G G' : gG} {pc idx n : Nat} {lv : List (Option Value)} {st rest st2 As : List Value} {S S' : gS} {T T' : gT} {c0 s0 : Nat} {own host : String} {cc : ByteArray} {d d' mc ms maxL : Nat} {ret : Option FieldType} {bytes : ByteArray} {y : MethodName} {v : Option Value} (g : Gd K own cc d)
    (hC : Ct (ky K).2 y (Cond.code y bytes maxL ret :: gTb) d' mc ms As G S T v G' S' T') (hca : gCa y bytes maxL ret n) (hstc : Cond.static y ∈ lw_tbl) (hlk : (own, idx, y, host) ∈ gNest)
    (hd : d' + 1 ≤ d) (hc : mc ≤ c0) (hs : ms ≤ s0) (hn : As.length = n) (hst : st = As.reverse ++ rest) (hW : (rest.map fun v => v.category).sum ≤ 8) (hdg : decode cc pc = .ok (.invokestatic idx, 3)) (h2 : v.toList ++ rest = st2)
    (k : Xj K PX G' (pc + 3) lv st2 S' T' (c0 - mc) (s0 - ms)) : Xj K PX G pc lv st S T c0 s0 := by
  refine x_run (a := As.toArray) g hc hs h2 (fun H locs cells slots ls Z hat hcap => ?_) k
  have hM := hC (kl K) (kD K) (ky K).1 Z H.size g.2.2.2.1 hat.1
  exact va_runSN (cc := cc) (nL := kN K) (Ts := gTb) (own := own) (host := host) (n := n) g.1 hM ⟨va_cnB n g.1.2.2.2.2 (gGood hca.1) rfl rfl rfl (g.2.1.2.1 _ hlk) (g.tb hca.2.1 rfl) hca.2.2.1 (gRoom g hd hca.2.2.2), g.tb hstc rfl, trivial⟩
    ⟨gF_blind, fun U hU hW => ⟨rfl, gGive g hat U hU hW⟩⟩ rfl hn hat.2.2.2.2.1.1 hst (lv_room hW) hdg hcap
-- returns
theorem gOut {K : gKx} {G : gG} {lv : List (Option Value)} {S : gS} {T : gT} {c0 s0 : Nat} {H : Heap} {locs : List Loc} {cells slots : Nat} {ls : Array Slot} {Z : va_W} {v : Option Value} (h : gAt K [] G lv S T c0 s0 H locs cells slots ls Z) : ∀ t : State, t.heap = H → (ks K).WarmedH t.vm → gQ v (gPost (ky K) (kD K) G S T (kA K)) (kA K) (ka K) (ks K) (.returned v) t := fun t ht _ =>
  ⟨⟨rfl, Z, h.1, by rw [ht]; exact h.2.1, h.2.2.1⟩, h.2.2.2.1.F ht⟩
theorem x_iret {K : gKx} {G : gG} {pc : Nat} {lv : List (Option Value)} {S : gS} {T : gT} {c0 s0 d : Nat} {own : String} {cc : ByteArray} {x : Int32} (g : Gd K own cc d) (e : gEnd K (some .int) (some (.int x)) G S T) (hdg : decode cc pc = .ok (.ireturn, 1)) : Xj K [] G pc lv [.int x] S T c0 s0 := by
  intro H locs cells slots ls Z hat
  unfold kW
  rw [e.2]
  have hb := hat.2.2.2.2.2
  refine W.widen (k := kC K) (n := kS K) (by omega) (by omega) ?_
  exact W.iret g.1.1 g.1.2.1 e.1 (gOut hat) hat.2.2.2.1.2.2 hdg g.2.2.2.2.2.1
theorem x_zret {K : gKx} {G : gG} {pc : Nat} {lv : List (Option Value)} {S : gS} {T : gT} {c0 s0 d : Nat} {own : String} {cc : ByteArray} {x : Int32} {ty : FieldType} (hn : narrow ty (.int x) = .int x) (g : Gd K own cc d) (e : gEnd K (some ty) (some (.int x)) G S T) (hdg : decode cc pc = .ok (.ireturn, 1)) : Xj K [] G pc lv [.int x] S T c0 s0 := by
  intro H locs cells slots ls Z hat
  unfold kW
  rw [e.2]
  have hb := hat.2.2.2.2.2
  refine W.widen (k := kC K) (n := kS K) (by omega) (by omega) ?_
  exact W.zret g.1.1 g.1.2.1 e.1 hn (gOut hat) hat.2.2.2.1.2.2 hdg g.2.2.2.2.2.1
theorem x_vret {K : gKx} {G : gG} {pc : Nat} {lv : List (Option Value)} {S : gS} {T : gT} {c0 s0 d : Nat} {own : String} {cc : ByteArray} (g : Gd K own cc d) (e : gEnd K none none G S T) (hdg : decode cc pc = .ok (.return_, 1)) : Xj K [] G pc lv [] S T c0 s0 := by
  intro H locs cells slots ls Z hat
  unfold kW
  rw [e.2]
  have hb := hat.2.2.2.2.2
  refine W.widen (k := kC K) (n := kS K) (by omega) (by omega) ?_
  exact W.vret g.1.1 g.1.2.1 e.1 (gOut hat) hat.2.2.2.1.2.2 hdg g.2.2.2.2.2.1
theorem x_aret {K : gKx} {G : gG} {pc : Nat} {lv : List (Option Value)} {S : gS} {T : gT} {c0 s0 d : Nat} {own C : String} {cc : ByteArray} {r : Option Nat} (g : Gd K own cc d) (e : gEnd K (some (.object C)) (some (va_rf r)) G S T) (hdg : decode cc pc = .ok (.areturn, 1)) : Xj K [] G pc lv [va_rf r] S T c0 s0 := by
  intro H locs cells slots ls Z hat
  unfold kW
  rw [e.2]
  have hb := hat.2.2.2.2.2
  refine W.widen (k := kC K) (n := kS K) (by omega) (by omega) ?_
  exact W.aret g.1.1 g.1.2.1 e.1 (Or.inl ⟨C, rfl⟩) (by cases r with | none => exact Or.inl rfl | some a => exact Or.inr ⟨a, rfl⟩) (gOut hat) hat.2.2.2.1.2.2 hdg g.2.2.2.2.2.1
end
section
/-! the instructions over Xj (laid by wip/whole/mkrows.py) -/
theorem x_iconst {K : gKx} {PX : va_W} {G : gG} {pc : Nat} {lv : List (Option Value)} {st : List Value} {S : gS} {T : gT} {c0 s0 d : Nat} {own : String} {cc : ByteArray} {n : Int} {v : Int32} (g : Gd K own cc d) (hdg : decode cc pc = .ok (.iconst n, 1)) (hv : Int32.ofInt n = v) (k : Xj K PX G (pc + 1) lv (.int v :: st) S T c0 s0) : Xj K PX G (pc) lv (st) S T c0 s0 := fun H locs cells slots ls Z h => lv_iconst g.1.1 g.1.2.1 hdg hv (k H locs cells slots ls Z h)
theorem x_bipush {K : gKx} {PX : va_W} {G : gG} {pc : Nat} {lv : List (Option Value)} {st : List Value} {S : gS} {T : gT} {c0 s0 d : Nat} {own : String} {cc : ByteArray} {n : Int} {v : Int32} (g : Gd K own cc d) (hdg : decode cc pc = .ok (.bipush n, 2)) (hv : (Int8.ofInt n).toInt32 = v) (k : Xj K PX G (pc + 2) lv (.int v :: st) S T c0 s0) : Xj K PX G (pc) lv (st) S T c0 s0 := fun H locs cells slots ls Z h => lv_bipush g.1.1 g.1.2.1 hdg hv (k H locs cells slots ls Z h)
theorem x_sipush {K : gKx} {PX : va_W} {G : gG} {pc : Nat} {lv : List (Option Value)} {st : List Value} {S : gS} {T : gT} {c0 s0 d : Nat} {own : String} {cc : ByteArray} {n : Int} {v : Int32} (g : Gd K own cc d) (hdg : decode cc pc = .ok (.sipush n, 3)) (hv : (Int16.ofInt n).toInt32 = v) (k : Xj K PX G (pc + 3) lv (.int v :: st) S T c0 s0) : Xj K PX G (pc) lv (st) S T c0 s0 := fun H locs cells slots ls Z h => lv_sipush g.1.1 g.1.2.1 hdg hv (k H locs cells slots ls Z h)
theorem x_null {K : gKx} {PX : va_W} {G : gG} {pc : Nat} {lv : List (Option Value)} {st : List Value} {S : gS} {T : gT} {c0 s0 d : Nat} {own : String} {cc : ByteArray} (g : Gd K own cc d) (hdg : decode cc pc = .ok (.aconst_null, 1)) (k : Xj K PX G (pc + 1) lv (.null :: st) S T c0 s0) : Xj K PX G (pc) lv (st) S T c0 s0 := fun H locs cells slots ls Z h => lv_null g.1.1 g.1.2.1 hdg (k H locs cells slots ls Z h)
theorem x_iadd {K : gKx} {PX : va_W} {G : gG} {pc : Nat} {lv : List (Option Value)} {st : List Value} {S : gS} {T : gT} {c0 s0 d : Nat} {own : String} {cc : ByteArray} {x y : Int32} (g : Gd K own cc d) (hdg : decode cc pc = .ok (.iadd, 1)) (k : Xj K PX G (pc + 1) lv (.int (x + y) :: st) S T c0 s0) : Xj K PX G (pc) lv (.int y :: .int x :: st) S T c0 s0 := fun H locs cells slots ls Z h => lv_iadd g.1.1 g.1.2.1 hdg (k H locs cells slots ls Z h)
theorem x_isub {K : gKx} {PX : va_W} {G : gG} {pc : Nat} {lv : List (Option Value)} {st : List Value} {S : gS} {T : gT} {c0 s0 d : Nat} {own : String} {cc : ByteArray} {x y : Int32} (g : Gd K own cc d) (hdg : decode cc pc = .ok (.isub, 1)) (k : Xj K PX G (pc + 1) lv (.int (x - y) :: st) S T c0 s0) : Xj K PX G (pc) lv (.int y :: .int x :: st) S T c0 s0 := fun H locs cells slots ls Z h => lv_isub g.1.1 g.1.2.1 hdg (k H locs cells slots ls Z h)
theorem x_imul {K : gKx} {PX : va_W} {G : gG} {pc : Nat} {lv : List (Option Value)} {st : List Value} {S : gS} {T : gT} {c0 s0 d : Nat} {own : String} {cc : ByteArray} {x y : Int32} (g : Gd K own cc d) (hdg : decode cc pc = .ok (.imul, 1)) (k : Xj K PX G (pc + 1) lv (.int (x * y) :: st) S T c0 s0) : Xj K PX G (pc) lv (.int y :: .int x :: st) S T c0 s0 := fun H locs cells slots ls Z h => lv_imul g.1.1 g.1.2.1 hdg (k H locs cells slots ls Z h)
theorem x_iand {K : gKx} {PX : va_W} {G : gG} {pc : Nat} {lv : List (Option Value)} {st : List Value} {S : gS} {T : gT} {c0 s0 d : Nat} {own : String} {cc : ByteArray} {x y : Int32} (g : Gd K own cc d) (hdg : decode cc pc = .ok (.iand, 1)) (k : Xj K PX G (pc + 1) lv (.int (x &&& y) :: st) S T c0 s0) : Xj K PX G (pc) lv (.int y :: .int x :: st) S T c0 s0 := fun H locs cells slots ls Z h => lv_iand g.1.1 g.1.2.1 hdg (k H locs cells slots ls Z h)
theorem x_ior {K : gKx} {PX : va_W} {G : gG} {pc : Nat} {lv : List (Option Value)} {st : List Value} {S : gS} {T : gT} {c0 s0 d : Nat} {own : String} {cc : ByteArray} {x y : Int32} (g : Gd K own cc d) (hdg : decode cc pc = .ok (.ior, 1)) (k : Xj K PX G (pc + 1) lv (.int (x ||| y) :: st) S T c0 s0) : Xj K PX G (pc) lv (.int y :: .int x :: st) S T c0 s0 := fun H locs cells slots ls Z h => lv_ior g.1.1 g.1.2.1 hdg (k H locs cells slots ls Z h)
theorem x_ixor {K : gKx} {PX : va_W} {G : gG} {pc : Nat} {lv : List (Option Value)} {st : List Value} {S : gS} {T : gT} {c0 s0 d : Nat} {own : String} {cc : ByteArray} {x y : Int32} (g : Gd K own cc d) (hdg : decode cc pc = .ok (.ixor, 1)) (k : Xj K PX G (pc + 1) lv (.int (x ^^^ y) :: st) S T c0 s0) : Xj K PX G (pc) lv (.int y :: .int x :: st) S T c0 s0 := fun H locs cells slots ls Z h => lv_ixor g.1.1 g.1.2.1 hdg (k H locs cells slots ls Z h)
theorem x_ishl {K : gKx} {PX : va_W} {G : gG} {pc : Nat} {lv : List (Option Value)} {st : List Value} {S : gS} {T : gT} {c0 s0 d : Nat} {own : String} {cc : ByteArray} {x y : Int32} (g : Gd K own cc d) (hdg : decode cc pc = .ok (.ishl, 1)) (k : Xj K PX G (pc + 1) lv (.int (x <<< (y &&& 31)) :: st) S T c0 s0) : Xj K PX G (pc) lv (.int y :: .int x :: st) S T c0 s0 := fun H locs cells slots ls Z h => lv_ishl g.1.1 g.1.2.1 hdg (k H locs cells slots ls Z h)
theorem x_ishr {K : gKx} {PX : va_W} {G : gG} {pc : Nat} {lv : List (Option Value)} {st : List Value} {S : gS} {T : gT} {c0 s0 d : Nat} {own : String} {cc : ByteArray} {x y : Int32} (g : Gd K own cc d) (hdg : decode cc pc = .ok (.ishr, 1)) (k : Xj K PX G (pc + 1) lv (.int (x >>> (y &&& 31)) :: st) S T c0 s0) : Xj K PX G (pc) lv (.int y :: .int x :: st) S T c0 s0 := fun H locs cells slots ls Z h => lv_ishr g.1.1 g.1.2.1 hdg (k H locs cells slots ls Z h)
theorem x_idiv {K : gKx} {PX : va_W} {G : gG} {pc : Nat} {lv : List (Option Value)} {st : List Value} {S : gS} {T : gT} {c0 s0 d : Nat} {own : String} {cc : ByteArray} {x y : Int32} (g : Gd K own cc d) (hdg : decode cc pc = .ok (.idiv, 1)) (hne : ¬ y = 0) (k : Xj K PX G (pc + 1) lv (.int (x / y) :: st) S T c0 s0) : Xj K PX G (pc) lv (.int y :: .int x :: st) S T c0 s0 := fun H locs cells slots ls Z h => lv_idiv g.1.1 g.1.2.1 hdg hne (k H locs cells slots ls Z h)
theorem x_irem {K : gKx} {PX : va_W} {G : gG} {pc : Nat} {lv : List (Option Value)} {st : List Value} {S : gS} {T : gT} {c0 s0 d : Nat} {own : String} {cc : ByteArray} {x y : Int32} (g : Gd K own cc d) (hdg : decode cc pc = .ok (.irem, 1)) (hne : ¬ y = 0) (k : Xj K PX G (pc + 1) lv (.int (x - x / y * y) :: st) S T c0 s0) : Xj K PX G (pc) lv (.int y :: .int x :: st) S T c0 s0 := fun H locs cells slots ls Z h => lv_irem g.1.1 g.1.2.1 hdg hne (k H locs cells slots ls Z h)
theorem x_ineg {K : gKx} {PX : va_W} {G : gG} {pc : Nat} {lv : List (Option Value)} {st : List Value} {S : gS} {T : gT} {c0 s0 d : Nat} {own : String} {cc : ByteArray} {x : Int32} (g : Gd K own cc d) (hdg : decode cc pc = .ok (.ineg, 1)) (k : Xj K PX G (pc + 1) lv (.int (-x) :: st) S T c0 s0) : Xj K PX G (pc) lv (.int x :: st) S T c0 s0 := fun H locs cells slots ls Z h => lv_ineg g.1.1 g.1.2.1 hdg (k H locs cells slots ls Z h)
theorem x_i2c {K : gKx} {PX : va_W} {G : gG} {pc : Nat} {lv : List (Option Value)} {st : List Value} {S : gS} {T : gT} {c0 s0 d : Nat} {own : String} {cc : ByteArray} {x v : Int32} (g : Gd K own cc d) (hdg : decode cc pc = .ok (.i2c, 1)) (hv : (x.toUInt32 % 65536).toInt32 = v) (k : Xj K PX G (pc + 1) lv (.int v :: st) S T c0 s0) : Xj K PX G (pc) lv (.int x :: st) S T c0 s0 := fun H locs cells slots ls Z h => lv_i2c g.1.1 g.1.2.1 hdg hv (k H locs cells slots ls Z h)
theorem x_i2l {K : gKx} {PX : va_W} {G : gG} {pc : Nat} {lv : List (Option Value)} {st : List Value} {S : gS} {T : gT} {c0 s0 d : Nat} {own : String} {cc : ByteArray} {x : Int32} {v : Int64} (g : Gd K own cc d) (hdg : decode cc pc = .ok (.i2l, 1)) (hv : x.toInt64 = v) (k : Xj K PX G (pc + 1) lv (.long v :: st) S T c0 s0) : Xj K PX G (pc) lv (.int x :: st) S T c0 s0 := fun H locs cells slots ls Z h => lv_i2l g.1.1 g.1.2.1 hdg hv (k H locs cells slots ls Z h)
theorem x_i2d {K : gKx} {PX : va_W} {G : gG} {pc : Nat} {lv : List (Option Value)} {st : List Value} {S : gS} {T : gT} {c0 s0 d : Nat} {own : String} {cc : ByteArray} {x : Int32} (g : Gd K own cc d) (hdg : decode cc pc = .ok (.i2d, 1)) (k : Xj K PX G (pc + 1) lv (.double (FP.i2d x) :: st) S T c0 s0) : Xj K PX G (pc) lv (.int x :: st) S T c0 s0 := fun H locs cells slots ls Z h => lv_i2d g.1.1 g.1.2.1 hdg (k H locs cells slots ls Z h)
theorem x_i2f {K : gKx} {PX : va_W} {G : gG} {pc : Nat} {lv : List (Option Value)} {st : List Value} {S : gS} {T : gT} {c0 s0 d : Nat} {own : String} {cc : ByteArray} {x : Int32} (g : Gd K own cc d) (hdg : decode cc pc = .ok (.i2f, 1)) (k : Xj K PX G (pc + 1) lv (.float (FP.i2f x) :: st) S T c0 s0) : Xj K PX G (pc) lv (.int x :: st) S T c0 s0 := fun H locs cells slots ls Z h => lv_i2f g.1.1 g.1.2.1 hdg (k H locs cells slots ls Z h)
theorem x_ddiv {K : gKx} {PX : va_W} {G : gG} {pc : Nat} {lv : List (Option Value)} {st : List Value} {S : gS} {T : gT} {c0 s0 d : Nat} {own : String} {cc : ByteArray} {x y : UInt64} (g : Gd K own cc d) (hdg : decode cc pc = .ok (.ddiv, 1)) (hne : vf_n64 (FP.ddiv x y)) (k : Xj K PX G (pc + 1) lv (.double (FP.ddiv x y) :: st) S T c0 s0) : Xj K PX G (pc) lv (.double y :: .double x :: st) S T c0 s0 := fun H locs cells slots ls Z h => lv_ddiv g.1.1 g.1.2.1 hdg hne (k H locs cells slots ls Z h)
theorem x_fdiv {K : gKx} {PX : va_W} {G : gG} {pc : Nat} {lv : List (Option Value)} {st : List Value} {S : gS} {T : gT} {c0 s0 d : Nat} {own : String} {cc : ByteArray} {x y : UInt32} (g : Gd K own cc d) (hdg : decode cc pc = .ok (.fdiv, 1)) (hne : vf_n32 (FP.fdiv x y)) (k : Xj K PX G (pc + 1) lv (.float (FP.fdiv x y) :: st) S T c0 s0) : Xj K PX G (pc) lv (.float y :: .float x :: st) S T c0 s0 := fun H locs cells slots ls Z h => lv_fdiv g.1.1 g.1.2.1 hdg hne (k H locs cells slots ls Z h)
theorem x_f2d {K : gKx} {PX : va_W} {G : gG} {pc : Nat} {lv : List (Option Value)} {st : List Value} {S : gS} {T : gT} {c0 s0 d : Nat} {own : String} {cc : ByteArray} {x : UInt32} (g : Gd K own cc d) (hdg : decode cc pc = .ok (.f2d, 1)) (hne : vf_n64 (FP.f2d x)) (k : Xj K PX G (pc + 1) lv (.double (FP.f2d x) :: st) S T c0 s0) : Xj K PX G (pc) lv (.float x :: st) S T c0 s0 := fun H locs cells slots ls Z h => lv_f2d g.1.1 g.1.2.1 hdg hne (k H locs cells slots ls Z h)
theorem x_dup {K : gKx} {PX : va_W} {G : gG} {pc : Nat} {lv : List (Option Value)} {st : List Value} {S : gS} {T : gT} {c0 s0 d : Nat} {own : String} {cc : ByteArray} {va : Value} (g : Gd K own cc d) (hdg : decode cc pc = .ok (.dup, 1)) (hva : va.category = 1) (k : Xj K PX G (pc + 1) lv (va :: va :: st) S T c0 s0) : Xj K PX G (pc) lv (va :: st) S T c0 s0 := fun H locs cells slots ls Z h => lv_dup g.1.1 g.1.2.1 hdg hva (k H locs cells slots ls Z h)
theorem x_dup2 {K : gKx} {PX : va_W} {G : gG} {pc : Nat} {lv : List (Option Value)} {st : List Value} {S : gS} {T : gT} {c0 s0 d : Nat} {own : String} {cc : ByteArray} {va vb : Value} (g : Gd K own cc d) (hdg : decode cc pc = .ok (.dup2, 1)) (hva : va.category = 1) (hvb : vb.category = 1) (k : Xj K PX G (pc + 1) lv (va :: vb :: va :: vb :: st) S T c0 s0) : Xj K PX G (pc) lv (va :: vb :: st) S T c0 s0 := fun H locs cells slots ls Z h => lv_dup2_11 g.1.1 g.1.2.1 hdg hva hvb (k H locs cells slots ls Z h)
theorem x_pop {K : gKx} {PX : va_W} {G : gG} {pc : Nat} {lv : List (Option Value)} {st : List Value} {S : gS} {T : gT} {c0 s0 d : Nat} {own : String} {cc : ByteArray} {va : Value} (g : Gd K own cc d) (hdg : decode cc pc = .ok (.pop, 1)) (hva : va.category = 1) (k : Xj K PX G (pc + 1) lv (st) S T c0 s0) : Xj K PX G (pc) lv (va :: st) S T c0 s0 := fun H locs cells slots ls Z h => lv_pop g.1.1 g.1.2.1 hdg hva (k H locs cells slots ls Z h)
theorem x_topi {K : gKx} {PX : va_W} {G : gG} {pc : Nat} {lv : List (Option Value)} {st : List Value} {S : gS} {T : gT} {c0 s0 d : Nat} {own : String} {cc : ByteArray} {x : Int32} (k : ∀ y : Int32, y = x → Xj K PX G (pc) lv (.int y :: st) S T c0 s0) : Xj K PX G (pc) lv (.int x :: st) S T c0 s0 := k x rfl
theorem x_topl {K : gKx} {PX : va_W} {G : gG} {pc : Nat} {lv : List (Option Value)} {st : List Value} {S : gS} {T : gT} {c0 s0 d : Nat} {own : String} {cc : ByteArray} {x : Int64} (k : ∀ y : Int64, y = x → Xj K PX G (pc) lv (.long y :: st) S T c0 s0) : Xj K PX G (pc) lv (.long x :: st) S T c0 s0 := k x rfl
theorem x_S {K : gKx} {PX : va_W} {G : gG} {pc : Nat} {lv : List (Option Value)} {st : List Value} {S : gS} {T : gT} {c0 s0 d : Nat} {own : String} {cc : ByteArray} {S0 : gS} (k : ∀ S1 : gS, S1 = S → Xj K PX G (pc) lv (st) S1 T c0 s0) : Xj K PX G (pc) lv (st) S T c0 s0 := k S rfl
theorem x_iload {K : gKx} {PX : va_W} {G : gG} {pc : Nat} {lv : List (Option Value)} {st : List Value} {S : gS} {T : gT} {c0 s0 d : Nat} {own : String} {cc : ByteArray} {i : Nat} {x : Int32} (g : Gd K own cc d) (hdg : decode cc pc = .ok (.iload i, 2)) (hl : lv[i]? = some (some (.int x))) (k : Xj K PX G (pc + 2) lv (.int x :: st) S T c0 s0) : Xj K PX G (pc) lv (st) S T c0 s0 := fun H locs cells slots ls Z h => lv_iload g.1.1 g.1.2.1 hdg (h.2.2.2.2.1.2.2.2 i _ hl) (k H locs cells slots ls Z h)
theorem x_iload_n {K : gKx} {PX : va_W} {G : gG} {pc : Nat} {lv : List (Option Value)} {st : List Value} {S : gS} {T : gT} {c0 s0 d : Nat} {own : String} {cc : ByteArray} {kk : Fin 4} {x : Int32} (i : Nat) (g : Gd K own cc d) (hdg : decode cc pc = .ok (.iload_n kk, 1)) (hi : (kk : Nat) = i) (hl : lv[i]? = some (some (.int x))) (k : Xj K PX G (pc + 1) lv (.int x :: st) S T c0 s0) : Xj K PX G (pc) lv (st) S T c0 s0 := fun H locs cells slots ls Z h => lv_iload_n g.1.1 g.1.2.1 hdg hi (h.2.2.2.2.1.2.2.2 i _ hl) (k H locs cells slots ls Z h)
theorem x_aload {K : gKx} {PX : va_W} {G : gG} {pc : Nat} {lv : List (Option Value)} {st : List Value} {S : gS} {T : gT} {c0 s0 d : Nat} {own : String} {cc : ByteArray} {i : Nat} {x : Nat} (g : Gd K own cc d) (hdg : decode cc pc = .ok (.aload i, 2)) (hl : lv[i]? = some (some (.ref x))) (k : Xj K PX G (pc + 2) lv (.ref x :: st) S T c0 s0) : Xj K PX G (pc) lv (st) S T c0 s0 := fun H locs cells slots ls Z h => lv_aload g.1.1 g.1.2.1 hdg (h.2.2.2.2.1.2.2.2 i _ hl) (k H locs cells slots ls Z h)
theorem x_aload_n {K : gKx} {PX : va_W} {G : gG} {pc : Nat} {lv : List (Option Value)} {st : List Value} {S : gS} {T : gT} {c0 s0 d : Nat} {own : String} {cc : ByteArray} {kk : Fin 4} {x : Nat} (i : Nat) (g : Gd K own cc d) (hdg : decode cc pc = .ok (.aload_n kk, 1)) (hi : (kk : Nat) = i) (hl : lv[i]? = some (some (.ref x))) (k : Xj K PX G (pc + 1) lv (.ref x :: st) S T c0 s0) : Xj K PX G (pc) lv (st) S T c0 s0 := fun H locs cells slots ls Z h => lv_aload_n g.1.1 g.1.2.1 hdg hi (h.2.2.2.2.1.2.2.2 i _ hl) (k H locs cells slots ls Z h)
theorem x_lload {K : gKx} {PX : va_W} {G : gG} {pc : Nat} {lv : List (Option Value)} {st : List Value} {S : gS} {T : gT} {c0 s0 d : Nat} {own : String} {cc : ByteArray} {i : Nat} {x : Int64} (g : Gd K own cc d) (hdg : decode cc pc = .ok (.lload i, 2)) (hl : lv[i]? = some (some (.long x))) (k : Xj K PX G (pc + 2) lv (.long x :: st) S T c0 s0) : Xj K PX G (pc) lv (st) S T c0 s0 := fun H locs cells slots ls Z h => lv_lload g.1.1 g.1.2.1 hdg (h.2.2.2.2.1.2.2.2 i _ hl) (k H locs cells slots ls Z h)
theorem x_lload_n {K : gKx} {PX : va_W} {G : gG} {pc : Nat} {lv : List (Option Value)} {st : List Value} {S : gS} {T : gT} {c0 s0 d : Nat} {own : String} {cc : ByteArray} {kk : Fin 4} {x : Int64} (i : Nat) (g : Gd K own cc d) (hdg : decode cc pc = .ok (.lload_n kk, 1)) (hi : (kk : Nat) = i) (hl : lv[i]? = some (some (.long x))) (k : Xj K PX G (pc + 1) lv (.long x :: st) S T c0 s0) : Xj K PX G (pc) lv (st) S T c0 s0 := fun H locs cells slots ls Z h => lv_lload_n g.1.1 g.1.2.1 hdg hi (h.2.2.2.2.1.2.2.2 i _ hl) (k H locs cells slots ls Z h)
theorem x_dload {K : gKx} {PX : va_W} {G : gG} {pc : Nat} {lv : List (Option Value)} {st : List Value} {S : gS} {T : gT} {c0 s0 d : Nat} {own : String} {cc : ByteArray} {i : Nat} {x : UInt64} (g : Gd K own cc d) (hdg : decode cc pc = .ok (.dload i, 2)) (hl : lv[i]? = some (some (.double x))) (k : Xj K PX G (pc + 2) lv (.double x :: st) S T c0 s0) : Xj K PX G (pc) lv (st) S T c0 s0 := fun H locs cells slots ls Z h => lv_dload g.1.1 g.1.2.1 hdg (h.2.2.2.2.1.2.2.2 i _ hl) (k H locs cells slots ls Z h)
theorem x_dload_n {K : gKx} {PX : va_W} {G : gG} {pc : Nat} {lv : List (Option Value)} {st : List Value} {S : gS} {T : gT} {c0 s0 d : Nat} {own : String} {cc : ByteArray} {kk : Fin 4} {x : UInt64} (i : Nat) (g : Gd K own cc d) (hdg : decode cc pc = .ok (.dload_n kk, 1)) (hi : (kk : Nat) = i) (hl : lv[i]? = some (some (.double x))) (k : Xj K PX G (pc + 1) lv (.double x :: st) S T c0 s0) : Xj K PX G (pc) lv (st) S T c0 s0 := fun H locs cells slots ls Z h => lv_dload_n g.1.1 g.1.2.1 hdg hi (h.2.2.2.2.1.2.2.2 i _ hl) (k H locs cells slots ls Z h)
theorem x_fload {K : gKx} {PX : va_W} {G : gG} {pc : Nat} {lv : List (Option Value)} {st : List Value} {S : gS} {T : gT} {c0 s0 d : Nat} {own : String} {cc : ByteArray} {i : Nat} {x : UInt32} (g : Gd K own cc d) (hdg : decode cc pc = .ok (.fload i, 2)) (hl : lv[i]? = some (some (.float x))) (k : Xj K PX G (pc + 2) lv (.float x :: st) S T c0 s0) : Xj K PX G (pc) lv (st) S T c0 s0 := fun H locs cells slots ls Z h => lv_fload g.1.1 g.1.2.1 hdg (h.2.2.2.2.1.2.2.2 i _ hl) (k H locs cells slots ls Z h)
theorem x_fload_n {K : gKx} {PX : va_W} {G : gG} {pc : Nat} {lv : List (Option Value)} {st : List Value} {S : gS} {T : gT} {c0 s0 d : Nat} {own : String} {cc : ByteArray} {kk : Fin 4} {x : UInt32} (i : Nat) (g : Gd K own cc d) (hdg : decode cc pc = .ok (.fload_n kk, 1)) (hi : (kk : Nat) = i) (hl : lv[i]? = some (some (.float x))) (k : Xj K PX G (pc + 1) lv (.float x :: st) S T c0 s0) : Xj K PX G (pc) lv (st) S T c0 s0 := fun H locs cells slots ls Z h => lv_fload_n g.1.1 g.1.2.1 hdg hi (h.2.2.2.2.1.2.2.2 i _ hl) (k H locs cells slots ls Z h)
def gpv (lv : List (Option Value)) : Nat → Bool := fun i => match i with
  | 0 => true
  | j + 1 => match lv[j]? with
    | some (some v) => v.category == 1
    | _ => true
theorem gpv_ok {lv : List (Option Value)} {i : Nat} (h : gpv lv i = true) : ∀ w, lv[i - 1]? = some (some w) → 0 < i → w.category = 1 := by
  intro w hw hi
  cases i with
  | zero => omega
  | succ j =>
    rw [Nat.add_sub_cancel] at hw
    have h2 : (match lv[j]? with
      | some (some v) => v.category == 1
      | _ => true) = true := h
    rw [hw] at h2
    simpa using h2
theorem gl_lt {ls : Array Slot} {nL i : Nat} {lv : List (Option Value)} (h : gl ls nL lv) (hi : i < lv.length) : i < nL := by
  rw [← h.2.2.1]; exact hi
theorem x_istore {K : gKx} {PX : va_W} {G : gG} {pc : Nat} {lv : List (Option Value)} {st : List Value} {S : gS} {T : gT} {c0 s0 d : Nat} {own : String} {cc : ByteArray} {i : Nat} {x : Int32} (g : Gd K own cc d) (hdg : decode cc pc = .ok (.istore i, 2)) (hi : i < lv.length) (hp : gpv lv i = true) (k : Xj K PX G (pc + 2) (lv.set i (some (.int x))) (st) S T c0 s0) : Xj K PX G (pc) lv (.int x :: st) S T c0 s0 := fun H locs cells slots ls Z h => lv_istore g.1.1 g.1.2.1 hdg (gl_has h.2.2.2.2.1) (gl_lt h.2.2.2.2.1 hi) rfl (fun ls' h' => k H locs cells slots ls' Z ⟨h.1, h.2.1, h.2.2.1, h.2.2.2.1, gl_of (gpv_ok hp) (gl_lt h.2.2.2.2.1 hi) h.2.2.2.2.1.2.2.1 h', h.2.2.2.2.2⟩)
theorem x_istore_n {K : gKx} {PX : va_W} {G : gG} {pc : Nat} {lv : List (Option Value)} {st : List Value} {S : gS} {T : gT} {c0 s0 d : Nat} {own : String} {cc : ByteArray} {kk : Fin 4} {x : Int32} (i : Nat) (g : Gd K own cc d) (hdg : decode cc pc = .ok (.istore_n kk, 1)) (hk : (kk : Nat) = i) (hi : i < lv.length) (hp : gpv lv i = true) (k : Xj K PX G (pc + 1) (lv.set i (some (.int x))) (st) S T c0 s0) : Xj K PX G (pc) lv (.int x :: st) S T c0 s0 := fun H locs cells slots ls Z h => lv_istore_n g.1.1 g.1.2.1 hdg hk (gl_has h.2.2.2.2.1) (gl_lt h.2.2.2.2.1 hi) rfl (fun ls' h' => k H locs cells slots ls' Z ⟨h.1, h.2.1, h.2.2.1, h.2.2.2.1, gl_of (gpv_ok hp) (gl_lt h.2.2.2.2.1 hi) h.2.2.2.2.1.2.2.1 h', h.2.2.2.2.2⟩)
theorem x_astore {K : gKx} {PX : va_W} {G : gG} {pc : Nat} {lv : List (Option Value)} {st : List Value} {S : gS} {T : gT} {c0 s0 d : Nat} {own : String} {cc : ByteArray} {i : Nat} {x : Nat} (g : Gd K own cc d) (hdg : decode cc pc = .ok (.astore i, 2)) (hi : i < lv.length) (hp : gpv lv i = true) (k : Xj K PX G (pc + 2) (lv.set i (some (.ref x))) (st) S T c0 s0) : Xj K PX G (pc) lv (.ref x :: st) S T c0 s0 := fun H locs cells slots ls Z h => lv_astore g.1.1 g.1.2.1 hdg (gl_has h.2.2.2.2.1) (gl_lt h.2.2.2.2.1 hi) rfl (fun ls' h' => k H locs cells slots ls' Z ⟨h.1, h.2.1, h.2.2.1, h.2.2.2.1, gl_of (gpv_ok hp) (gl_lt h.2.2.2.2.1 hi) h.2.2.2.2.1.2.2.1 h', h.2.2.2.2.2⟩)
theorem x_astore_n {K : gKx} {PX : va_W} {G : gG} {pc : Nat} {lv : List (Option Value)} {st : List Value} {S : gS} {T : gT} {c0 s0 d : Nat} {own : String} {cc : ByteArray} {kk : Fin 4} {x : Nat} (i : Nat) (g : Gd K own cc d) (hdg : decode cc pc = .ok (.astore_n kk, 1)) (hk : (kk : Nat) = i) (hi : i < lv.length) (hp : gpv lv i = true) (k : Xj K PX G (pc + 1) (lv.set i (some (.ref x))) (st) S T c0 s0) : Xj K PX G (pc) lv (.ref x :: st) S T c0 s0 := fun H locs cells slots ls Z h => lv_astore_n g.1.1 g.1.2.1 hdg hk (gl_has h.2.2.2.2.1) (gl_lt h.2.2.2.2.1 hi) rfl (fun ls' h' => k H locs cells slots ls' Z ⟨h.1, h.2.1, h.2.2.1, h.2.2.2.1, gl_of (gpv_ok hp) (gl_lt h.2.2.2.2.1 hi) h.2.2.2.2.1.2.2.1 h', h.2.2.2.2.2⟩)
theorem x_fstore {K : gKx} {PX : va_W} {G : gG} {pc : Nat} {lv : List (Option Value)} {st : List Value} {S : gS} {T : gT} {c0 s0 d : Nat} {own : String} {cc : ByteArray} {i : Nat} {x : UInt32} (g : Gd K own cc d) (hdg : decode cc pc = .ok (.fstore i, 2)) (hi : i < lv.length) (hp : gpv lv i = true) (k : Xj K PX G (pc + 2) (lv.set i (some (.float x))) (st) S T c0 s0) : Xj K PX G (pc) lv (.float x :: st) S T c0 s0 := fun H locs cells slots ls Z h => lv_fstore g.1.1 g.1.2.1 hdg (gl_has h.2.2.2.2.1) (gl_lt h.2.2.2.2.1 hi) rfl (fun ls' h' => k H locs cells slots ls' Z ⟨h.1, h.2.1, h.2.2.1, h.2.2.2.1, gl_of (gpv_ok hp) (gl_lt h.2.2.2.2.1 hi) h.2.2.2.2.1.2.2.1 h', h.2.2.2.2.2⟩)
theorem x_fstore_n {K : gKx} {PX : va_W} {G : gG} {pc : Nat} {lv : List (Option Value)} {st : List Value} {S : gS} {T : gT} {c0 s0 d : Nat} {own : String} {cc : ByteArray} {kk : Fin 4} {x : UInt32} (i : Nat) (g : Gd K own cc d) (hdg : decode cc pc = .ok (.fstore_n kk, 1)) (hk : (kk : Nat) = i) (hi : i < lv.length) (hp : gpv lv i = true) (k : Xj K PX G (pc + 1) (lv.set i (some (.float x))) (st) S T c0 s0) : Xj K PX G (pc) lv (.float x :: st) S T c0 s0 := fun H locs cells slots ls Z h => lv_fstore_n g.1.1 g.1.2.1 hdg hk (gl_has h.2.2.2.2.1) (gl_lt h.2.2.2.2.1 hi) rfl (fun ls' h' => k H locs cells slots ls' Z ⟨h.1, h.2.1, h.2.2.1, h.2.2.2.1, gl_of (gpv_ok hp) (gl_lt h.2.2.2.2.1 hi) h.2.2.2.2.1.2.2.1 h', h.2.2.2.2.2⟩)
theorem x_iinc {K : gKx} {PX : va_W} {G : gG} {pc : Nat} {lv : List (Option Value)} {st : List Value} {S : gS} {T : gT} {c0 s0 d : Nat} {own : String} {cc : ByteArray} {i : Nat} {n : Int} {x v : Int32} (g : Gd K own cc d) (hdg : decode cc pc = .ok (.iinc i n, 3)) (hl : lv[i]? = some (some (.int x))) (hv : x + Int32.ofInt n = v) (hp : gpv lv i = true) (k : Xj K PX G (pc + 3) (lv.set i (some (.int v))) (st) S T c0 s0) : Xj K PX G (pc) lv (st) S T c0 s0 := fun H locs cells slots ls Z h => by
  obtain ⟨j, hj⟩ := List.getElem?_of_mem (gas_mem.mpr hl)
  have hi := (List.getElem?_eq_some_iff.mp hl).1
  exact lv_iinc g.1.1 g.1.2.1 hdg (gl_has h.2.2.2.2.1) hj hv (gl_lt h.2.2.2.2.1 hi) rfl (fun ls' h' => k H locs cells slots ls' Z ⟨h.1, h.2.1, h.2.2.1, h.2.2.2.1, gl_of (gpv_ok hp) (gl_lt h.2.2.2.2.1 hi) h.2.2.2.2.1.2.2.1 h', h.2.2.2.2.2⟩)
theorem x_drop {K : gKx} {PX : va_W} {G : gG} {pc : Nat} {lv : List (Option Value)} {st : List Value} {S : gS} {T : gT} {c0 s0 d : Nat} {own : String} {cc : ByteArray} (i : Nat) (k : Xj K PX G (pc) (lv.set i none) (st) S T c0 s0) : Xj K PX G (pc) lv (st) S T c0 s0 := fun H locs cells slots ls Z h => k H locs cells slots ls Z ⟨h.1, h.2.1, h.2.2.1, h.2.2.2.1, gl_drop i h.2.2.2.2.1, h.2.2.2.2.2⟩
theorem x_room {K : gKx} {PX : va_W} {G : gG} {pc : Nat} {lv : List (Option Value)} {st : List Value} {S : gS} {T : gT} {c0 s0 d : Nat} {own : String} {cc : ByteArray} {c1 s1 : Nat} (hc : c1 ≤ c0) (hs : s1 ≤ s0) (k : Xj K PX G pc lv st S T c1 s1) : Xj K PX G (pc) lv (st) S T c0 s0 := fun H locs cells slots ls Z h => k H locs cells slots ls Z ⟨h.1, h.2.1, h.2.2.1, h.2.2.2.1, h.2.2.2.2.1, by have := h.2.2.2.2.2; omega⟩
theorem x_if_eq {K : gKx} {PX : va_W} {G : gG} {pc : Nat} {lv : List (Option Value)} {st : List Value} {S : gS} {T : gT} {c0 s0 d : Nat} {own : String} {cc : ByteArray} {x : Int32} {off : Int} (tgt : Nat) (g : Gd K own cc d) (hdg : decode cc pc = .ok (.ifCond .eq off, 3)) (ht : (pc : Int) + off = (tgt : Int)) (kt : x = 0 → Xj K PX G (tgt) lv (st) S T c0 s0) (kf : ¬ x = 0 → Xj K PX G (pc + 3) lv (st) S T c0 s0) : Xj K PX G (pc) lv (.int x :: st) S T c0 s0 := fun H locs cells slots ls Z h => lv_if_eq g.1.1 g.1.2.1 hdg ht (fun c => kt c H locs cells slots ls Z h) (fun c => kf c H locs cells slots ls Z h)
theorem x_if_ne {K : gKx} {PX : va_W} {G : gG} {pc : Nat} {lv : List (Option Value)} {st : List Value} {S : gS} {T : gT} {c0 s0 d : Nat} {own : String} {cc : ByteArray} {x : Int32} {off : Int} (tgt : Nat) (g : Gd K own cc d) (hdg : decode cc pc = .ok (.ifCond .ne off, 3)) (ht : (pc : Int) + off = (tgt : Int)) (kt : ¬ x = 0 → Xj K PX G (tgt) lv (st) S T c0 s0) (kf : x = 0 → Xj K PX G (pc + 3) lv (st) S T c0 s0) : Xj K PX G (pc) lv (.int x :: st) S T c0 s0 := fun H locs cells slots ls Z h => lv_if_ne g.1.1 g.1.2.1 hdg ht (fun c => kt c H locs cells slots ls Z h) (fun c => kf c H locs cells slots ls Z h)
theorem x_if_lt {K : gKx} {PX : va_W} {G : gG} {pc : Nat} {lv : List (Option Value)} {st : List Value} {S : gS} {T : gT} {c0 s0 d : Nat} {own : String} {cc : ByteArray} {x : Int32} {off : Int} (tgt : Nat) (g : Gd K own cc d) (hdg : decode cc pc = .ok (.ifCond .lt off, 3)) (ht : (pc : Int) + off = (tgt : Int)) (kt : x < 0 → Xj K PX G (tgt) lv (st) S T c0 s0) (kf : ¬ x < 0 → Xj K PX G (pc + 3) lv (st) S T c0 s0) : Xj K PX G (pc) lv (.int x :: st) S T c0 s0 := fun H locs cells slots ls Z h => lv_if_lt g.1.1 g.1.2.1 hdg ht (fun c => kt c H locs cells slots ls Z h) (fun c => kf c H locs cells slots ls Z h)
theorem x_if_ge {K : gKx} {PX : va_W} {G : gG} {pc : Nat} {lv : List (Option Value)} {st : List Value} {S : gS} {T : gT} {c0 s0 d : Nat} {own : String} {cc : ByteArray} {x : Int32} {off : Int} (tgt : Nat) (g : Gd K own cc d) (hdg : decode cc pc = .ok (.ifCond .ge off, 3)) (ht : (pc : Int) + off = (tgt : Int)) (kt : 0 ≤ x → Xj K PX G (tgt) lv (st) S T c0 s0) (kf : ¬ 0 ≤ x → Xj K PX G (pc + 3) lv (st) S T c0 s0) : Xj K PX G (pc) lv (.int x :: st) S T c0 s0 := fun H locs cells slots ls Z h => lv_if_ge g.1.1 g.1.2.1 hdg ht (fun c => kt c H locs cells slots ls Z h) (fun c => kf c H locs cells slots ls Z h)
theorem x_if_gt {K : gKx} {PX : va_W} {G : gG} {pc : Nat} {lv : List (Option Value)} {st : List Value} {S : gS} {T : gT} {c0 s0 d : Nat} {own : String} {cc : ByteArray} {x : Int32} {off : Int} (tgt : Nat) (g : Gd K own cc d) (hdg : decode cc pc = .ok (.ifCond .gt off, 3)) (ht : (pc : Int) + off = (tgt : Int)) (kt : 0 < x → Xj K PX G (tgt) lv (st) S T c0 s0) (kf : ¬ 0 < x → Xj K PX G (pc + 3) lv (st) S T c0 s0) : Xj K PX G (pc) lv (.int x :: st) S T c0 s0 := fun H locs cells slots ls Z h => lv_if_gt g.1.1 g.1.2.1 hdg ht (fun c => kt c H locs cells slots ls Z h) (fun c => kf c H locs cells slots ls Z h)
theorem x_if_le {K : gKx} {PX : va_W} {G : gG} {pc : Nat} {lv : List (Option Value)} {st : List Value} {S : gS} {T : gT} {c0 s0 d : Nat} {own : String} {cc : ByteArray} {x : Int32} {off : Int} (tgt : Nat) (g : Gd K own cc d) (hdg : decode cc pc = .ok (.ifCond .le off, 3)) (ht : (pc : Int) + off = (tgt : Int)) (kt : x ≤ 0 → Xj K PX G (tgt) lv (st) S T c0 s0) (kf : ¬ x ≤ 0 → Xj K PX G (pc + 3) lv (st) S T c0 s0) : Xj K PX G (pc) lv (.int x :: st) S T c0 s0 := fun H locs cells slots ls Z h => lv_if_le g.1.1 g.1.2.1 hdg ht (fun c => kt c H locs cells slots ls Z h) (fun c => kf c H locs cells slots ls Z h)
theorem x_icmp_eq {K : gKx} {PX : va_W} {G : gG} {pc : Nat} {lv : List (Option Value)} {st : List Value} {S : gS} {T : gT} {c0 s0 d : Nat} {own : String} {cc : ByteArray} {x y : Int32} {off : Int} (tgt : Nat) (g : Gd K own cc d) (hdg : decode cc pc = .ok (.if_icmp .eq off, 3)) (ht : (pc : Int) + off = (tgt : Int)) (kt : x = y → Xj K PX G (tgt) lv (st) S T c0 s0) (kf : ¬ x = y → Xj K PX G (pc + 3) lv (st) S T c0 s0) : Xj K PX G (pc) lv (.int y :: .int x :: st) S T c0 s0 := fun H locs cells slots ls Z h => lv_icmp_eq g.1.1 g.1.2.1 hdg ht (fun c => kt c H locs cells slots ls Z h) (fun c => kf c H locs cells slots ls Z h)
theorem x_icmp_ne {K : gKx} {PX : va_W} {G : gG} {pc : Nat} {lv : List (Option Value)} {st : List Value} {S : gS} {T : gT} {c0 s0 d : Nat} {own : String} {cc : ByteArray} {x y : Int32} {off : Int} (tgt : Nat) (g : Gd K own cc d) (hdg : decode cc pc = .ok (.if_icmp .ne off, 3)) (ht : (pc : Int) + off = (tgt : Int)) (kt : ¬ x = y → Xj K PX G (tgt) lv (st) S T c0 s0) (kf : x = y → Xj K PX G (pc + 3) lv (st) S T c0 s0) : Xj K PX G (pc) lv (.int y :: .int x :: st) S T c0 s0 := fun H locs cells slots ls Z h => lv_icmp_ne g.1.1 g.1.2.1 hdg ht (fun c => kt c H locs cells slots ls Z h) (fun c => kf c H locs cells slots ls Z h)
theorem x_icmp_lt {K : gKx} {PX : va_W} {G : gG} {pc : Nat} {lv : List (Option Value)} {st : List Value} {S : gS} {T : gT} {c0 s0 d : Nat} {own : String} {cc : ByteArray} {x y : Int32} {off : Int} (tgt : Nat) (g : Gd K own cc d) (hdg : decode cc pc = .ok (.if_icmp .lt off, 3)) (ht : (pc : Int) + off = (tgt : Int)) (kt : x < y → Xj K PX G (tgt) lv (st) S T c0 s0) (kf : ¬ x < y → Xj K PX G (pc + 3) lv (st) S T c0 s0) : Xj K PX G (pc) lv (.int y :: .int x :: st) S T c0 s0 := fun H locs cells slots ls Z h => lv_icmp_lt g.1.1 g.1.2.1 hdg ht (fun c => kt c H locs cells slots ls Z h) (fun c => kf c H locs cells slots ls Z h)
theorem x_icmp_ge {K : gKx} {PX : va_W} {G : gG} {pc : Nat} {lv : List (Option Value)} {st : List Value} {S : gS} {T : gT} {c0 s0 d : Nat} {own : String} {cc : ByteArray} {x y : Int32} {off : Int} (tgt : Nat) (g : Gd K own cc d) (hdg : decode cc pc = .ok (.if_icmp .ge off, 3)) (ht : (pc : Int) + off = (tgt : Int)) (kt : y ≤ x → Xj K PX G (tgt) lv (st) S T c0 s0) (kf : ¬ y ≤ x → Xj K PX G (pc + 3) lv (st) S T c0 s0) : Xj K PX G (pc) lv (.int y :: .int x :: st) S T c0 s0 := fun H locs cells slots ls Z h => lv_icmp_ge g.1.1 g.1.2.1 hdg ht (fun c => kt c H locs cells slots ls Z h) (fun c => kf c H locs cells slots ls Z h)
theorem x_icmp_gt {K : gKx} {PX : va_W} {G : gG} {pc : Nat} {lv : List (Option Value)} {st : List Value} {S : gS} {T : gT} {c0 s0 d : Nat} {own : String} {cc : ByteArray} {x y : Int32} {off : Int} (tgt : Nat) (g : Gd K own cc d) (hdg : decode cc pc = .ok (.if_icmp .gt off, 3)) (ht : (pc : Int) + off = (tgt : Int)) (kt : y < x → Xj K PX G (tgt) lv (st) S T c0 s0) (kf : ¬ y < x → Xj K PX G (pc + 3) lv (st) S T c0 s0) : Xj K PX G (pc) lv (.int y :: .int x :: st) S T c0 s0 := fun H locs cells slots ls Z h => lv_icmp_gt g.1.1 g.1.2.1 hdg ht (fun c => kt c H locs cells slots ls Z h) (fun c => kf c H locs cells slots ls Z h)
theorem x_icmp_le {K : gKx} {PX : va_W} {G : gG} {pc : Nat} {lv : List (Option Value)} {st : List Value} {S : gS} {T : gT} {c0 s0 d : Nat} {own : String} {cc : ByteArray} {x y : Int32} {off : Int} (tgt : Nat) (g : Gd K own cc d) (hdg : decode cc pc = .ok (.if_icmp .le off, 3)) (ht : (pc : Int) + off = (tgt : Int)) (kt : x ≤ y → Xj K PX G (tgt) lv (st) S T c0 s0) (kf : ¬ x ≤ y → Xj K PX G (pc + 3) lv (st) S T c0 s0) : Xj K PX G (pc) lv (.int y :: .int x :: st) S T c0 s0 := fun H locs cells slots ls Z h => lv_icmp_le g.1.1 g.1.2.1 hdg ht (fun c => kt c H locs cells slots ls Z h) (fun c => kf c H locs cells slots ls Z h)
theorem x_acmp_eq {K : gKx} {PX : va_W} {G : gG} {pc : Nat} {lv : List (Option Value)} {st : List Value} {S : gS} {T : gT} {c0 s0 d : Nat} {own : String} {cc : ByteArray} {rx ry : Option Nat} {off : Int} (tgt : Nat) (g : Gd K own cc d) (hdg : decode cc pc = .ok (.if_acmp .eq off, 3)) (ht : (pc : Int) + off = (tgt : Int)) (kt : rx = ry → Xj K PX G (tgt) lv (st) S T c0 s0) (kf : ¬ rx = ry → Xj K PX G (pc + 3) lv (st) S T c0 s0) : Xj K PX G (pc) lv (va_rf ry :: va_rf rx :: st) S T c0 s0 := fun H locs cells slots ls Z h => lv_acmp_eq g.1.1 g.1.2.1 hdg ht (fun c => kt c H locs cells slots ls Z h) (fun c => kf c H locs cells slots ls Z h)
theorem x_acmp_ne {K : gKx} {PX : va_W} {G : gG} {pc : Nat} {lv : List (Option Value)} {st : List Value} {S : gS} {T : gT} {c0 s0 d : Nat} {own : String} {cc : ByteArray} {rx ry : Option Nat} {off : Int} (tgt : Nat) (g : Gd K own cc d) (hdg : decode cc pc = .ok (.if_acmp .ne off, 3)) (ht : (pc : Int) + off = (tgt : Int)) (kt : ¬ rx = ry → Xj K PX G (tgt) lv (st) S T c0 s0) (kf : rx = ry → Xj K PX G (pc + 3) lv (st) S T c0 s0) : Xj K PX G (pc) lv (va_rf ry :: va_rf rx :: st) S T c0 s0 := fun H locs cells slots ls Z h => lv_acmp_ne g.1.1 g.1.2.1 hdg ht (fun c => kt c H locs cells slots ls Z h) (fun c => kf c H locs cells slots ls Z h)
theorem x_goto {K : gKx} {PX : va_W} {G : gG} {pc : Nat} {lv : List (Option Value)} {st : List Value} {S : gS} {T : gT} {c0 s0 d : Nat} {own : String} {cc : ByteArray} {off : Int} (tgt : Nat) (g : Gd K own cc d) (hdg : decode cc pc = .ok (.goto off, 3)) (ht : (pc : Int) + off = (tgt : Int)) (k : Xj K PX G (tgt) lv (st) S T c0 s0) : Xj K PX G (pc) lv (st) S T c0 s0 := fun H locs cells slots ls Z h => lv_goto g.1.1 g.1.2.1 hdg ht (k H locs cells slots ls Z h)
-- heap
theorem gr_row (S : gS) (a : Nat) (f : Nat → Int32) : gr (srow S a f) a = f := by
  funext j
  rw [gr_srow, if_pos rfl]
def gCls (kd ci : Nat) (fl : List (Nat ⊕ Nat)) (C : String) (TC : u_T) (NC : Nat) (ty0 : Nat → FieldType) : Prop := gkt kd = some (ci, fl) ∧ vwCl[ci]? = some (C, TC, NC) ∧ (∀ w ∈ u_ws C TC NC, w ∈ gTb) ∧ (∀ k, k < NC → parseFieldDescriptor (TC k).2.2.1 = some (ty0 k)) ∧ (∀ a, a < NC → ∀ b, b < NC → a ≠ b → (TC a).2.1 ≠ (TC b).2.1) ∧ fl.length = NC
theorem gFind {cy : gY} {PX : va_W} {G : gG} {S : gS} {a : Nat} (h : a ∈ gL G) : ∃ q0 : Nat, (PX ++ gw cy G S)[q0]? = some (a, gce cy G S a) := va_pl_get (X := PX) (f := gce cy G S) h
theorem gPut {A : Nat → Prop} {cy : gY} {PX : va_W} {G : gG} {S S1 : gS} {a k : Nat} {e : va_E} (hD : va_D A (PX ++ gw cy G S)) (h : a ∈ gL G) (hk : (PX ++ gw cy G S)[k]? = some (a, gce cy G S a)) (hu : ∀ b, va_up (gce cy G S) a e b = gce cy G S1 b) : (PX ++ gw cy G S).set k (a, e) = PX ++ gw cy G S1 := by
  unfold gw at hD hk ⊢
  rw [va_pl_set hD h hk]
  exact congrArg (fun l => PX ++ l) (va_pl_congr hu)
theorem x_geti {K : gKx} {PX : va_W} {G : gG} {pc : Nat} {lv : List (Option Value)} {st : List Value} {S : gS} {T : gT} {c0 s0 d : Nat} {own : String} {cc : ByteArray} {a kd ci idx : Nat} {fl : List (Nat ⊕ Nat)} {C : String} {TC : u_T} {NC : Nat} {ty0 : Nat → FieldType} (g : Gd K own cc d) (hdg : decode cc pc = .ok (.getfield idx, 3)) (cl : gCls kd ci fl C TC NC ty0) (k f : Nat) (hf : fl[k]? = some (.inl f)) (hkN : k < NC) (hC : (TC k).1 = C) (hlk : Cond.fieldLink own idx C (TC k).2.1 (TC k).2.2.1 ∈ lw_tbl) (ha : gis G kd a) (kk : Xj K PX G (pc + 3) lv (.int (gI S f a) :: st) S T c0 s0) : Xj K PX G (pc) lv (.ref a :: st) S T c0 s0 := by
  intro H locs cells slots ls Z h
  obtain ⟨c1, c2, c3, c4, c5, c6⟩ := cl
  obtain ⟨q0, hq⟩ := gFind (cy := ky K) (PX := PX ++ Z) (S := S) ha.1
  rw [gce_obj (by rw [ha.2]; exact c1)] at hq
  exact va_get (D := kD K) (ci := ci) (v := .int (gI S f a)) (C := C) (T := TC) (N := NC) g.1.1 g.1.2.1 g.1.2.2.2.2 c3 g.1.2.2.2.1 g.2.1.1 h.2.1 q0 hq c2 k hkN (ref := C) (g.tb hlk rfl) (fun _ h9 => by rw [hC] at h9; exact h9) (by rw [List.getElem?_map, hf]; rfl) hdg (kk H locs cells slots ls Z h)
theorem x_getr {K : gKx} {PX : va_W} {G : gG} {pc : Nat} {lv : List (Option Value)} {st : List Value} {S : gS} {T : gT} {c0 s0 d : Nat} {own : String} {cc : ByteArray} {a kd ci idx : Nat} {fl : List (Nat ⊕ Nat)} {C : String} {TC : u_T} {NC : Nat} {ty0 : Nat → FieldType} {b : Nat} (g : Gd K own cc d) (hdg : decode cc pc = .ok (.getfield idx, 3)) (cl : gCls kd ci fl C TC NC ty0) (k f : Nat) (hf : fl[k]? = some (.inr f)) (hkN : k < NC) (hC : (TC k).1 = C) (hlk : Cond.fieldLink own idx C (TC k).2.1 (TC k).2.2.1 ∈ lw_tbl) (ha : gis G kd a) (hv : gP S f a = some b) (kk : Xj K PX G (pc + 3) lv (.ref b :: st) S T c0 s0) : Xj K PX G (pc) lv (.ref a :: st) S T c0 s0 := by
  intro H locs cells slots ls Z h
  obtain ⟨c1, c2, c3, c4, c5, c6⟩ := cl
  obtain ⟨q0, hq⟩ := gFind (cy := ky K) (PX := PX ++ Z) (S := S) ha.1
  rw [gce_obj (by rw [ha.2]; exact c1)] at hq
  exact va_get (D := kD K) (ci := ci) (v := .ref b) (C := C) (T := TC) (N := NC) g.1.1 g.1.2.1 g.1.2.2.2.2 c3 g.1.2.2.2.1 g.2.1.1 h.2.1 q0 hq c2 k hkN (ref := C) (g.tb hlk rfl) (fun _ h9 => by rw [hC] at h9; exact h9) (by rw [List.getElem?_map, hf]; first | rfl | (rw [← hv]; rfl) | (show some (va_rf _) = _; rw [hv]; rfl)) hdg (kk H locs cells slots ls Z h)
theorem x_getn {K : gKx} {PX : va_W} {G : gG} {pc : Nat} {lv : List (Option Value)} {st : List Value} {S : gS} {T : gT} {c0 s0 d : Nat} {own : String} {cc : ByteArray} {a kd ci idx : Nat} {fl : List (Nat ⊕ Nat)} {C : String} {TC : u_T} {NC : Nat} {ty0 : Nat → FieldType} (g : Gd K own cc d) (hdg : decode cc pc = .ok (.getfield idx, 3)) (cl : gCls kd ci fl C TC NC ty0) (k f : Nat) (hf : fl[k]? = some (.inr f)) (hkN : k < NC) (hC : (TC k).1 = C) (hlk : Cond.fieldLink own idx C (TC k).2.1 (TC k).2.2.1 ∈ lw_tbl) (ha : gis G kd a) (kk : Xj K PX G (pc + 3) lv (va_rf (gP S f a) :: st) S T c0 s0) : Xj K PX G (pc) lv (.ref a :: st) S T c0 s0 := by
  intro H locs cells slots ls Z h
  obtain ⟨c1, c2, c3, c4, c5, c6⟩ := cl
  obtain ⟨q0, hq⟩ := gFind (cy := ky K) (PX := PX ++ Z) (S := S) ha.1
  rw [gce_obj (by rw [ha.2]; exact c1)] at hq
  exact va_get (D := kD K) (ci := ci) (v := va_rf (gP S f a)) (C := C) (T := TC) (N := NC) g.1.1 g.1.2.1 g.1.2.2.2.2 c3 g.1.2.2.2.1 g.2.1.1 h.2.1 q0 hq c2 k hkN (ref := C) (g.tb hlk rfl) (fun _ h9 => by rw [hC] at h9; exact h9) (by rw [List.getElem?_map, hf]; first | rfl | (rw [← hv]; rfl) | (show some (va_rf _) = _; rw [hv]; rfl)) hdg (kk H locs cells slots ls Z h)
theorem x_puti {K : gKx} {PX : va_W} {G : gG} {pc : Nat} {lv : List (Option Value)} {st : List Value} {S : gS} {T : gT} {c0 s0 d : Nat} {own : String} {cc : ByteArray} {a kd ci idx : Nat} {fl : List (Nat ⊕ Nat)} {C : String} {TC : u_T} {NC : Nat} {ty0 : Nat → FieldType} {v : Int32} (g : Gd K own cc d) (hdg : decode cc pc = .ok (.putfield idx, 3)) (cl : gCls kd ci fl C TC NC ty0) (k f : Nat) (hf : fl[k]? = some (.inl f)) (hkN : k < NC) (hC : (TC k).1 = C) (hfin : (TC k).2.2.2 = false) (hlk : Cond.fieldLink own idx C (TC k).2.1 (TC k).2.2.1 ∈ lw_tbl) (hn : narrow (ty0 k) (Value.int v) = Value.int v) (hfit : fits (ty0 k) (Value.int v) = true) (ha : gis G kd a) (kk : Xj K PX G (pc + 3) lv (st) (sI S f a v) T c0 s0) : Xj K PX G (pc) lv ((Value.int v) :: .ref a :: st) S T c0 s0 := by
  intro H locs cells slots ls Z h
  obtain ⟨c1, c2, c3, c4, c5, c6⟩ := cl
  obtain ⟨q0, hq⟩ := gFind (cy := ky K) (PX := PX ++ Z) (S := S) ha.1
  have hq2 := hq
  have e1 : gkt (gK G a) = some (ci, fl) := by rw [ha.2]; exact c1
  rw [gce_obj e1] at hq
  refine va_put (D := kD K) (ci := ci) (v := Value.int v) (ty := ty0 k) (C := C) (T := TC) (N := NC) g.1.1 g.1.2.1 g.1.2.2.2.2 c3 ty0 c4 c5 g.1.2.2.2.1 g.2.1.1 h.2.1 h.2.2.1 h.2.2.2.1 q0 hq c2 k hkN (ref := C) (g.tb hlk rfl) (fun _ h9 => by rw [hC] at h9; exact h9) hfin (c4 k hkN) hn hfit (by rw [List.length_map, c6]; exact hkN) hdg (fun H1 locs1 hP hD hS => ?_)
  have e := gPut h.2.2.1 ha.1 hq2 (gup_I (cy := ky K) (S := S) e1 hf v)
  rw [e] at hP hD
  exact kk H1 locs1 cells slots ls Z ⟨h.1, hP, hD, hS, h.2.2.2.2⟩
theorem x_iald {K : gKx} {PX : va_W} {G : gG} {pc : Nat} {lv : List (Option Value)} {st : List Value} {S : gS} {T : gT} {c0 s0 d : Nat} {own : String} {cc : ByteArray} {a : Nat} {i : Int32} (g : Gd K own cc d) (hdg : decode cc pc = .ok (.iaload, 1)) (ha : gis G 7 a) (hin : vp_in i (gn G a)) (kk : Xj K PX G (pc + 1) lv (.int (gr S a i.toNatClampNeg) :: st) S T c0 s0) : Xj K PX G (pc) lv (.int i :: .ref a :: st) S T c0 s0 := by
  intro H locs cells slots ls Z h
  obtain ⟨q0, hq⟩ := gFind (cy := ky K) (PX := PX ++ Z) (S := S) ha.1
  rw [gce_i ha.2] at hq
  exact va_iald (D := kD K) g.1.1 g.1.2.1 g.2.1.1 h.2.1 q0 2 hq rfl hin hdg (kk H locs cells slots ls Z h)
theorem x_cald {K : gKx} {PX : va_W} {G : gG} {pc : Nat} {lv : List (Option Value)} {st : List Value} {S : gS} {T : gT} {c0 s0 d : Nat} {own : String} {cc : ByteArray} {a : Nat} {i : Int32} (g : Gd K own cc d) (hdg : decode cc pc = .ok (.caload, 1)) (ha : gis G 6 a) (hin : vp_in i (gn G a)) (kk : Xj K PX G (pc + 1) lv (.int (gr S a i.toNatClampNeg) :: st) S T c0 s0) : Xj K PX G (pc) lv (.int i :: .ref a :: st) S T c0 s0 := by
  intro H locs cells slots ls Z h
  obtain ⟨q0, hq⟩ := gFind (cy := ky K) (PX := PX ++ Z) (S := S) ha.1
  rw [gce_c ha.2] at hq
  exact va_cald (D := kD K) g.1.1 g.1.2.1 g.2.1.1 h.2.1 q0 1 hq rfl hin hdg (kk H locs cells slots ls Z h)
theorem x_aldb {K : gKx} {PX : va_W} {G : gG} {pc : Nat} {lv : List (Option Value)} {st : List Value} {S : gS} {T : gT} {c0 s0 d : Nat} {own : String} {cc : ByteArray} {a : Nat} {i : Int32} (g : Gd K own cc d) (hdg : decode cc pc = .ok (.aaload, 1)) (ha : gis G 8 a) (hin : vp_in i (gn G a)) (kk : Xj K PX G (pc + 1) lv (va_rf (gq S a i.toNatClampNeg) :: st) S T c0 s0) : Xj K PX G (pc) lv (.int i :: .ref a :: st) S T c0 s0 := by
  intro H locs cells slots ls Z h
  obtain ⟨q0, hq⟩ := gFind (cy := ky K) (PX := PX ++ Z) (S := S) ha.1
  rw [gce_b ha.2] at hq
  exact va_aldq (D := kD K) g.1.1 g.1.2.1 g.2.1.1 h.2.1 q0 3 hq rfl hin hdg (kk H locs cells slots ls Z h)
theorem x_aldu {K : gKx} {PX : va_W} {G : gG} {pc : Nat} {lv : List (Option Value)} {st : List Value} {S : gS} {T : gT} {c0 s0 d : Nat} {own : String} {cc : ByteArray} {a : Nat} {i : Int32} (g : Gd K own cc d) (hdg : decode cc pc = .ok (.aaload, 1)) (ha : gis G 9 a) (hin : vp_in i (gn G a)) (kk : Xj K PX G (pc + 1) lv (va_rf (gq S a i.toNatClampNeg) :: st) S T c0 s0) : Xj K PX G (pc) lv (.int i :: .ref a :: st) S T c0 s0 := by
  intro H locs cells slots ls Z h
  obtain ⟨q0, hq⟩ := gFind (cy := ky K) (PX := PX ++ Z) (S := S) ha.1
  rw [gce_u ha.2] at hq
  exact va_aldq (D := kD K) g.1.1 g.1.2.1 g.2.1.1 h.2.1 q0 4 hq rfl hin hdg (kk H locs cells slots ls Z h)
theorem x_iast {K : gKx} {PX : va_W} {G : gG} {pc : Nat} {lv : List (Option Value)} {st : List Value} {S : gS} {T : gT} {c0 s0 d : Nat} {own : String} {cc : ByteArray} {a : Nat} {i x : Int32} (g : Gd K own cc d) (hdg : decode cc pc = .ok (.iastore, 1)) (ha : gis G 7 a) (hin : vp_in i (gn G a)) (kk : Xj K PX G (pc + 1) lv (st) (sr S a i.toNatClampNeg (x)) T c0 s0) : Xj K PX G (pc) lv (.int x :: .int i :: .ref a :: st) S T c0 s0 := by
  intro H locs cells slots ls Z h
  obtain ⟨q0, hq⟩ := gFind (cy := ky K) (PX := PX ++ Z) (S := S) ha.1
  have hq2 := hq
  rw [gce_i ha.2] at hq
  refine va_iast (D := kD K) g.1.1 g.1.2.1 g.2.1.1 h.2.1 h.2.2.1 h.2.2.2.1 q0 2 hq rfl hin hdg (fun H1 locs1 hP hD hS => ?_)
  have e : ((PX ++ Z) ++ gw (ky K) G S).set q0 (a, .inl ((ky K).1 2, gn G a, .inl (upd (gr S a) i.toNatClampNeg (x)))) = (PX ++ Z) ++ gw (ky K) G (srow S a (upd (gr S a) i.toNatClampNeg (x))) := gPut h.2.2.1 ha.1 hq2 (gup_row (cy := ky K) (G := G) (S := S) (upd (gr S a) i.toNatClampNeg (x)) _ (by rw [gce_i ha.2, gr_row]))
  rw [e, ← sr_srow] at hP hD
  exact kk H1 locs1 cells slots ls Z ⟨h.1, hP, hD, hS, h.2.2.2.2⟩
theorem x_cast {K : gKx} {PX : va_W} {G : gG} {pc : Nat} {lv : List (Option Value)} {st : List Value} {S : gS} {T : gT} {c0 s0 d : Nat} {own : String} {cc : ByteArray} {a : Nat} {i x : Int32} (g : Gd K own cc d) (hdg : decode cc pc = .ok (.castore, 1)) (ha : gis G 6 a) (hin : vp_in i (gn G a)) (kk : Xj K PX G (pc + 1) lv (st) (sr S a i.toNatClampNeg (vp_nar .char x)) T c0 s0) : Xj K PX G (pc) lv (.int x :: .int i :: .ref a :: st) S T c0 s0 := by
  intro H locs cells slots ls Z h
  obtain ⟨q0, hq⟩ := gFind (cy := ky K) (PX := PX ++ Z) (S := S) ha.1
  have hq2 := hq
  rw [gce_c ha.2] at hq
  refine va_cast (D := kD K) g.1.1 g.1.2.1 g.2.1.1 h.2.1 h.2.2.1 h.2.2.2.1 q0 1 hq rfl hin hdg (fun H1 locs1 hP hD hS => ?_)
  have e : ((PX ++ Z) ++ gw (ky K) G S).set q0 (a, .inl ((ky K).1 1, gn G a, .inl (upd (gr S a) i.toNatClampNeg (vp_nar .char x)))) = (PX ++ Z) ++ gw (ky K) G (srow S a (upd (gr S a) i.toNatClampNeg (vp_nar .char x))) := gPut h.2.2.1 ha.1 hq2 (gup_row (cy := ky K) (G := G) (S := S) (upd (gr S a) i.toNatClampNeg (vp_nar .char x)) _ (by rw [gce_c ha.2, gr_row]))
  rw [e, ← sr_srow] at hP hD
  exact kk H1 locs1 cells slots ls Z ⟨h.1, hP, hD, hS, h.2.2.2.2⟩
theorem x_leni {K : gKx} {PX : va_W} {G : gG} {pc : Nat} {lv : List (Option Value)} {st : List Value} {S : gS} {T : gT} {c0 s0 d : Nat} {own : String} {cc : ByteArray} {a : Nat} (g : Gd K own cc d) (hdg : decode cc pc = .ok (.arraylength, 1)) (ha : gis G 7 a) (kk : Xj K PX G (pc + 1) lv (.int (Int32.ofNat (gn G a)) :: st) S T c0 s0) : Xj K PX G (pc) lv (.ref a :: st) S T c0 s0 := by
  intro H locs cells slots ls Z h
  obtain ⟨q0, hq⟩ := gFind (cy := ky K) (PX := PX ++ Z) (S := S) ha.1
  rw [gce_i ha.2] at hq
  exact va_alen (D := kD K) (ty := .int) g.1.1 g.1.2.1 g.2.1.1 h.2.1 q0 2 hq rfl rfl hdg (kk H locs cells slots ls Z h)
theorem x_lenb {K : gKx} {PX : va_W} {G : gG} {pc : Nat} {lv : List (Option Value)} {st : List Value} {S : gS} {T : gT} {c0 s0 d : Nat} {own : String} {cc : ByteArray} {a : Nat} (g : Gd K own cc d) (hdg : decode cc pc = .ok (.arraylength, 1)) (ha : gis G 8 a) (kk : Xj K PX G (pc + 1) lv (.int (Int32.ofNat (gn G a)) :: st) S T c0 s0) : Xj K PX G (pc) lv (.ref a :: st) S T c0 s0 := by
  intro H locs cells slots ls Z h
  obtain ⟨q0, hq⟩ := gFind (cy := ky K) (PX := PX ++ Z) (S := S) ha.1
  rw [gce_b ha.2] at hq
  exact va_alen (D := kD K) (ty := .object "UmbrellaSchool$Books") g.1.1 g.1.2.1 g.2.1.1 h.2.1 q0 3 hq rfl rfl hdg (kk H locs cells slots ls Z h)
theorem x_lenu {K : gKx} {PX : va_W} {G : gG} {pc : Nat} {lv : List (Option Value)} {st : List Value} {S : gS} {T : gT} {c0 s0 d : Nat} {own : String} {cc : ByteArray} {a : Nat} (g : Gd K own cc d) (hdg : decode cc pc = .ok (.arraylength, 1)) (ha : gis G 9 a) (kk : Xj K PX G (pc + 1) lv (.int (Int32.ofNat (gn G a)) :: st) S T c0 s0) : Xj K PX G (pc) lv (.ref a :: st) S T c0 s0 := by
  intro H locs cells slots ls Z h
  obtain ⟨q0, hq⟩ := gFind (cy := ky K) (PX := PX ++ Z) (S := S) ha.1
  rw [gce_u ha.2] at hq
  exact va_alen (D := kD K) (ty := .object "UmbrellaSchool$Umbrella") g.1.1 g.1.2.1 g.2.1.1 h.2.1 q0 4 hq rfl rfl hdg (kk H locs cells slots ls Z h)
end
section
/-! words by their places in the tables (laid by wip/whole/mkwords.py) -/
theorem w_tb {w : Cond} (i : Nat) (h : tables_1[i]? = some w) : w ∈ lw_tbl := List.mem_append_right _ (List.mem_of_getElem? h)
theorem w_pr {q : MethodName} (i k : Nat) (h : lw_privs[i]? = some (q, k)) : Cond.selects q.cls q q ∈ lw_tbl := List.mem_append_left _ (List.mem_map.mpr ⟨(q, k), List.mem_of_getElem? h, rfl⟩)
theorem hmX1 : ∀ w ∈ u_ws RX1 TX1 8, w ∈ tables_1 := by decide +kernel
theorem gXX1 : gCls 0 4 ((gkt 0).getD (0, [])).2 RX1 TX1 8 tyX1 := ⟨rfl, rfl, fun w hw => List.mem_filter.mpr ⟨List.mem_append_right _ (hmX1 w hw), by revert w; decide +kernel⟩, tyX1_ok, nmX1, rfl⟩
theorem hmX4 : ∀ w ∈ u_ws RX4 TX4 12, w ∈ tables_1 := by decide +kernel
theorem gXX4 : gCls 1 5 ((gkt 1).getD (0, [])).2 RX4 TX4 12 tyX4 := ⟨rfl, rfl, fun w hw => List.mem_filter.mpr ⟨List.mem_append_right _ (hmX4 w hw), by revert w; decide +kernel⟩, tyX4_ok, nmX4, rfl⟩
theorem hmX5 : ∀ w ∈ u_ws RX5 TX5 9, w ∈ tables_1 := by decide +kernel
theorem gXX5 : gCls 2 6 ((gkt 2).getD (0, [])).2 RX5 TX5 9 tyX5 := ⟨rfl, rfl, fun w hw => List.mem_filter.mpr ⟨List.mem_append_right _ (hmX5 w hw), by revert w; decide +kernel⟩, tyX5_ok, nmX5, rfl⟩
theorem hmX6 : ∀ w ∈ u_ws RX6 TX6 18, w ∈ tables_1 := by decide +kernel
theorem gXX6 : gCls 3 7 ((gkt 3).getD (0, [])).2 RX6 TX6 18 tyX6 := ⟨rfl, rfl, fun w hw => List.mem_filter.mpr ⟨List.mem_append_right _ (hmX6 w hw), by revert w; decide +kernel⟩, tyX6_ok, nmX6, rfl⟩
theorem lf_X5_12 : Cond.fieldLink RX5 12 RX5 (TX5 0).2.1 (TX5 0).2.2.1 ∈ lw_tbl := w_tb 172 (by decide +kernel)
theorem lf_X5_16 : Cond.fieldLink RX5 16 RX5 (TX5 1).2.1 (TX5 1).2.2.1 ∈ lw_tbl := w_tb 173 (by decide +kernel)
theorem lf_X5_19 : Cond.fieldLink RX5 19 RX5 (TX5 2).2.1 (TX5 2).2.2.1 ∈ lw_tbl := w_tb 174 (by decide +kernel)
theorem lf_X5_26 : Cond.fieldLink RX5 26 RX5 (TX5 3).2.1 (TX5 3).2.2.1 ∈ lw_tbl := w_tb 175 (by decide +kernel)
theorem lf_X5_30 : Cond.fieldLink RX5 30 RX5 (TX5 4).2.1 (TX5 4).2.2.1 ∈ lw_tbl := w_tb 176 (by decide +kernel)
theorem lf_X5_33 : Cond.fieldLink RX5 33 RX5 (TX5 5).2.1 (TX5 5).2.2.1 ∈ lw_tbl := w_tb 177 (by decide +kernel)
theorem lf_X5_37 : Cond.fieldLink RX5 37 RX5 (TX5 6).2.1 (TX5 6).2.2.1 ∈ lw_tbl := w_tb 178 (by decide +kernel)
theorem lf_X5_41 : Cond.fieldLink RX5 41 RX5 (TX5 7).2.1 (TX5 7).2.2.1 ∈ lw_tbl := w_tb 179 (by decide +kernel)
theorem lf_X5_44 : Cond.fieldLink RX5 44 RX5 (TX5 8).2.1 (TX5 8).2.2.1 ∈ lw_tbl := w_tb 180 (by decide +kernel)
theorem lf_X5_78 : Cond.fieldLink RX5 78 RX1 (TX1 1).2.1 (TX1 1).2.2.1 ∈ lw_tbl := w_tb 110 (by decide +kernel)
theorem lf_X5_85 : Cond.fieldLink RX5 85 RX4 (TX4 4).2.1 (TX4 4).2.2.1 ∈ lw_tbl := w_tb 62 (by decide +kernel)
theorem lf_X5_90 : Cond.fieldLink RX5 90 RX4 (TX4 5).2.1 (TX4 5).2.2.1 ∈ lw_tbl := w_tb 64 (by decide +kernel)
theorem lf_X5_93 : Cond.fieldLink RX5 93 RX4 (TX4 6).2.1 (TX4 6).2.2.1 ∈ lw_tbl := w_tb 66 (by decide +kernel)
theorem lf_X5_96 : Cond.fieldLink RX5 96 RX4 (TX4 7).2.1 (TX4 7).2.2.1 ∈ lw_tbl := w_tb 69 (by decide +kernel)
theorem lf_X5_99 : Cond.fieldLink RX5 99 RX4 (TX4 0).2.1 (TX4 0).2.2.1 ∈ lw_tbl := w_tb 53 (by decide +kernel)
theorem lf_X5_119 : Cond.fieldLink RX5 119 RX4 (TX4 1).2.1 (TX4 1).2.2.1 ∈ lw_tbl := w_tb 55 (by decide +kernel)
theorem lf_X5_145 : Cond.fieldLink RX5 145 RX4 (TX4 2).2.1 (TX4 2).2.2.1 ∈ lw_tbl := w_tb 57 (by decide +kernel)
theorem lf_X5_151 : Cond.fieldLink RX5 151 RX4 (TX4 3).2.1 (TX4 3).2.2.1 ∈ lw_tbl := w_tb 59 (by decide +kernel)
theorem lf_X5_191 : Cond.fieldLink RX5 191 RX4 (TX4 11).2.1 (TX4 11).2.2.1 ∈ lw_tbl := w_tb 81 (by decide +kernel)
theorem lf_X5_194 : Cond.fieldLink RX5 194 RX4 (TX4 8).2.1 (TX4 8).2.2.1 ∈ lw_tbl := w_tb 73 (by decide +kernel)
theorem lf_X5_197 : Cond.fieldLink RX5 197 RX4 (TX4 9).2.1 (TX4 9).2.2.1 ∈ lw_tbl := w_tb 76 (by decide +kernel)
theorem lf_X5_200 : Cond.fieldLink RX5 200 RX4 (TX4 10).2.1 (TX4 10).2.2.1 ∈ lw_tbl := w_tb 79 (by decide +kernel)
theorem lf_X5_208 : Cond.fieldLink RX5 208 RX1 (TX1 2).2.1 (TX1 2).2.2.1 ∈ lw_tbl := w_tb 112 (by decide +kernel)
theorem lf_X5_211 : Cond.fieldLink RX5 211 RX1 (TX1 3).2.1 (TX1 3).2.2.1 ∈ lw_tbl := w_tb 114 (by decide +kernel)
theorem lf_X5_214 : Cond.fieldLink RX5 214 RX1 (TX1 4).2.1 (TX1 4).2.2.1 ∈ lw_tbl := w_tb 116 (by decide +kernel)
theorem lf_X5_231 : Cond.fieldLink RX5 231 RX1 (TX1 5).2.1 (TX1 5).2.2.1 ∈ lw_tbl := w_tb 118 (by decide +kernel)
theorem lf_X1_11 : Cond.fieldLink RX1 11 RX1 (TX1 0).2.1 (TX1 0).2.2.1 ∈ lw_tbl := w_tb 108 (by decide +kernel)
theorem lf_X1_17 : Cond.fieldLink RX1 17 RX1 (TX1 1).2.1 (TX1 1).2.2.1 ∈ lw_tbl := w_tb 109 (by decide +kernel)
theorem lf_X1_21 : Cond.fieldLink RX1 21 RX1 (TX1 2).2.1 (TX1 2).2.2.1 ∈ lw_tbl := w_tb 111 (by decide +kernel)
theorem lf_X1_24 : Cond.fieldLink RX1 24 RX1 (TX1 3).2.1 (TX1 3).2.2.1 ∈ lw_tbl := w_tb 113 (by decide +kernel)
theorem lf_X1_27 : Cond.fieldLink RX1 27 RX1 (TX1 4).2.1 (TX1 4).2.2.1 ∈ lw_tbl := w_tb 115 (by decide +kernel)
theorem lf_X1_30 : Cond.fieldLink RX1 30 RX1 (TX1 5).2.1 (TX1 5).2.2.1 ∈ lw_tbl := w_tb 117 (by decide +kernel)
theorem lf_X1_33 : Cond.fieldLink RX1 33 RX1 (TX1 6).2.1 (TX1 6).2.2.1 ∈ lw_tbl := w_tb 119 (by decide +kernel)
theorem lf_X1_36 : Cond.fieldLink RX1 36 RX1 (TX1 7).2.1 (TX1 7).2.2.1 ∈ lw_tbl := w_tb 120 (by decide +kernel)
theorem lf_X1_55 : Cond.fieldLink RX1 55 RX4 (TX4 4).2.1 (TX4 4).2.2.1 ∈ lw_tbl := w_tb 61 (by decide +kernel)
theorem lf_X1_101 : Cond.fieldLink RX1 101 RX4 (TX4 9).2.1 (TX4 9).2.2.1 ∈ lw_tbl := w_tb 75 (by decide +kernel)
theorem lf_X1_104 : Cond.fieldLink RX1 104 RX4 (TX4 10).2.1 (TX4 10).2.2.1 ∈ lw_tbl := w_tb 78 (by decide +kernel)
theorem lf_X1_115 : Cond.fieldLink RX1 115 RX4 (TX4 8).2.1 (TX4 8).2.2.1 ∈ lw_tbl := w_tb 72 (by decide +kernel)
theorem lf_X1_118 : Cond.fieldLink RX1 118 RX4 (TX4 6).2.1 (TX4 6).2.2.1 ∈ lw_tbl := w_tb 67 (by decide +kernel)
theorem lf_X1_121 : Cond.fieldLink RX1 121 RX4 (TX4 7).2.1 (TX4 7).2.2.1 ∈ lw_tbl := w_tb 70 (by decide +kernel)
theorem lf_X4_9 : Cond.fieldLink RX4 9 RX4 (TX4 0).2.1 (TX4 0).2.2.1 ∈ lw_tbl := w_tb 52 (by decide +kernel)
theorem lf_X4_15 : Cond.fieldLink RX4 15 RX4 (TX4 1).2.1 (TX4 1).2.2.1 ∈ lw_tbl := w_tb 54 (by decide +kernel)
theorem lf_X4_18 : Cond.fieldLink RX4 18 RX4 (TX4 2).2.1 (TX4 2).2.2.1 ∈ lw_tbl := w_tb 56 (by decide +kernel)
theorem lf_X4_21 : Cond.fieldLink RX4 21 RX4 (TX4 3).2.1 (TX4 3).2.2.1 ∈ lw_tbl := w_tb 58 (by decide +kernel)
theorem lf_X4_24 : Cond.fieldLink RX4 24 RX4 (TX4 4).2.1 (TX4 4).2.2.1 ∈ lw_tbl := w_tb 60 (by decide +kernel)
theorem lf_X4_28 : Cond.fieldLink RX4 28 RX4 (TX4 5).2.1 (TX4 5).2.2.1 ∈ lw_tbl := w_tb 63 (by decide +kernel)
theorem lf_X4_31 : Cond.fieldLink RX4 31 RX4 (TX4 6).2.1 (TX4 6).2.2.1 ∈ lw_tbl := w_tb 65 (by decide +kernel)
theorem lf_X4_34 : Cond.fieldLink RX4 34 RX4 (TX4 7).2.1 (TX4 7).2.2.1 ∈ lw_tbl := w_tb 68 (by decide +kernel)
theorem lf_X4_37 : Cond.fieldLink RX4 37 RX4 (TX4 8).2.1 (TX4 8).2.2.1 ∈ lw_tbl := w_tb 71 (by decide +kernel)
theorem lf_X4_40 : Cond.fieldLink RX4 40 RX4 (TX4 9).2.1 (TX4 9).2.2.1 ∈ lw_tbl := w_tb 74 (by decide +kernel)
theorem lf_X4_43 : Cond.fieldLink RX4 43 RX4 (TX4 10).2.1 (TX4 10).2.2.1 ∈ lw_tbl := w_tb 77 (by decide +kernel)
theorem lf_X4_46 : Cond.fieldLink RX4 46 RX4 (TX4 11).2.1 (TX4 11).2.2.1 ∈ lw_tbl := w_tb 80 (by decide +kernel)
theorem lf_X6_1 : Cond.fieldLink RX6 1 RX6 (TX6 0).2.1 (TX6 0).2.2.1 ∈ lw_tbl := w_tb 1345 (by decide +kernel)
theorem lf_X6_13 : Cond.fieldLink RX6 13 RX6 (TX6 1).2.1 (TX6 1).2.2.1 ∈ lw_tbl := w_tb 1346 (by decide +kernel)
theorem lf_X6_17 : Cond.fieldLink RX6 17 RX6 (TX6 2).2.1 (TX6 2).2.2.1 ∈ lw_tbl := w_tb 1347 (by decide +kernel)
theorem lf_X6_20 : Cond.fieldLink RX6 20 RX6 (TX6 3).2.1 (TX6 3).2.2.1 ∈ lw_tbl := w_tb 1348 (by decide +kernel)
theorem lf_X6_23 : Cond.fieldLink RX6 23 RX6 (TX6 4).2.1 (TX6 4).2.2.1 ∈ lw_tbl := w_tb 1349 (by decide +kernel)
theorem lf_X6_26 : Cond.fieldLink RX6 26 RX6 (TX6 8).2.1 (TX6 8).2.2.1 ∈ lw_tbl := w_tb 1353 (by decide +kernel)
theorem lf_X6_30 : Cond.fieldLink RX6 30 RX6 (TX6 10).2.1 (TX6 10).2.2.1 ∈ lw_tbl := w_tb 1355 (by decide +kernel)
theorem lf_X6_33 : Cond.fieldLink RX6 33 RX6 (TX6 13).2.1 (TX6 13).2.2.1 ∈ lw_tbl := w_tb 1358 (by decide +kernel)
theorem lf_X6_36 : Cond.fieldLink RX6 36 RX6 (TX6 14).2.1 (TX6 14).2.2.1 ∈ lw_tbl := w_tb 1359 (by decide +kernel)
theorem lf_X6_39 : Cond.fieldLink RX6 39 RX6 (TX6 15).2.1 (TX6 15).2.2.1 ∈ lw_tbl := w_tb 1360 (by decide +kernel)
theorem lf_X6_42 : Cond.fieldLink RX6 42 RX6 (TX6 5).2.1 (TX6 5).2.2.1 ∈ lw_tbl := w_tb 1350 (by decide +kernel)
theorem lf_X6_45 : Cond.fieldLink RX6 45 RX6 (TX6 6).2.1 (TX6 6).2.2.1 ∈ lw_tbl := w_tb 1351 (by decide +kernel)
theorem lf_X6_197 : Cond.fieldLink RX6 197 RX6 (TX6 9).2.1 (TX6 9).2.2.1 ∈ lw_tbl := w_tb 1354 (by decide +kernel)
theorem lf_X6_207 : Cond.fieldLink RX6 207 RX6 (TX6 11).2.1 (TX6 11).2.2.1 ∈ lw_tbl := w_tb 1356 (by decide +kernel)
theorem lf_X6_210 : Cond.fieldLink RX6 210 RX6 (TX6 12).2.1 (TX6 12).2.2.1 ∈ lw_tbl := w_tb 1357 (by decide +kernel)
theorem lf_X6_229 : Cond.fieldLink RX6 229 RX6 (TX6 16).2.1 (TX6 16).2.2.1 ∈ lw_tbl := w_tb 1361 (by decide +kernel)
theorem lf_X6_241 : Cond.fieldLink RX6 241 RX6 (TX6 17).2.1 (TX6 17).2.2.1 ∈ lw_tbl := w_tb 1362 (by decide +kernel)
theorem lf_X6_259 : Cond.fieldLink RX6 259 RX6 (TX6 7).2.1 (TX6 7).2.2.1 ∈ lw_tbl := w_tb 1352 (by decide +kernel)
theorem lm_X5_11 : Cond.methodLink RX5 11 yX1_init ∈ lw_tbl := w_tb 41 (by decide +kernel)
theorem lm_X5_25 : Cond.methodLink RX5 25 yJ4_init_da8c8 ∈ lw_tbl := w_tb 141 (by decide +kernel)
theorem lm_X5_53 : Cond.methodLink RX5 53 yX5_change ∈ lw_tbl := w_tb 360 (by decide +kernel)
theorem lm_X5_81 : Cond.methodLink RX5 81 yX1_umbrellaAt ∈ lw_tbl := w_tb 444 (by decide +kernel)
theorem lm_X5_103 : Cond.methodLink RX5 103 yX5_trialIndex ∈ lw_tbl := w_tb 660 (by decide +kernel)
theorem lm_X5_107 : Cond.methodLink RX5 107 yX5_valueAt ∈ lw_tbl := w_tb 679 (by decide +kernel)
theorem lm_X5_111 : Cond.methodLink RX5 111 yX5_rainOfCase ∈ lw_tbl := w_tb 680 (by decide +kernel)
theorem lm_X5_115 : Cond.methodLink RX5 115 yX5_isOpenCase ∈ lw_tbl := w_tb 688 (by decide +kernel)
theorem lm_X5_122 : Cond.methodLink RX5 122 yX5_requireSituation ∈ lw_tbl := w_tb 705 (by decide +kernel)
theorem lm_X5_126 : Cond.methodLink RX5 126 yX1_rewardFor ∈ lw_tbl := w_tb 709 (by decide +kernel)
theorem lm_X5_130 : Cond.methodLink RX5 130 yX1_openingPays ∈ lw_tbl := w_tb 717 (by decide +kernel)
theorem lm_X5_134 : Cond.methodLink RX5 134 yX5_situationOf ∈ lw_tbl := w_tb 725 (by decide +kernel)
theorem lm_X5_138 : Cond.methodLink RX5 138 yX4_opensIn ∈ lw_tbl := w_tb 726 (by decide +kernel)
theorem lm_X5_141 : Cond.methodLink RX5 141 yX4_willExplore ∈ lw_tbl := w_tb 734 (by decide +kernel)
theorem lm_X5_148 : Cond.methodLink RX5 148 yX5_caseOf ∈ lw_tbl := w_tb 742 (by decide +kernel)
theorem lm_X5_154 : Cond.methodLink RX5 154 yX4_addUpTrials ∈ lw_tbl := w_tb 760 (by decide +kernel)
theorem lm_X5_164 : Cond.methodLink RX5 164 yX1_rightAnswers ∈ lw_tbl := w_tb 775 (by decide +kernel)
theorem lm_X5_167 : Cond.methodLink RX5 167 yX4_countKnownSituations ∈ lw_tbl := w_tb 783 (by decide +kernel)
theorem lm_X5_171 : Cond.methodLink RX5 171 yX5_rankedSituation ∈ lw_tbl := w_tb 798 (by decide +kernel)
theorem lm_X5_174 : Cond.methodLink RX5 174 yX5_rainOfSituation ∈ lw_tbl := w_tb 509 (by decide +kernel)
theorem lm_X5_177 : Cond.methodLink RX5 177 yX5_windOfSituation ∈ lw_tbl := w_tb 818 (by decide +kernel)
theorem lm_X5_180 : Cond.methodLink RX5 180 yX5_isLevel ∈ lw_tbl := w_tb 385 (by decide +kernel)
theorem lm_X5_188 : Cond.methodLink RX5 188 yX4_hasPassed ∈ lw_tbl := w_tb 829 (by decide +kernel)
theorem lm_X5_203 : Cond.methodLink RX5 203 yX1_umbrellaAtRank ∈ lw_tbl := w_tb 868 (by decide +kernel)
theorem lm_X5_217 : Cond.methodLink RX5 217 yX1_rewardByUmbrellas ∈ lw_tbl := w_tb 220 (by decide +kernel)
theorem lm_X5_220 : Cond.methodLink RX5 220 yX1_rewardByActions ∈ lw_tbl := w_tb 303 (by decide +kernel)
theorem lm_X5_223 : Cond.methodLink RX5 223 yX1_countTrials ∈ lw_tbl := w_tb 901 (by decide +kernel)
theorem lm_X5_234 : Cond.methodLink RX5 234 yX1_agrees ∈ lw_tbl := w_tb 311 (by decide +kernel)
theorem lm_X5_237 : Cond.methodLink RX5 237 yJ4_setLength_d00df ∈ lw_tbl := w_tb 922 (by decide +kernel)
theorem lm_X5_241 : Cond.methodLink RX5 241 yJ4_append_cf468 ∈ lw_tbl := w_tb 1175 (by decide +kernel)
theorem lm_X5_245 : Cond.methodLink RX5 245 yJ4_length_8abf5 ∈ lw_tbl := w_tb 1197 (by decide +kernel)
theorem lm_X5_248 : Cond.methodLink RX5 248 yJ4_append_bf812 ∈ lw_tbl := w_tb 1205 (by decide +kernel)
theorem lm_X5_256 : Cond.methodLink RX5 256 yJ4_charAt_5068e ∈ lw_tbl := w_tb 1214 (by decide +kernel)
theorem lm_X5_260 : Cond.methodLink RX5 260 yX5_isBetween ∈ lw_tbl := w_tb 376 (by decide +kernel)
theorem lm_X5_271 : Cond.methodLink RX5 271 yX5_findFormError ∈ lw_tbl := w_tb 1240 (by decide +kernel)
theorem lm_X5_276 : Cond.methodLink RX5 276 yX5_keepForUndo ∈ lw_tbl := w_tb 432 (by decide +kernel)
theorem lm_X5_279 : Cond.methodLink RX5 279 yX5_countCommands ∈ lw_tbl := w_tb 1286 (by decide +kernel)
theorem lm_X5_282 : Cond.methodLink RX5 282 yX5_runCommand ∈ lw_tbl := w_tb 1290 (by decide +kernel)
theorem lm_X5_285 : Cond.methodLink RX5 285 yX5_commandEnd ∈ lw_tbl := w_tb 1244 (by decide +kernel)
theorem lm_X5_288 : Cond.methodLink RX5 288 yX5_takeBack ∈ lw_tbl := w_tb 1298 (by decide +kernel)
theorem lm_X5_293 : Cond.methodLink RX5 293 yX5_countChange ∈ lw_tbl := w_tb 532 (by decide +kernel)
theorem lm_X5_302 : Cond.methodLink RX5 302 yX1_copyFrom ∈ lw_tbl := w_tb 332 (by decide +kernel)
theorem lm_X5_308 : Cond.methodLink RX5 308 yX5_refusalOf ∈ lw_tbl := w_tb 364 (by decide +kernel)
theorem lm_X5_312 : Cond.methodLink RX5 312 yX5_raise ∈ lw_tbl := w_tb 394 (by decide +kernel)
theorem lm_X5_316 : Cond.methodLink RX5 316 yX5_perform ∈ lw_tbl := w_tb 436 (by decide +kernel)
theorem lm_X5_339 : Cond.methodLink RX5 339 yX5_refusalFor ∈ lw_tbl := w_tb 388 (by decide +kernel)
theorem lm_X5_352 : Cond.methodLink RX5 352 yX1_enrol ∈ lw_tbl := w_tb 440 (by decide +kernel)
theorem lm_X5_355 : Cond.methodLink RX5 355 yX1_teach ∈ lw_tbl := w_tb 445 (by decide +kernel)
theorem lm_X5_359 : Cond.methodLink RX5 359 yX4_changePeriod ∈ lw_tbl := w_tb 490 (by decide +kernel)
theorem lm_X5_362 : Cond.methodLink RX5 362 yX1_changeWet ∈ lw_tbl := w_tb 494 (by decide +kernel)
theorem lm_X5_365 : Cond.methodLink RX5 365 yX1_changeGale ∈ lw_tbl := w_tb 498 (by decide +kernel)
theorem lm_X5_368 : Cond.methodLink RX5 368 yX4_forgetTrialsIn ∈ lw_tbl := w_tb 502 (by decide +kernel)
theorem lm_X5_371 : Cond.methodLink RX5 371 yX1_holdExam ∈ lw_tbl := w_tb 512 (by decide +kernel)
theorem lm_X5_374 : Cond.methodLink RX5 374 yX1_closeTerm ∈ lw_tbl := w_tb 528 (by decide +kernel)
theorem lm_X5_377 : Cond.methodLink RX5 377 yX5_moveOldestToEnd ∈ lw_tbl := w_tb 536 (by decide +kernel)
theorem lm_X5_380 : Cond.methodLink RX5 380 yX5_commandAt ∈ lw_tbl := w_tb 1248 (by decide +kernel)
theorem lm_X5_384 : Cond.methodLink RX5 384 yX5_longestMatch ∈ lw_tbl := w_tb 1280 (by decide +kernel)
theorem lm_X5_387 : Cond.methodLink RX5 387 yX5_digitAt ∈ lw_tbl := w_tb 1294 (by decide +kernel)
theorem lm_X5_399 : Cond.methodLink RX5 399 yX5_matchedLength ∈ lw_tbl := w_tb 1254 (by decide +kernel)
theorem lm_X5_406 : Cond.methodLink RX5 406 yJ0_length_8abf5 ∈ lw_tbl := w_tb 1258 (by decide +kernel)
theorem lm_X5_409 : Cond.methodLink RX5 409 yJ9_max_7cf53 ∈ lw_tbl := w_tb 1284 (by decide +kernel)
theorem lm_X5_414 : Cond.methodLink RX5 414 yJ0_charAt_5068e ∈ lw_tbl := w_tb 1259 (by decide +kernel)
theorem lm_X5_415 : Cond.methodLink RX5 415 yX5_fits ∈ lw_tbl := w_tb 1274 (by decide +kernel)
theorem lm_X5_419 : Cond.methodLink RX5 419 yX5_isDigit ∈ lw_tbl := w_tb 1277 (by decide +kernel)
theorem lm_X5_425 : Cond.methodLink RX5 425 yX4_situationAtRank ∈ lw_tbl := w_tb 802 (by decide +kernel)
theorem lm_X5_428 : Cond.methodLink RX5 428 yX5_caseInSituation ∈ lw_tbl := w_tb 745 (by decide +kernel)
theorem lm_X5_432 : Cond.methodLink RX5 432 yJ9_min_7cf53 ∈ lw_tbl := w_tb 343 (by decide +kernel)
theorem lm_X1_40 : Cond.methodLink RX1 40 yX4_copyFrom ∈ lw_tbl := w_tb 336 (by decide +kernel)
theorem lm_X1_51 : Cond.methodLink RX1 51 yX1_umbrellaAt ∈ lw_tbl := w_tb 224 (by decide +kernel)
theorem lm_X1_58 : Cond.methodLink RX1 58 yX1_rewardFor ∈ lw_tbl := w_tb 463 (by decide +kernel)
theorem lm_X1_66 : Cond.methodLink RX1 66 yX4_opensIn ∈ lw_tbl := w_tb 452 (by decide +kernel)
theorem lm_X1_70 : Cond.methodLink RX1 70 yX4_willExplore ∈ lw_tbl := w_tb 459 (by decide +kernel)
theorem lm_X1_74 : Cond.methodLink RX1 74 yX4_makeRoom ∈ lw_tbl := w_tb 467 (by decide +kernel)
theorem lm_X1_81 : Cond.methodLink RX1 81 yX4_enterTrial ∈ lw_tbl := w_tb 482 (by decide +kernel)
theorem lm_X1_85 : Cond.methodLink RX1 85 yX1_enterReward ∈ lw_tbl := w_tb 486 (by decide +kernel)
theorem lm_X1_89 : Cond.methodLink RX1 89 yX1_rightAnswers ∈ lw_tbl := w_tb 516 (by decide +kernel)
theorem lm_X1_93 : Cond.methodLink RX1 93 yX4_noteExam ∈ lw_tbl := w_tb 524 (by decide +kernel)
theorem lm_X1_97 : Cond.methodLink RX1 97 yX1_openingPays ∈ lw_tbl := w_tb 520 (by decide +kernel)
theorem lm_X1_107 : Cond.methodLink RX1 107 yX1_umbrellasBefore ∈ lw_tbl := w_tb 872 (by decide +kernel)
theorem lm_X1_111 : Cond.methodLink RX1 111 yX4_ranksBefore ∈ lw_tbl := w_tb 876 (by decide +kernel)
theorem lm_X1_124 : Cond.methodLink RX1 124 yX4_sumsAgree ∈ lw_tbl := w_tb 315 (by decide +kernel)
theorem lm_X1_127 : Cond.methodLink RX1 127 yX1_rewardByUmbrellas ∈ lw_tbl := w_tb 326 (by decide +kernel)
theorem lm_X1_131 : Cond.methodLink RX1 131 yX1_rewardByActions ∈ lw_tbl := w_tb 327 (by decide +kernel)
theorem lm_X4_65 : Cond.methodLink RX4 65 yX4_countCase ∈ lw_tbl := w_tb 471 (by decide +kernel)
theorem lm_X4_76 : Cond.methodLink RX4 76 yX4_timesIn ∈ lw_tbl := w_tb 787 (by decide +kernel)
theorem lm_X4_79 : Cond.methodLink RX4 79 yX4_situationsBefore ∈ lw_tbl := w_tb 806 (by decide +kernel)
theorem lm_X4_82 : Cond.methodLink RX4 82 yX4_addUpTrials ∈ lw_tbl := w_tb 322 (by decide +kernel)
theorem lm_L_7 : Cond.methodLink RL 7 yX5_addUmbrella ∈ lw_tbl := w_tb 354 (by decide +kernel)
theorem lm_L_17 : Cond.methodLink RL 17 yX5_train ∈ lw_tbl := w_tb 564 (by decide +kernel)
theorem lm_L_23 : Cond.methodLink RL 23 yX5_setPeriod ∈ lw_tbl := w_tb 573 (by decide +kernel)
theorem lm_L_27 : Cond.methodLink RL 27 yX5_setWetPenalty ∈ lw_tbl := w_tb 582 (by decide +kernel)
theorem lm_L_30 : Cond.methodLink RL 30 yX5_setGalePenalty ∈ lw_tbl := w_tb 591 (by decide +kernel)
theorem lm_L_33 : Cond.methodLink RL 33 yX5_forgetRain ∈ lw_tbl := w_tb 600 (by decide +kernel)
theorem lm_L_36 : Cond.methodLink RL 36 yX5_examine ∈ lw_tbl := w_tb 609 (by decide +kernel)
theorem lm_L_39 : Cond.methodLink RL 39 yX5_endTerm ∈ lw_tbl := w_tb 618 (by decide +kernel)
theorem lm_L_43 : Cond.methodLink RL 43 yX5_memory ∈ lw_tbl := w_tb 627 (by decide +kernel)
theorem lm_L_46 : Cond.methodLink RL 46 yX5_period ∈ lw_tbl := w_tb 634 (by decide +kernel)
theorem lm_L_49 : Cond.methodLink RL 49 yX5_trials ∈ lw_tbl := w_tb 641 (by decide +kernel)
theorem lm_L_52 : Cond.methodLink RL 52 yX5_rememberedTrials ∈ lw_tbl := w_tb 648 (by decide +kernel)
theorem lm_L_55 : Cond.methodLink RL 55 yX5_trialRain ∈ lw_tbl := w_tb 656 (by decide +kernel)
theorem lm_L_60 : Cond.methodLink RL 60 yX5_trialOpened ∈ lw_tbl := w_tb 684 (by decide +kernel)
theorem lm_L_64 : Cond.methodLink RL 64 yX5_trialReward ∈ lw_tbl := w_tb 694 (by decide +kernel)
theorem lm_L_67 : Cond.methodLink RL 67 yX5_reward ∈ lw_tbl := w_tb 701 (by decide +kernel)
theorem lm_L_71 : Cond.methodLink RL 71 yX5_shouldOpen ∈ lw_tbl := w_tb 713 (by decide +kernel)
theorem lm_L_74 : Cond.methodLink RL 74 yX5_wouldOpen ∈ lw_tbl := w_tb 721 (by decide +kernel)
theorem lm_L_78 : Cond.methodLink RL 78 yX5_exploresNext ∈ lw_tbl := w_tb 730 (by decide +kernel)
theorem lm_L_82 : Cond.methodLink RL 82 yX5_timesTried ∈ lw_tbl := w_tb 738 (by decide +kernel)
theorem lm_L_86 : Cond.methodLink RL 86 yX5_rewardSum ∈ lw_tbl := w_tb 749 (by decide +kernel)
theorem lm_L_89 : Cond.methodLink RL 89 yX5_rewardSumByTrials ∈ lw_tbl := w_tb 756 (by decide +kernel)
theorem lm_L_92 : Cond.methodLink RL 92 yX5_meanReward ∈ lw_tbl := w_tb 764 (by decide +kernel)
theorem lm_L_96 : Cond.methodLink RL 96 yX5_rightHabits ∈ lw_tbl := w_tb 771 (by decide +kernel)
theorem lm_L_99 : Cond.methodLink RL 99 yX5_knownSituations ∈ lw_tbl := w_tb 779 (by decide +kernel)
theorem lm_L_102 : Cond.methodLink RL 102 yX5_situationRain ∈ lw_tbl := w_tb 794 (by decide +kernel)
theorem lm_L_105 : Cond.methodLink RL 105 yX5_situationWind ∈ lw_tbl := w_tb 814 (by decide +kernel)
theorem lm_L_108 : Cond.methodLink RL 108 yX5_hasExam ∈ lw_tbl := w_tb 824 (by decide +kernel)
theorem lm_L_111 : Cond.methodLink RL 111 yX5_isGraduate ∈ lw_tbl := w_tb 836 (by decide +kernel)
theorem lm_L_114 : Cond.methodLink RL 114 yX5_totalReward ∈ lw_tbl := w_tb 843 (by decide +kernel)
theorem lm_L_117 : Cond.methodLink RL 117 yX5_termReward ∈ lw_tbl := w_tb 850 (by decide +kernel)
theorem lm_L_120 : Cond.methodLink RL 120 yX5_stars ∈ lw_tbl := w_tb 857 (by decide +kernel)
theorem lm_L_123 : Cond.methodLink RL 123 yX5_umbrellaByStars ∈ lw_tbl := w_tb 864 (by decide +kernel)
theorem lm_L_126 : Cond.methodLink RL 126 yX5_meanSchoolReward ∈ lw_tbl := w_tb 897 (by decide +kernel)
theorem lm_L_132 : Cond.methodLink RL 132 yX5_openShare ∈ lw_tbl := w_tb 911 (by decide +kernel)
theorem lm_L_136 : Cond.methodLink RL 136 yX5_renderHabits ∈ lw_tbl := w_tb 918 (by decide +kernel)
theorem lm_L_139 : Cond.methodLink RL 139 yX5_renderUmbrella ∈ lw_tbl := w_tb 1201 (by decide +kernel)
theorem lm_L_142 : Cond.methodLink RL 142 yX5_outputAt ∈ lw_tbl := w_tb 1209 (by decide +kernel)
theorem lm_L_146 : Cond.methodLink RL 146 yX5_type ∈ lw_tbl := w_tb 1227 (by decide +kernel)
theorem lm_L_150 : Cond.methodLink RL 150 yX5_runScript ∈ lw_tbl := w_tb 1236 (by decide +kernel)
theorem lm_L_153 : Cond.methodLink RL 153 yX5_errorPosition ∈ lw_tbl := w_tb 1306 (by decide +kernel)
theorem lm_L_156 : Cond.methodLink RL 156 yX5_failedCommand ∈ lw_tbl := w_tb 1314 (by decide +kernel)
theorem lm_L_159 : Cond.methodLink RL 159 yX5_undo ∈ lw_tbl := w_tb 1322 (by decide +kernel)
theorem lm_L_162 : Cond.methodLink RL 162 yX5_restore ∈ lw_tbl := w_tb 1330 (by decide +kernel)
theorem lm_L_165 : Cond.methodLink RL 165 yX5_init ∈ lw_tbl := w_tb 33 (by decide +kernel)
theorem lm_L_168 : Cond.methodLink RL 168 yX6_init ∈ lw_tbl := w_tb 1341 (by decide +kernel)
theorem lm_L_169 : Cond.methodLink RL 169 yL_addUmbrella ∈ lw_tbl := w_tb 349 (by decide +kernel)
theorem lm_L_174 : Cond.methodLink RL 174 yX6_addUmbrella ∈ lw_tbl := w_tb 1401 (by decide +kernel)
theorem lm_L_175 : Cond.methodLink RL 175 yX6_thrown ∈ lw_tbl := w_tb 1335 (by decide +kernel)
theorem lm_L_178 : Cond.methodLink RL 178 yL_train ∈ lw_tbl := w_tb 540 (by decide +kernel)
theorem lm_L_181 : Cond.methodLink RL 181 yX6_train ∈ lw_tbl := w_tb 1436 (by decide +kernel)
theorem lm_L_182 : Cond.methodLink RL 182 yL_setPeriod ∈ lw_tbl := w_tb 570 (by decide +kernel)
theorem lm_L_185 : Cond.methodLink RL 185 yX6_setPeriod ∈ lw_tbl := w_tb 1497 (by decide +kernel)
theorem lm_L_186 : Cond.methodLink RL 186 yL_setWetPenalty ∈ lw_tbl := w_tb 579 (by decide +kernel)
theorem lm_L_188 : Cond.methodLink RL 188 yX6_setWetPenalty ∈ lw_tbl := w_tb 1509 (by decide +kernel)
theorem lm_L_189 : Cond.methodLink RL 189 yL_setGalePenalty ∈ lw_tbl := w_tb 588 (by decide +kernel)
theorem lm_L_191 : Cond.methodLink RL 191 yX6_setGalePenalty ∈ lw_tbl := w_tb 1524 (by decide +kernel)
theorem lm_L_192 : Cond.methodLink RL 192 yL_forgetRain ∈ lw_tbl := w_tb 597 (by decide +kernel)
theorem lm_L_194 : Cond.methodLink RL 194 yX6_forgetRain ∈ lw_tbl := w_tb 1528 (by decide +kernel)
theorem lm_L_195 : Cond.methodLink RL 195 yL_examine ∈ lw_tbl := w_tb 606 (by decide +kernel)
theorem lm_L_197 : Cond.methodLink RL 197 yX6_examine ∈ lw_tbl := w_tb 1543 (by decide +kernel)
theorem lm_L_198 : Cond.methodLink RL 198 yL_endTerm ∈ lw_tbl := w_tb 615 (by decide +kernel)
theorem lm_L_201 : Cond.methodLink RL 201 yX6_endTerm ∈ lw_tbl := w_tb 1563 (by decide +kernel)
theorem lm_L_202 : Cond.methodLink RL 202 yX5_umbrellaCount ∈ lw_tbl := w_tb 200 (by decide +kernel)
theorem lm_L_205 : Cond.methodLink RL 205 yX6_umbrellaCount ∈ lw_tbl := w_tb 1575 (by decide +kernel)
theorem lm_L_206 : Cond.methodLink RL 206 yL_memory ∈ lw_tbl := w_tb 624 (by decide +kernel)
theorem lm_L_208 : Cond.methodLink RL 208 yX6_memory ∈ lw_tbl := w_tb 1583 (by decide +kernel)
theorem lm_L_209 : Cond.methodLink RL 209 yL_period ∈ lw_tbl := w_tb 631 (by decide +kernel)
theorem lm_L_211 : Cond.methodLink RL 211 yX6_period ∈ lw_tbl := w_tb 1591 (by decide +kernel)
theorem lm_L_212 : Cond.methodLink RL 212 yL_trials ∈ lw_tbl := w_tb 638 (by decide +kernel)
theorem lm_L_214 : Cond.methodLink RL 214 yX6_trials ∈ lw_tbl := w_tb 1595 (by decide +kernel)
theorem lm_L_215 : Cond.methodLink RL 215 yL_rememberedTrials ∈ lw_tbl := w_tb 645 (by decide +kernel)
theorem lm_L_217 : Cond.methodLink RL 217 yX6_rememberedTrials ∈ lw_tbl := w_tb 1599 (by decide +kernel)
theorem lm_L_218 : Cond.methodLink RL 218 yL_trialRain ∈ lw_tbl := w_tb 652 (by decide +kernel)
theorem lm_L_220 : Cond.methodLink RL 220 yX6_trialRain ∈ lw_tbl := w_tb 1603 (by decide +kernel)
theorem lm_L_221 : Cond.methodLink RL 221 yL_trialOpened ∈ lw_tbl := w_tb 681 (by decide +kernel)
theorem lm_L_223 : Cond.methodLink RL 223 yX6_trialOpened ∈ lw_tbl := w_tb 1611 (by decide +kernel)
theorem lm_L_224 : Cond.methodLink RL 224 yL_trialReward ∈ lw_tbl := w_tb 691 (by decide +kernel)
theorem lm_L_226 : Cond.methodLink RL 226 yX6_trialReward ∈ lw_tbl := w_tb 1615 (by decide +kernel)
theorem lm_L_227 : Cond.methodLink RL 227 yL_reward ∈ lw_tbl := w_tb 698 (by decide +kernel)
theorem lm_L_230 : Cond.methodLink RL 230 yX6_reward ∈ lw_tbl := w_tb 1619 (by decide +kernel)
theorem lm_L_231 : Cond.methodLink RL 231 yL_shouldOpen ∈ lw_tbl := w_tb 710 (by decide +kernel)
theorem lm_L_233 : Cond.methodLink RL 233 yX6_shouldOpen ∈ lw_tbl := w_tb 1623 (by decide +kernel)
theorem lm_L_234 : Cond.methodLink RL 234 yL_wouldOpen ∈ lw_tbl := w_tb 718 (by decide +kernel)
theorem lm_L_237 : Cond.methodLink RL 237 yX6_wouldOpen ∈ lw_tbl := w_tb 1627 (by decide +kernel)
theorem lm_L_238 : Cond.methodLink RL 238 yL_exploresNext ∈ lw_tbl := w_tb 727 (by decide +kernel)
theorem lm_L_240 : Cond.methodLink RL 240 yX6_exploresNext ∈ lw_tbl := w_tb 1635 (by decide +kernel)
theorem lm_L_241 : Cond.methodLink RL 241 yL_timesTried ∈ lw_tbl := w_tb 735 (by decide +kernel)
theorem lm_L_244 : Cond.methodLink RL 244 yX6_timesTried ∈ lw_tbl := w_tb 1639 (by decide +kernel)
theorem lm_L_245 : Cond.methodLink RL 245 yL_rewardSum ∈ lw_tbl := w_tb 746 (by decide +kernel)
theorem lm_L_247 : Cond.methodLink RL 247 yX6_rewardSum ∈ lw_tbl := w_tb 1643 (by decide +kernel)
theorem lm_L_248 : Cond.methodLink RL 248 yL_rewardSumByTrials ∈ lw_tbl := w_tb 753 (by decide +kernel)
theorem lm_L_250 : Cond.methodLink RL 250 yX6_rewardSumByTrials ∈ lw_tbl := w_tb 1647 (by decide +kernel)
theorem lm_L_251 : Cond.methodLink RL 251 yL_meanReward ∈ lw_tbl := w_tb 761 (by decide +kernel)
theorem lm_L_254 : Cond.methodLink RL 254 yX6_meanReward ∈ lw_tbl := w_tb 1652 (by decide +kernel)
theorem lm_L_255 : Cond.methodLink RL 255 yL_rightHabits ∈ lw_tbl := w_tb 768 (by decide +kernel)
theorem lm_L_257 : Cond.methodLink RL 257 yX6_rightHabits ∈ lw_tbl := w_tb 1656 (by decide +kernel)
theorem lm_L_258 : Cond.methodLink RL 258 yL_knownSituations ∈ lw_tbl := w_tb 776 (by decide +kernel)
theorem lm_L_260 : Cond.methodLink RL 260 yX6_knownSituations ∈ lw_tbl := w_tb 1660 (by decide +kernel)
theorem lm_L_261 : Cond.methodLink RL 261 yL_situationRain ∈ lw_tbl := w_tb 791 (by decide +kernel)
theorem lm_L_263 : Cond.methodLink RL 263 yX6_situationRain ∈ lw_tbl := w_tb 1668 (by decide +kernel)
theorem lm_L_264 : Cond.methodLink RL 264 yL_situationWind ∈ lw_tbl := w_tb 811 (by decide +kernel)
theorem lm_L_266 : Cond.methodLink RL 266 yX6_situationWind ∈ lw_tbl := w_tb 1676 (by decide +kernel)
theorem lm_L_267 : Cond.methodLink RL 267 yL_hasExam ∈ lw_tbl := w_tb 821 (by decide +kernel)
theorem lm_L_269 : Cond.methodLink RL 269 yX6_hasExam ∈ lw_tbl := w_tb 1680 (by decide +kernel)
theorem lm_L_270 : Cond.methodLink RL 270 yL_isGraduate ∈ lw_tbl := w_tb 833 (by decide +kernel)
theorem lm_L_272 : Cond.methodLink RL 272 yX6_isGraduate ∈ lw_tbl := w_tb 1684 (by decide +kernel)
theorem lm_L_273 : Cond.methodLink RL 273 yL_totalReward ∈ lw_tbl := w_tb 840 (by decide +kernel)
theorem lm_L_275 : Cond.methodLink RL 275 yX6_totalReward ∈ lw_tbl := w_tb 1688 (by decide +kernel)
theorem lm_L_276 : Cond.methodLink RL 276 yL_termReward ∈ lw_tbl := w_tb 847 (by decide +kernel)
theorem lm_L_278 : Cond.methodLink RL 278 yX6_termReward ∈ lw_tbl := w_tb 1692 (by decide +kernel)
theorem lm_L_279 : Cond.methodLink RL 279 yL_stars ∈ lw_tbl := w_tb 854 (by decide +kernel)
theorem lm_L_281 : Cond.methodLink RL 281 yX6_stars ∈ lw_tbl := w_tb 1696 (by decide +kernel)
theorem lm_L_282 : Cond.methodLink RL 282 yL_umbrellaByStars ∈ lw_tbl := w_tb 861 (by decide +kernel)
theorem lm_L_284 : Cond.methodLink RL 284 yX6_umbrellaByStars ∈ lw_tbl := w_tb 1700 (by decide +kernel)
theorem lm_L_285 : Cond.methodLink RL 285 yX5_wetPenalty ∈ lw_tbl := w_tb 204 (by decide +kernel)
theorem lm_L_288 : Cond.methodLink RL 288 yX6_wetPenalty ∈ lw_tbl := w_tb 1708 (by decide +kernel)
theorem lm_L_289 : Cond.methodLink RL 289 yX5_galePenalty ∈ lw_tbl := w_tb 208 (by decide +kernel)
theorem lm_L_292 : Cond.methodLink RL 292 yX6_galePenalty ∈ lw_tbl := w_tb 1712 (by decide +kernel)
theorem lm_L_293 : Cond.methodLink RL 293 yX5_term ∈ lw_tbl := w_tb 212 (by decide +kernel)
theorem lm_L_296 : Cond.methodLink RL 296 yX6_term ∈ lw_tbl := w_tb 1716 (by decide +kernel)
theorem lm_L_297 : Cond.methodLink RL 297 yX5_schoolReward ∈ lw_tbl := w_tb 216 (by decide +kernel)
theorem lm_L_300 : Cond.methodLink RL 300 yX6_schoolReward ∈ lw_tbl := w_tb 1720 (by decide +kernel)
theorem lm_L_301 : Cond.methodLink RL 301 yX5_schoolRewardByActions ∈ lw_tbl := w_tb 299 (by decide +kernel)
theorem lm_L_304 : Cond.methodLink RL 304 yX6_schoolRewardByActions ∈ lw_tbl := w_tb 1728 (by decide +kernel)
theorem lm_L_305 : Cond.methodLink RL 305 yL_meanSchoolReward ∈ lw_tbl := w_tb 880 (by decide +kernel)
theorem lm_L_308 : Cond.methodLink RL 308 yX6_meanSchoolReward ∈ lw_tbl := w_tb 1732 (by decide +kernel)
theorem lm_L_309 : Cond.methodLink RL 309 yL_openShare ∈ lw_tbl := w_tb 908 (by decide +kernel)
theorem lm_L_311 : Cond.methodLink RL 311 yX6_openShare ∈ lw_tbl := w_tb 1736 (by decide +kernel)
theorem lm_L_312 : Cond.methodLink RL 312 yX5_isConsistent ∈ lw_tbl := w_tb 307 (by decide +kernel)
theorem lm_L_316 : Cond.methodLink RL 316 yX6_isConsistent ∈ lw_tbl := w_tb 1740 (by decide +kernel)
theorem lm_L_317 : Cond.methodLink RL 317 yL_renderHabits ∈ lw_tbl := w_tb 915 (by decide +kernel)
theorem lm_L_319 : Cond.methodLink RL 319 yX6_renderHabits ∈ lw_tbl := w_tb 1744 (by decide +kernel)
theorem lm_L_320 : Cond.methodLink RL 320 yL_renderUmbrella ∈ lw_tbl := w_tb 1198 (by decide +kernel)
theorem lm_L_322 : Cond.methodLink RL 322 yX6_renderUmbrella ∈ lw_tbl := w_tb 1752 (by decide +kernel)
theorem lm_L_323 : Cond.methodLink RL 323 yL_outputAt ∈ lw_tbl := w_tb 1206 (by decide +kernel)
theorem lm_L_325 : Cond.methodLink RL 325 yX6_outputAt ∈ lw_tbl := w_tb 1760 (by decide +kernel)
theorem lm_L_326 : Cond.methodLink RL 326 yL_type ∈ lw_tbl := w_tb 1224 (by decide +kernel)
theorem lm_L_329 : Cond.methodLink RL 329 yX6_type ∈ lw_tbl := w_tb 1764 (by decide +kernel)
theorem lm_L_330 : Cond.methodLink RL 330 yL_runScript ∈ lw_tbl := w_tb 1233 (by decide +kernel)
theorem lm_L_332 : Cond.methodLink RL 332 yX6_runScript ∈ lw_tbl := w_tb 1768 (by decide +kernel)
theorem lm_L_333 : Cond.methodLink RL 333 yL_errorPosition ∈ lw_tbl := w_tb 1303 (by decide +kernel)
theorem lm_L_335 : Cond.methodLink RL 335 yX6_errorPosition ∈ lw_tbl := w_tb 1824 (by decide +kernel)
theorem lm_L_336 : Cond.methodLink RL 336 yL_failedCommand ∈ lw_tbl := w_tb 1311 (by decide +kernel)
theorem lm_L_338 : Cond.methodLink RL 338 yX6_failedCommand ∈ lw_tbl := w_tb 1828 (by decide +kernel)
theorem lm_L_339 : Cond.methodLink RL 339 yL_undo ∈ lw_tbl := w_tb 1319 (by decide +kernel)
theorem lm_L_341 : Cond.methodLink RL 341 yX6_undo ∈ lw_tbl := w_tb 1832 (by decide +kernel)
theorem lm_L_342 : Cond.methodLink RL 342 yX5_save ∈ lw_tbl := w_tb 328 (by decide +kernel)
theorem lm_L_345 : Cond.methodLink RL 345 yX6_save ∈ lw_tbl := w_tb 1836 (by decide +kernel)
theorem lm_L_346 : Cond.methodLink RL 346 yL_restore ∈ lw_tbl := w_tb 1327 (by decide +kernel)
theorem lm_L_348 : Cond.methodLink RL 348 yX6_restore ∈ lw_tbl := w_tb 1840 (by decide +kernel)
theorem lm_X6_48 : Cond.methodLink RX6 48 yX6_copies ∈ lw_tbl := w_tb 1420 (by decide +kernel)
theorem lm_X6_51 : Cond.methodLink RX6 51 yX6_keeps ∈ lw_tbl := w_tb 1424 (by decide +kernel)
theorem lm_X6_54 : Cond.methodLink RX6 54 yX6_isBetween ∈ lw_tbl := w_tb 1409 (by decide +kernel)
theorem lm_X6_58 : Cond.methodLink RX6 58 yX6_rewardNow ∈ lw_tbl := w_tb 1482 (by decide +kernel)
theorem lm_X6_62 : Cond.methodLink RX6 62 yX6_of ∈ lw_tbl := w_tb 1467 (by decide +kernel)
theorem lm_X6_66 : Cond.methodLink RX6 66 yX6_rewardOf ∈ lw_tbl := w_tb 1475 (by decide +kernel)
theorem lm_X6_70 : Cond.methodLink RX6 70 yX6_triedTimes ∈ lw_tbl := w_tb 1463 (by decide +kernel)
theorem lm_X6_74 : Cond.methodLink RX6 74 yX6_sumOf ∈ lw_tbl := w_tb 1471 (by decide +kernel)
theorem lm_X6_77 : Cond.methodLink RX6 77 yX6_puts ∈ lw_tbl := w_tb 1432 (by decide +kernel)
theorem lm_X6_81 : Cond.methodLink RX6 81 yX6_notAdd ∈ lw_tbl := w_tb 1405 (by decide +kernel)
theorem lm_X6_84 : Cond.methodLink RX6 84 yX6_fails ∈ lw_tbl := w_tb 1412 (by decide +kernel)
theorem lm_X6_87 : Cond.methodLink RX6 87 yX6_remembers ∈ lw_tbl := w_tb 1416 (by decide +kernel)
theorem lm_X6_90 : Cond.methodLink RX6 90 yX6_addsUmbrella ∈ lw_tbl := w_tb 1428 (by decide +kernel)
theorem lm_X6_93 : Cond.methodLink RX6 93 yX6_adds ∈ lw_tbl := w_tb 1493 (by decide +kernel)
theorem lm_X6_96 : Cond.methodLink RX6 96 yX6_habit ∈ lw_tbl := w_tb 1459 (by decide +kernel)
theorem lm_X6_99 : Cond.methodLink RX6 99 yX6_explores ∈ lw_tbl := w_tb 1478 (by decide +kernel)
theorem lm_X6_103 : Cond.methodLink RX6 103 yX6_trialOf ∈ lw_tbl := w_tb 1486 (by decide +kernel)
theorem lm_X6_106 : Cond.methodLink RX6 106 yX6_learns ∈ lw_tbl := w_tb 1489 (by decide +kernel)
theorem lm_X6_110 : Cond.methodLink RX6 110 yX6_isUmbrella ∈ lw_tbl := w_tb 1444 (by decide +kernel)
theorem lm_X6_113 : Cond.methodLink RX6 113 yX6_isSituation ∈ lw_tbl := w_tb 1448 (by decide +kernel)
theorem lm_X6_117 : Cond.methodLink RX6 117 yX6_tries ∈ lw_tbl := w_tb 1455 (by decide +kernel)
theorem lm_X6_120 : Cond.methodLink RX6 120 yX6_notTrain ∈ lw_tbl := w_tb 1440 (by decide +kernel)
theorem lm_X6_123 : Cond.methodLink RX6 123 yX6_trains ∈ lw_tbl := w_tb 1451 (by decide +kernel)
theorem lm_X6_126 : Cond.methodLink RX6 126 yX6_notPeriod ∈ lw_tbl := w_tb 1501 (by decide +kernel)
theorem lm_X6_129 : Cond.methodLink RX6 129 yX6_setsPeriod ∈ lw_tbl := w_tb 1505 (by decide +kernel)
theorem lm_X6_132 : Cond.methodLink RX6 132 yX6_notPenalty ∈ lw_tbl := w_tb 1517 (by decide +kernel)
theorem lm_X6_135 : Cond.methodLink RX6 135 yX6_sets ∈ lw_tbl := w_tb 1520 (by decide +kernel)
theorem lm_X6_138 : Cond.methodLink RX6 138 yX6_setsChecked ∈ lw_tbl := w_tb 1513 (by decide +kernel)
theorem lm_X6_141 : Cond.methodLink RX6 141 yX6_rainOf ∈ lw_tbl := w_tb 1540 (by decide +kernel)
theorem lm_X6_144 : Cond.methodLink RX6 144 yX6_notOne ∈ lw_tbl := w_tb 1532 (by decide +kernel)
theorem lm_X6_147 : Cond.methodLink RX6 147 yX6_forgets ∈ lw_tbl := w_tb 1536 (by decide +kernel)
theorem lm_X6_150 : Cond.methodLink RX6 150 yX6_isRightToOpen ∈ lw_tbl := w_tb 1555 (by decide +kernel)
theorem lm_X6_153 : Cond.methodLink RX6 153 yX6_isRight ∈ lw_tbl := w_tb 1551 (by decide +kernel)
theorem lm_X6_156 : Cond.methodLink RX6 156 yX6_hasExamOf ∈ lw_tbl := w_tb 1559 (by decide +kernel)
theorem lm_X6_159 : Cond.methodLink RX6 159 yX6_examines ∈ lw_tbl := w_tb 1547 (by decide +kernel)
theorem lm_X6_162 : Cond.methodLink RX6 162 yX6_notEnd ∈ lw_tbl := w_tb 1567 (by decide +kernel)
theorem lm_X6_166 : Cond.methodLink RX6 166 yX6_endsTerm ∈ lw_tbl := w_tb 1571 (by decide +kernel)
theorem lm_X6_169 : Cond.methodLink RX6 169 yX6_asks ∈ lw_tbl := w_tb 1579 (by decide +kernel)
theorem lm_X6_172 : Cond.methodLink RX6 172 yX6_asksUmbrella ∈ lw_tbl := w_tb 1587 (by decide +kernel)
theorem lm_X6_175 : Cond.methodLink RX6 175 yX6_trialAt ∈ lw_tbl := w_tb 1607 (by decide +kernel)
theorem lm_X6_178 : Cond.methodLink RX6 178 yX6_notAsk ∈ lw_tbl := w_tb 1631 (by decide +kernel)
theorem lm_X6_181 : Cond.methodLink RX6 181 yX6_rewardSum ∈ lw_tbl := w_tb 1651 (by decide +kernel)
theorem lm_X6_185 : Cond.methodLink RX6 185 yX6_trialsIn ∈ lw_tbl := w_tb 1664 (by decide +kernel)
theorem lm_X6_188 : Cond.methodLink RX6 188 yX6_situationAt ∈ lw_tbl := w_tb 1672 (by decide +kernel)
theorem lm_X6_191 : Cond.methodLink RX6 191 yX6_isAhead ∈ lw_tbl := w_tb 1704 (by decide +kernel)
theorem lm_X6_194 : Cond.methodLink RX6 194 yX6_rewardAll ∈ lw_tbl := w_tb 1724 (by decide +kernel)
theorem lm_X6_200 : Cond.methodLink RX6 200 yX6_writes ∈ lw_tbl := w_tb 1748 (by decide +kernel)
theorem lm_X6_204 : Cond.methodLink RX6 204 yX6_writesNumber ∈ lw_tbl := w_tb 1756 (by decide +kernel)
theorem lm_X6_213 : Cond.methodLink RX6 213 yX6_nextChar ∈ lw_tbl := w_tb 1780 (by decide +kernel)
theorem lm_X6_216 : Cond.methodLink RX6 216 yX6_readsDigit ∈ lw_tbl := w_tb 1792 (by decide +kernel)
theorem lm_X6_219 : Cond.methodLink RX6 219 yX6_reads ∈ lw_tbl := w_tb 1784 (by decide +kernel)
theorem lm_X6_222 : Cond.methodLink RX6 222 yX6_readsTwo ∈ lw_tbl := w_tb 1804 (by decide +kernel)
theorem lm_X6_226 : Cond.methodLink RX6 226 yX6_readsTrain ∈ lw_tbl := w_tb 1800 (by decide +kernel)
theorem lm_X6_232 : Cond.methodLink RX6 232 yX6_readsNumber ∈ lw_tbl := w_tb 1788 (by decide +kernel)
theorem lm_X6_235 : Cond.methodLink RX6 235 yX6_readsT ∈ lw_tbl := w_tb 1796 (by decide +kernel)
theorem lm_X6_238 : Cond.methodLink RX6 238 yX6_readsCommand ∈ lw_tbl := w_tb 1776 (by decide +kernel)
theorem lm_X6_244 : Cond.methodLink RX6 244 yX6_notNow ∈ lw_tbl := w_tb 1812 (by decide +kernel)
theorem lm_X6_247 : Cond.methodLink RX6 247 yX6_doesNow ∈ lw_tbl := w_tb 1816 (by decide +kernel)
theorem lm_X6_250 : Cond.methodLink RX6 250 yX6_readsAll ∈ lw_tbl := w_tb 1772 (by decide +kernel)
theorem lm_X6_253 : Cond.methodLink RX6 253 yX6_doesAll ∈ lw_tbl := w_tb 1808 (by decide +kernel)
theorem lm_X6_256 : Cond.methodLink RX6 256 yX6_goesBack ∈ lw_tbl := w_tb 1820 (by decide +kernel)
theorem ca_X5_init : gCa yX5_init cX5_init 2 none 0 := ⟨w_tb 35 (by decide +kernel), w_tb 1 (by decide +kernel), (by decide +kernel), by decide⟩
theorem in_X5_init : Cond.instanceMethod yX5_init ∈ lw_tbl := w_tb 34 (by decide +kernel)
theorem ca_X5_addAt : gCa yX5_addAt cX5_addAt 3 none 3 := ⟨w_tb 477 (by decide +kernel), w_tb 1 (by decide +kernel), (by decide +kernel), by decide⟩
theorem st_X5_addAt : Cond.static yX5_addAt ∈ lw_tbl := w_tb 476 (by decide +kernel)
theorem ca_X5_addUmbrella : gCa yX5_addUmbrella cX5_addUmbrella 2 (some .int) 1 := ⟨w_tb 357 (by decide +kernel), w_tb 1 (by decide +kernel), (by decide +kernel), by decide⟩
theorem in_X5_addUmbrella : Cond.instanceMethod yX5_addUmbrella ∈ lw_tbl := w_tb 355 (by decide +kernel)
theorem se_X5_addUmbrella : Cond.selects yX5_addUmbrella.cls yX5_addUmbrella yX5_addUmbrella ∈ lw_tbl := w_tb 356 (by decide +kernel)
theorem ca_X5_caseInSituation : gCa yX5_caseInSituation cX5_caseInSituation 2 (some .int) 2 := ⟨w_tb 458 (by decide +kernel), w_tb 1 (by decide +kernel), (by decide +kernel), by decide⟩
theorem st_X5_caseInSituation : Cond.static yX5_caseInSituation ∈ lw_tbl := w_tb 457 (by decide +kernel)
theorem ca_X5_caseOf : gCa yX5_caseOf cX5_caseOf 3 (some .int) 3 := ⟨w_tb 744 (by decide +kernel), w_tb 1 (by decide +kernel), (by decide +kernel), by decide⟩
theorem st_X5_caseOf : Cond.static yX5_caseOf ∈ lw_tbl := w_tb 743 (by decide +kernel)
theorem ca_X5_change : gCa yX5_change cX5_change 7 (some .int) 5 := ⟨w_tb 363 (by decide +kernel), w_tb 1 (by decide +kernel), (by decide +kernel), by decide⟩
theorem in_X5_change : Cond.instanceMethod yX5_change ∈ lw_tbl := w_tb 362 (by decide +kernel)
theorem se_X5_change : Cond.selects yX5_change.cls yX5_change yX5_change ∈ lw_tbl := w_pr 1 9 (by decide +kernel)
theorem ca_X5_commandAt : gCa yX5_commandAt cX5_commandAt 9 (some ( .object "UmbrellaSchool$Command")) 2 := ⟨w_tb 1251 (by decide +kernel), w_tb 1 (by decide +kernel), (by decide +kernel), by decide⟩
theorem in_X5_commandAt : Cond.instanceMethod yX5_commandAt ∈ lw_tbl := w_tb 1250 (by decide +kernel)
theorem se_X5_commandAt : Cond.selects yX5_commandAt.cls yX5_commandAt yX5_commandAt ∈ lw_tbl := w_pr 11 9 (by decide +kernel)
theorem ca_X5_commandEnd : gCa yX5_commandEnd cX5_commandEnd 3 (some .int) 1 := ⟨w_tb 1247 (by decide +kernel), w_tb 1 (by decide +kernel), (by decide +kernel), by decide⟩
theorem in_X5_commandEnd : Cond.instanceMethod yX5_commandEnd ∈ lw_tbl := w_tb 1246 (by decide +kernel)
theorem se_X5_commandEnd : Cond.selects yX5_commandEnd.cls yX5_commandEnd yX5_commandEnd ∈ lw_tbl := w_pr 10 9 (by decide +kernel)
theorem ca_X5_copyRow : gCa yX5_copyRow cX5_copyRow 2 none 2 := ⟨w_tb 342 (by decide +kernel), w_tb 1 (by decide +kernel), (by decide +kernel), by decide⟩
theorem st_X5_copyRow : Cond.static yX5_copyRow ∈ lw_tbl := w_tb 341 (by decide +kernel)
theorem ca_X5_countChange : gCa yX5_countChange cX5_countChange 1 none 0 := ⟨w_tb 535 (by decide +kernel), w_tb 1 (by decide +kernel), (by decide +kernel), by decide⟩
theorem in_X5_countChange : Cond.instanceMethod yX5_countChange ∈ lw_tbl := w_tb 534 (by decide +kernel)
theorem se_X5_countChange : Cond.selects yX5_countChange.cls yX5_countChange yX5_countChange ∈ lw_tbl := w_pr 6 9 (by decide +kernel)
theorem ca_X5_countCommands : gCa yX5_countCommands cX5_countCommands 3 (some .int) 0 := ⟨w_tb 1289 (by decide +kernel), w_tb 1 (by decide +kernel), (by decide +kernel), by decide⟩
theorem in_X5_countCommands : Cond.instanceMethod yX5_countCommands ∈ lw_tbl := w_tb 1288 (by decide +kernel)
theorem se_X5_countCommands : Cond.selects yX5_countCommands.cls yX5_countCommands yX5_countCommands ∈ lw_tbl := w_pr 14 9 (by decide +kernel)
theorem ca_X5_digitAt : gCa yX5_digitAt cX5_digitAt 7 (some .int) 3 := ⟨w_tb 1297 (by decide +kernel), w_tb 1 (by decide +kernel), (by decide +kernel), by decide⟩
theorem in_X5_digitAt : Cond.instanceMethod yX5_digitAt ∈ lw_tbl := w_tb 1296 (by decide +kernel)
theorem se_X5_digitAt : Cond.selects yX5_digitAt.cls yX5_digitAt yX5_digitAt ∈ lw_tbl := w_pr 16 9 (by decide +kernel)
theorem ca_X5_endTerm : gCa yX5_endTerm cX5_endTerm 1 (some .int) 0 := ⟨w_tb 621 (by decide +kernel), w_tb 1 (by decide +kernel), (by decide +kernel), by decide⟩
theorem in_X5_endTerm : Cond.instanceMethod yX5_endTerm ∈ lw_tbl := w_tb 619 (by decide +kernel)
theorem se_X5_endTerm : Cond.selects yX5_endTerm.cls yX5_endTerm yX5_endTerm ∈ lw_tbl := w_tb 620 (by decide +kernel)
theorem ca_X5_errorPosition : gCa yX5_errorPosition cX5_errorPosition 1 (some .int) 0 := ⟨w_tb 1309 (by decide +kernel), w_tb 1 (by decide +kernel), (by decide +kernel), by decide⟩
theorem in_X5_errorPosition : Cond.instanceMethod yX5_errorPosition ∈ lw_tbl := w_tb 1307 (by decide +kernel)
theorem se_X5_errorPosition : Cond.selects yX5_errorPosition.cls yX5_errorPosition yX5_errorPosition ∈ lw_tbl := w_tb 1308 (by decide +kernel)
theorem ca_X5_examine : gCa yX5_examine cX5_examine 3 (some .int) 2 := ⟨w_tb 612 (by decide +kernel), w_tb 1 (by decide +kernel), (by decide +kernel), by decide⟩
theorem in_X5_examine : Cond.instanceMethod yX5_examine ∈ lw_tbl := w_tb 610 (by decide +kernel)
theorem se_X5_examine : Cond.selects yX5_examine.cls yX5_examine yX5_examine ∈ lw_tbl := w_tb 611 (by decide +kernel)
theorem ca_X5_exploresNext : gCa yX5_exploresNext cX5_exploresNext 2 (some .boolean) 1 := ⟨w_tb 733 (by decide +kernel), w_tb 1 (by decide +kernel), (by decide +kernel), by decide⟩
theorem in_X5_exploresNext : Cond.instanceMethod yX5_exploresNext ∈ lw_tbl := w_tb 731 (by decide +kernel)
theorem se_X5_exploresNext : Cond.selects yX5_exploresNext.cls yX5_exploresNext yX5_exploresNext ∈ lw_tbl := w_tb 732 (by decide +kernel)
theorem ca_X5_failedCommand : gCa yX5_failedCommand cX5_failedCommand 1 (some .int) 0 := ⟨w_tb 1317 (by decide +kernel), w_tb 1 (by decide +kernel), (by decide +kernel), by decide⟩
theorem in_X5_failedCommand : Cond.instanceMethod yX5_failedCommand ∈ lw_tbl := w_tb 1315 (by decide +kernel)
theorem se_X5_failedCommand : Cond.selects yX5_failedCommand.cls yX5_failedCommand yX5_failedCommand ∈ lw_tbl := w_tb 1316 (by decide +kernel)
theorem ca_X5_findFormError : gCa yX5_findFormError cX5_findFormError 4 (some .int) 0 := ⟨w_tb 1243 (by decide +kernel), w_tb 1 (by decide +kernel), (by decide +kernel), by decide⟩
theorem in_X5_findFormError : Cond.instanceMethod yX5_findFormError ∈ lw_tbl := w_tb 1242 (by decide +kernel)
theorem se_X5_findFormError : Cond.selects yX5_findFormError.cls yX5_findFormError yX5_findFormError ∈ lw_tbl := w_pr 9 9 (by decide +kernel)
theorem ca_X5_fits : gCa yX5_fits cX5_fits 2 (some .boolean) 2 := ⟨w_tb 1276 (by decide +kernel), w_tb 1 (by decide +kernel), (by decide +kernel), by decide⟩
theorem st_X5_fits : Cond.static yX5_fits ∈ lw_tbl := w_tb 1275 (by decide +kernel)
theorem ca_X5_forgetRain : gCa yX5_forgetRain cX5_forgetRain 3 (some .int) 2 := ⟨w_tb 603 (by decide +kernel), w_tb 1 (by decide +kernel), (by decide +kernel), by decide⟩
theorem in_X5_forgetRain : Cond.instanceMethod yX5_forgetRain ∈ lw_tbl := w_tb 601 (by decide +kernel)
theorem se_X5_forgetRain : Cond.selects yX5_forgetRain.cls yX5_forgetRain yX5_forgetRain ∈ lw_tbl := w_tb 602 (by decide +kernel)
theorem ca_X5_galePenalty : gCa yX5_galePenalty cX5_galePenalty 1 (some .int) 0 := ⟨w_tb 211 (by decide +kernel), w_tb 1 (by decide +kernel), (by decide +kernel), by decide⟩
theorem in_X5_galePenalty : Cond.instanceMethod yX5_galePenalty ∈ lw_tbl := w_tb 209 (by decide +kernel)
theorem se_X5_galePenalty : Cond.selects yX5_galePenalty.cls yX5_galePenalty yX5_galePenalty ∈ lw_tbl := w_tb 210 (by decide +kernel)
theorem ca_X5_hasExam : gCa yX5_hasExam cX5_hasExam 4 (some .boolean) 2 := ⟨w_tb 827 (by decide +kernel), w_tb 1 (by decide +kernel), (by decide +kernel), by decide⟩
theorem in_X5_hasExam : Cond.instanceMethod yX5_hasExam ∈ lw_tbl := w_tb 825 (by decide +kernel)
theorem se_X5_hasExam : Cond.selects yX5_hasExam.cls yX5_hasExam yX5_hasExam ∈ lw_tbl := w_tb 826 (by decide +kernel)
theorem ca_X5_isBetween : gCa yX5_isBetween cX5_isBetween 3 (some .boolean) 3 := ⟨w_tb 378 (by decide +kernel), w_tb 1 (by decide +kernel), (by decide +kernel), by decide⟩
theorem st_X5_isBetween : Cond.static yX5_isBetween ∈ lw_tbl := w_tb 377 (by decide +kernel)
theorem ca_X5_isConsistent : gCa yX5_isConsistent cX5_isConsistent 1 (some .boolean) 0 := ⟨w_tb 310 (by decide +kernel), w_tb 1 (by decide +kernel), (by decide +kernel), by decide⟩
theorem in_X5_isConsistent : Cond.instanceMethod yX5_isConsistent ∈ lw_tbl := w_tb 308 (by decide +kernel)
theorem se_X5_isConsistent : Cond.selects yX5_isConsistent.cls yX5_isConsistent yX5_isConsistent ∈ lw_tbl := w_tb 309 (by decide +kernel)
theorem ca_X5_isDigit : gCa yX5_isDigit cX5_isDigit 1 (some .boolean) 1 := ⟨w_tb 1279 (by decide +kernel), w_tb 1 (by decide +kernel), (by decide +kernel), by decide⟩
theorem st_X5_isDigit : Cond.static yX5_isDigit ∈ lw_tbl := w_tb 1278 (by decide +kernel)
theorem ca_X5_isGraduate : gCa yX5_isGraduate cX5_isGraduate 2 (some .boolean) 1 := ⟨w_tb 839 (by decide +kernel), w_tb 1 (by decide +kernel), (by decide +kernel), by decide⟩
theorem in_X5_isGraduate : Cond.instanceMethod yX5_isGraduate ∈ lw_tbl := w_tb 837 (by decide +kernel)
theorem se_X5_isGraduate : Cond.selects yX5_isGraduate.cls yX5_isGraduate yX5_isGraduate ∈ lw_tbl := w_tb 838 (by decide +kernel)
theorem ca_X5_isLevel : gCa yX5_isLevel cX5_isLevel 1 (some .boolean) 1 := ⟨w_tb 387 (by decide +kernel), w_tb 1 (by decide +kernel), (by decide +kernel), by decide⟩
theorem st_X5_isLevel : Cond.static yX5_isLevel ∈ lw_tbl := w_tb 386 (by decide +kernel)
theorem ca_X5_isOpenCase : gCa yX5_isOpenCase cX5_isOpenCase 1 (some .boolean) 1 := ⟨w_tb 690 (by decide +kernel), w_tb 1 (by decide +kernel), (by decide +kernel), by decide⟩
theorem st_X5_isOpenCase : Cond.static yX5_isOpenCase ∈ lw_tbl := w_tb 689 (by decide +kernel)
theorem ca_X5_keepForUndo : gCa yX5_keepForUndo cX5_keepForUndo 1 none 0 := ⟨w_tb 435 (by decide +kernel), w_tb 1 (by decide +kernel), (by decide +kernel), by decide⟩
theorem in_X5_keepForUndo : Cond.instanceMethod yX5_keepForUndo ∈ lw_tbl := w_tb 434 (by decide +kernel)
theorem se_X5_keepForUndo : Cond.selects yX5_keepForUndo.cls yX5_keepForUndo yX5_keepForUndo ∈ lw_tbl := w_pr 4 9 (by decide +kernel)
theorem ca_X5_knownSituations : gCa yX5_knownSituations cX5_knownSituations 2 (some .int) 1 := ⟨w_tb 782 (by decide +kernel), w_tb 1 (by decide +kernel), (by decide +kernel), by decide⟩
theorem in_X5_knownSituations : Cond.instanceMethod yX5_knownSituations ∈ lw_tbl := w_tb 780 (by decide +kernel)
theorem se_X5_knownSituations : Cond.selects yX5_knownSituations.cls yX5_knownSituations yX5_knownSituations ∈ lw_tbl := w_tb 781 (by decide +kernel)
theorem ca_X5_longestMatch : gCa yX5_longestMatch cX5_longestMatch 7 (some .int) 1 := ⟨w_tb 1283 (by decide +kernel), w_tb 1 (by decide +kernel), (by decide +kernel), by decide⟩
theorem in_X5_longestMatch : Cond.instanceMethod yX5_longestMatch ∈ lw_tbl := w_tb 1282 (by decide +kernel)
theorem se_X5_longestMatch : Cond.selects yX5_longestMatch.cls yX5_longestMatch yX5_longestMatch ∈ lw_tbl := w_pr 13 9 (by decide +kernel)
theorem ca_X5_matchedLength : gCa yX5_matchedLength cX5_matchedLength 4 (some .int) 2 := ⟨w_tb 1257 (by decide +kernel), w_tb 1 (by decide +kernel), (by decide +kernel), by decide⟩
theorem in_X5_matchedLength : Cond.instanceMethod yX5_matchedLength ∈ lw_tbl := w_tb 1256 (by decide +kernel)
theorem se_X5_matchedLength : Cond.selects yX5_matchedLength.cls yX5_matchedLength yX5_matchedLength ∈ lw_tbl := w_pr 12 9 (by decide +kernel)
theorem ca_X5_meanReward : gCa yX5_meanReward cX5_meanReward 8 (some .double) 4 := ⟨w_tb 767 (by decide +kernel), w_tb 1 (by decide +kernel), (by decide +kernel), by decide⟩
theorem in_X5_meanReward : Cond.instanceMethod yX5_meanReward ∈ lw_tbl := w_tb 765 (by decide +kernel)
theorem se_X5_meanReward : Cond.selects yX5_meanReward.cls yX5_meanReward yX5_meanReward ∈ lw_tbl := w_tb 766 (by decide +kernel)
theorem ca_X5_meanSchoolReward : gCa yX5_meanSchoolReward cX5_meanSchoolReward 2 (some .double) 0 := ⟨w_tb 900 (by decide +kernel), w_tb 1 (by decide +kernel), (by decide +kernel), by decide⟩
theorem in_X5_meanSchoolReward : Cond.instanceMethod yX5_meanSchoolReward ∈ lw_tbl := w_tb 898 (by decide +kernel)
theorem se_X5_meanSchoolReward : Cond.selects yX5_meanSchoolReward.cls yX5_meanSchoolReward yX5_meanSchoolReward ∈ lw_tbl := w_tb 899 (by decide +kernel)
theorem ca_X5_memory : gCa yX5_memory cX5_memory 2 (some .int) 1 := ⟨w_tb 630 (by decide +kernel), w_tb 1 (by decide +kernel), (by decide +kernel), by decide⟩
theorem in_X5_memory : Cond.instanceMethod yX5_memory ∈ lw_tbl := w_tb 628 (by decide +kernel)
theorem se_X5_memory : Cond.selects yX5_memory.cls yX5_memory yX5_memory ∈ lw_tbl := w_tb 629 (by decide +kernel)
theorem ca_X5_moveOldestToEnd : gCa yX5_moveOldestToEnd cX5_moveOldestToEnd 3 none 0 := ⟨w_tb 539 (by decide +kernel), w_tb 1 (by decide +kernel), (by decide +kernel), by decide⟩
theorem in_X5_moveOldestToEnd : Cond.instanceMethod yX5_moveOldestToEnd ∈ lw_tbl := w_tb 538 (by decide +kernel)
theorem se_X5_moveOldestToEnd : Cond.selects yX5_moveOldestToEnd.cls yX5_moveOldestToEnd yX5_moveOldestToEnd ∈ lw_tbl := w_pr 7 9 (by decide +kernel)
theorem ca_X5_openShare : gCa yX5_openShare cX5_openShare 2 (some .float) 0 := ⟨w_tb 914 (by decide +kernel), w_tb 1 (by decide +kernel), (by decide +kernel), by decide⟩
theorem in_X5_openShare : Cond.instanceMethod yX5_openShare ∈ lw_tbl := w_tb 912 (by decide +kernel)
theorem se_X5_openShare : Cond.selects yX5_openShare.cls yX5_openShare yX5_openShare ∈ lw_tbl := w_tb 913 (by decide +kernel)
theorem ca_X5_outputAt : gCa yX5_outputAt cX5_outputAt 2 (some .char) 1 := ⟨w_tb 1212 (by decide +kernel), w_tb 1 (by decide +kernel), (by decide +kernel), by decide⟩
theorem in_X5_outputAt : Cond.instanceMethod yX5_outputAt ∈ lw_tbl := w_tb 1210 (by decide +kernel)
theorem se_X5_outputAt : Cond.selects yX5_outputAt.cls yX5_outputAt yX5_outputAt ∈ lw_tbl := w_tb 1211 (by decide +kernel)
theorem ca_X5_perform : gCa yX5_perform cX5_perform 6 (some .int) 5 := ⟨w_tb 439 (by decide +kernel), w_tb 1 (by decide +kernel), (by decide +kernel), by decide⟩
theorem in_X5_perform : Cond.instanceMethod yX5_perform ∈ lw_tbl := w_tb 438 (by decide +kernel)
theorem se_X5_perform : Cond.selects yX5_perform.cls yX5_perform yX5_perform ∈ lw_tbl := w_pr 5 9 (by decide +kernel)
theorem ca_X5_period : gCa yX5_period cX5_period 2 (some .int) 1 := ⟨w_tb 637 (by decide +kernel), w_tb 1 (by decide +kernel), (by decide +kernel), by decide⟩
theorem in_X5_period : Cond.instanceMethod yX5_period ∈ lw_tbl := w_tb 635 (by decide +kernel)
theorem se_X5_period : Cond.selects yX5_period.cls yX5_period yX5_period ∈ lw_tbl := w_tb 636 (by decide +kernel)
theorem ca_X5_putAt : gCa yX5_putAt cX5_putAt 3 none 3 := ⟨w_tb 480 (by decide +kernel), w_tb 1 (by decide +kernel), (by decide +kernel), by decide⟩
theorem st_X5_putAt : Cond.static yX5_putAt ∈ lw_tbl := w_tb 479 (by decide +kernel)
theorem ca_X5_rainOfCase : gCa yX5_rainOfCase cX5_rainOfCase 1 (some .int) 1 := ⟨w_tb 508 (by decide +kernel), w_tb 1 (by decide +kernel), (by decide +kernel), by decide⟩
theorem st_X5_rainOfCase : Cond.static yX5_rainOfCase ∈ lw_tbl := w_tb 507 (by decide +kernel)
theorem ca_X5_rainOfSituation : gCa yX5_rainOfSituation cX5_rainOfSituation 1 (some .int) 1 := ⟨w_tb 511 (by decide +kernel), w_tb 1 (by decide +kernel), (by decide +kernel), by decide⟩
theorem st_X5_rainOfSituation : Cond.static yX5_rainOfSituation ∈ lw_tbl := w_tb 510 (by decide +kernel)
theorem ca_X5_raise : gCa yX5_raise cX5_raise 1 none 1 := ⟨w_tb 396 (by decide +kernel), w_tb 1 (by decide +kernel), (by decide +kernel), by decide⟩
theorem st_X5_raise : Cond.static yX5_raise ∈ lw_tbl := w_tb 395 (by decide +kernel)
theorem ca_X5_rankedSituation : gCa yX5_rankedSituation cX5_rankedSituation 4 (some .int) 2 := ⟨w_tb 801 (by decide +kernel), w_tb 1 (by decide +kernel), (by decide +kernel), by decide⟩
theorem in_X5_rankedSituation : Cond.instanceMethod yX5_rankedSituation ∈ lw_tbl := w_tb 800 (by decide +kernel)
theorem se_X5_rankedSituation : Cond.selects yX5_rankedSituation.cls yX5_rankedSituation yX5_rankedSituation ∈ lw_tbl := w_pr 8 9 (by decide +kernel)
theorem ca_X5_refusalFor : gCa yX5_refusalFor cX5_refusalFor 3 (some ( .object "UmbrellaSchool$Refusal")) 2 := ⟨w_tb 391 (by decide +kernel), w_tb 1 (by decide +kernel), (by decide +kernel), by decide⟩
theorem in_X5_refusalFor : Cond.instanceMethod yX5_refusalFor ∈ lw_tbl := w_tb 390 (by decide +kernel)
theorem se_X5_refusalFor : Cond.selects yX5_refusalFor.cls yX5_refusalFor yX5_refusalFor ∈ lw_tbl := w_pr 3 9 (by decide +kernel)
theorem ca_X5_refusalOf : gCa yX5_refusalOf cX5_refusalOf 6 (some ( .object "UmbrellaSchool$Refusal")) 5 := ⟨w_tb 367 (by decide +kernel), w_tb 1 (by decide +kernel), (by decide +kernel), by decide⟩
theorem in_X5_refusalOf : Cond.instanceMethod yX5_refusalOf ∈ lw_tbl := w_tb 366 (by decide +kernel)
theorem se_X5_refusalOf : Cond.selects yX5_refusalOf.cls yX5_refusalOf yX5_refusalOf ∈ lw_tbl := w_pr 2 9 (by decide +kernel)
theorem ca_X5_rememberedTrials : gCa yX5_rememberedTrials cX5_rememberedTrials 2 (some .int) 1 := ⟨w_tb 651 (by decide +kernel), w_tb 1 (by decide +kernel), (by decide +kernel), by decide⟩
theorem in_X5_rememberedTrials : Cond.instanceMethod yX5_rememberedTrials ∈ lw_tbl := w_tb 649 (by decide +kernel)
theorem se_X5_rememberedTrials : Cond.selects yX5_rememberedTrials.cls yX5_rememberedTrials yX5_rememberedTrials ∈ lw_tbl := w_tb 650 (by decide +kernel)
theorem ca_X5_renderHabits : gCa yX5_renderHabits cX5_renderHabits 4 (some .int) 1 := ⟨w_tb 921 (by decide +kernel), w_tb 1 (by decide +kernel), (by decide +kernel), by decide⟩
theorem in_X5_renderHabits : Cond.instanceMethod yX5_renderHabits ∈ lw_tbl := w_tb 919 (by decide +kernel)
theorem se_X5_renderHabits : Cond.selects yX5_renderHabits.cls yX5_renderHabits yX5_renderHabits ∈ lw_tbl := w_tb 920 (by decide +kernel)
theorem ca_X5_renderUmbrella : gCa yX5_renderUmbrella cX5_renderUmbrella 4 (some .int) 1 := ⟨w_tb 1204 (by decide +kernel), w_tb 1 (by decide +kernel), (by decide +kernel), by decide⟩
theorem in_X5_renderUmbrella : Cond.instanceMethod yX5_renderUmbrella ∈ lw_tbl := w_tb 1202 (by decide +kernel)
theorem se_X5_renderUmbrella : Cond.selects yX5_renderUmbrella.cls yX5_renderUmbrella yX5_renderUmbrella ∈ lw_tbl := w_tb 1203 (by decide +kernel)
theorem ca_X5_requireSituation : gCa yX5_requireSituation cX5_requireSituation 2 none 2 := ⟨w_tb 707 (by decide +kernel), w_tb 1 (by decide +kernel), (by decide +kernel), by decide⟩
theorem st_X5_requireSituation : Cond.static yX5_requireSituation ∈ lw_tbl := w_tb 706 (by decide +kernel)
theorem ca_X5_restore : gCa yX5_restore cX5_restore 1 (some .int) 0 := ⟨w_tb 1333 (by decide +kernel), w_tb 1 (by decide +kernel), (by decide +kernel), by decide⟩
theorem in_X5_restore : Cond.instanceMethod yX5_restore ∈ lw_tbl := w_tb 1331 (by decide +kernel)
theorem se_X5_restore : Cond.selects yX5_restore.cls yX5_restore yX5_restore ∈ lw_tbl := w_tb 1332 (by decide +kernel)
theorem ca_X5_reward : gCa yX5_reward cX5_reward 4 (some .int) 3 := ⟨w_tb 704 (by decide +kernel), w_tb 1 (by decide +kernel), (by decide +kernel), by decide⟩
theorem in_X5_reward : Cond.instanceMethod yX5_reward ∈ lw_tbl := w_tb 702 (by decide +kernel)
theorem se_X5_reward : Cond.selects yX5_reward.cls yX5_reward yX5_reward ∈ lw_tbl := w_tb 703 (by decide +kernel)
theorem ca_X5_rewardSum : gCa yX5_rewardSum cX5_rewardSum 6 (some .int) 4 := ⟨w_tb 752 (by decide +kernel), w_tb 1 (by decide +kernel), (by decide +kernel), by decide⟩
theorem in_X5_rewardSum : Cond.instanceMethod yX5_rewardSum ∈ lw_tbl := w_tb 750 (by decide +kernel)
theorem se_X5_rewardSum : Cond.selects yX5_rewardSum.cls yX5_rewardSum yX5_rewardSum ∈ lw_tbl := w_tb 751 (by decide +kernel)
theorem ca_X5_rewardSumByTrials : gCa yX5_rewardSumByTrials cX5_rewardSumByTrials 6 (some .int) 4 := ⟨w_tb 759 (by decide +kernel), w_tb 1 (by decide +kernel), (by decide +kernel), by decide⟩
theorem in_X5_rewardSumByTrials : Cond.instanceMethod yX5_rewardSumByTrials ∈ lw_tbl := w_tb 757 (by decide +kernel)
theorem se_X5_rewardSumByTrials : Cond.selects yX5_rewardSumByTrials.cls yX5_rewardSumByTrials yX5_rewardSumByTrials ∈ lw_tbl := w_tb 758 (by decide +kernel)
theorem ca_X5_rightHabits : gCa yX5_rightHabits cX5_rightHabits 5 (some .int) 1 := ⟨w_tb 774 (by decide +kernel), w_tb 1 (by decide +kernel), (by decide +kernel), by decide⟩
theorem in_X5_rightHabits : Cond.instanceMethod yX5_rightHabits ∈ lw_tbl := w_tb 772 (by decide +kernel)
theorem se_X5_rightHabits : Cond.selects yX5_rightHabits.cls yX5_rightHabits yX5_rightHabits ∈ lw_tbl := w_tb 773 (by decide +kernel)
theorem ca_X5_runCommand : gCa yX5_runCommand cX5_runCommand 8 (some .boolean) 1 := ⟨w_tb 1293 (by decide +kernel), w_tb 1 (by decide +kernel), (by decide +kernel), by decide⟩
theorem in_X5_runCommand : Cond.instanceMethod yX5_runCommand ∈ lw_tbl := w_tb 1292 (by decide +kernel)
theorem se_X5_runCommand : Cond.selects yX5_runCommand.cls yX5_runCommand yX5_runCommand ∈ lw_tbl := w_pr 15 9 (by decide +kernel)
theorem ca_X5_runScript : gCa yX5_runScript cX5_runScript 5 (some .int) 0 := ⟨w_tb 1239 (by decide +kernel), w_tb 1 (by decide +kernel), (by decide +kernel), by decide⟩
theorem in_X5_runScript : Cond.instanceMethod yX5_runScript ∈ lw_tbl := w_tb 1237 (by decide +kernel)
theorem se_X5_runScript : Cond.selects yX5_runScript.cls yX5_runScript yX5_runScript ∈ lw_tbl := w_tb 1238 (by decide +kernel)
theorem ca_X5_save : gCa yX5_save cX5_save 1 (some .int) 0 := ⟨w_tb 331 (by decide +kernel), w_tb 1 (by decide +kernel), (by decide +kernel), by decide⟩
theorem in_X5_save : Cond.instanceMethod yX5_save ∈ lw_tbl := w_tb 329 (by decide +kernel)
theorem se_X5_save : Cond.selects yX5_save.cls yX5_save yX5_save ∈ lw_tbl := w_tb 330 (by decide +kernel)
theorem ca_X5_schoolReward : gCa yX5_schoolReward cX5_schoolReward 1 (some .int) 0 := ⟨w_tb 219 (by decide +kernel), w_tb 1 (by decide +kernel), (by decide +kernel), by decide⟩
theorem in_X5_schoolReward : Cond.instanceMethod yX5_schoolReward ∈ lw_tbl := w_tb 217 (by decide +kernel)
theorem se_X5_schoolReward : Cond.selects yX5_schoolReward.cls yX5_schoolReward yX5_schoolReward ∈ lw_tbl := w_tb 218 (by decide +kernel)
theorem ca_X5_schoolRewardByActions : gCa yX5_schoolRewardByActions cX5_schoolRewardByActions 1 (some .int) 0 := ⟨w_tb 302 (by decide +kernel), w_tb 1 (by decide +kernel), (by decide +kernel), by decide⟩
theorem in_X5_schoolRewardByActions : Cond.instanceMethod yX5_schoolRewardByActions ∈ lw_tbl := w_tb 300 (by decide +kernel)
theorem se_X5_schoolRewardByActions : Cond.selects yX5_schoolRewardByActions.cls yX5_schoolRewardByActions yX5_schoolRewardByActions ∈ lw_tbl := w_tb 301 (by decide +kernel)
theorem ca_X5_setGalePenalty : gCa yX5_setGalePenalty cX5_setGalePenalty 2 (some .int) 1 := ⟨w_tb 594 (by decide +kernel), w_tb 1 (by decide +kernel), (by decide +kernel), by decide⟩
theorem in_X5_setGalePenalty : Cond.instanceMethod yX5_setGalePenalty ∈ lw_tbl := w_tb 592 (by decide +kernel)
theorem se_X5_setGalePenalty : Cond.selects yX5_setGalePenalty.cls yX5_setGalePenalty yX5_setGalePenalty ∈ lw_tbl := w_tb 593 (by decide +kernel)
theorem ca_X5_setPeriod : gCa yX5_setPeriod cX5_setPeriod 3 (some .int) 2 := ⟨w_tb 576 (by decide +kernel), w_tb 1 (by decide +kernel), (by decide +kernel), by decide⟩
theorem in_X5_setPeriod : Cond.instanceMethod yX5_setPeriod ∈ lw_tbl := w_tb 574 (by decide +kernel)
theorem se_X5_setPeriod : Cond.selects yX5_setPeriod.cls yX5_setPeriod yX5_setPeriod ∈ lw_tbl := w_tb 575 (by decide +kernel)
theorem ca_X5_setWetPenalty : gCa yX5_setWetPenalty cX5_setWetPenalty 2 (some .int) 1 := ⟨w_tb 585 (by decide +kernel), w_tb 1 (by decide +kernel), (by decide +kernel), by decide⟩
theorem in_X5_setWetPenalty : Cond.instanceMethod yX5_setWetPenalty ∈ lw_tbl := w_tb 583 (by decide +kernel)
theorem se_X5_setWetPenalty : Cond.selects yX5_setWetPenalty.cls yX5_setWetPenalty yX5_setWetPenalty ∈ lw_tbl := w_tb 584 (by decide +kernel)
theorem ca_X5_shouldOpen : gCa yX5_shouldOpen cX5_shouldOpen 3 (some .boolean) 2 := ⟨w_tb 716 (by decide +kernel), w_tb 1 (by decide +kernel), (by decide +kernel), by decide⟩
theorem in_X5_shouldOpen : Cond.instanceMethod yX5_shouldOpen ∈ lw_tbl := w_tb 714 (by decide +kernel)
theorem se_X5_shouldOpen : Cond.selects yX5_shouldOpen.cls yX5_shouldOpen yX5_shouldOpen ∈ lw_tbl := w_tb 715 (by decide +kernel)
theorem ca_X5_situationOf : gCa yX5_situationOf cX5_situationOf 2 (some .int) 2 := ⟨w_tb 451 (by decide +kernel), w_tb 1 (by decide +kernel), (by decide +kernel), by decide⟩
theorem st_X5_situationOf : Cond.static yX5_situationOf ∈ lw_tbl := w_tb 450 (by decide +kernel)
theorem ca_X5_situationRain : gCa yX5_situationRain cX5_situationRain 3 (some .int) 2 := ⟨w_tb 797 (by decide +kernel), w_tb 1 (by decide +kernel), (by decide +kernel), by decide⟩
theorem in_X5_situationRain : Cond.instanceMethod yX5_situationRain ∈ lw_tbl := w_tb 795 (by decide +kernel)
theorem se_X5_situationRain : Cond.selects yX5_situationRain.cls yX5_situationRain yX5_situationRain ∈ lw_tbl := w_tb 796 (by decide +kernel)
theorem ca_X5_situationWind : gCa yX5_situationWind cX5_situationWind 3 (some .int) 2 := ⟨w_tb 817 (by decide +kernel), w_tb 1 (by decide +kernel), (by decide +kernel), by decide⟩
theorem in_X5_situationWind : Cond.instanceMethod yX5_situationWind ∈ lw_tbl := w_tb 815 (by decide +kernel)
theorem se_X5_situationWind : Cond.selects yX5_situationWind.cls yX5_situationWind yX5_situationWind ∈ lw_tbl := w_tb 816 (by decide +kernel)
theorem ca_X5_stars : gCa yX5_stars cX5_stars 2 (some .int) 1 := ⟨w_tb 860 (by decide +kernel), w_tb 1 (by decide +kernel), (by decide +kernel), by decide⟩
theorem in_X5_stars : Cond.instanceMethod yX5_stars ∈ lw_tbl := w_tb 858 (by decide +kernel)
theorem se_X5_stars : Cond.selects yX5_stars.cls yX5_stars yX5_stars ∈ lw_tbl := w_tb 859 (by decide +kernel)
theorem ca_X5_takeBack : gCa yX5_takeBack cX5_takeBack 1 none 0 := ⟨w_tb 1301 (by decide +kernel), w_tb 1 (by decide +kernel), (by decide +kernel), by decide⟩
theorem in_X5_takeBack : Cond.instanceMethod yX5_takeBack ∈ lw_tbl := w_tb 1300 (by decide +kernel)
theorem se_X5_takeBack : Cond.selects yX5_takeBack.cls yX5_takeBack yX5_takeBack ∈ lw_tbl := w_pr 17 9 (by decide +kernel)
theorem ca_X5_term : gCa yX5_term cX5_term 1 (some .int) 0 := ⟨w_tb 215 (by decide +kernel), w_tb 1 (by decide +kernel), (by decide +kernel), by decide⟩
theorem in_X5_term : Cond.instanceMethod yX5_term ∈ lw_tbl := w_tb 213 (by decide +kernel)
theorem se_X5_term : Cond.selects yX5_term.cls yX5_term yX5_term ∈ lw_tbl := w_tb 214 (by decide +kernel)
theorem ca_X5_termReward : gCa yX5_termReward cX5_termReward 2 (some .int) 1 := ⟨w_tb 853 (by decide +kernel), w_tb 1 (by decide +kernel), (by decide +kernel), by decide⟩
theorem in_X5_termReward : Cond.instanceMethod yX5_termReward ∈ lw_tbl := w_tb 851 (by decide +kernel)
theorem se_X5_termReward : Cond.selects yX5_termReward.cls yX5_termReward yX5_termReward ∈ lw_tbl := w_tb 852 (by decide +kernel)
theorem ca_X5_timesTried : gCa yX5_timesTried cX5_timesTried 6 (some .int) 4 := ⟨w_tb 741 (by decide +kernel), w_tb 1 (by decide +kernel), (by decide +kernel), by decide⟩
theorem in_X5_timesTried : Cond.instanceMethod yX5_timesTried ∈ lw_tbl := w_tb 739 (by decide +kernel)
theorem se_X5_timesTried : Cond.selects yX5_timesTried.cls yX5_timesTried yX5_timesTried ∈ lw_tbl := w_tb 740 (by decide +kernel)
theorem ca_X5_totalReward : gCa yX5_totalReward cX5_totalReward 2 (some .int) 1 := ⟨w_tb 846 (by decide +kernel), w_tb 1 (by decide +kernel), (by decide +kernel), by decide⟩
theorem in_X5_totalReward : Cond.instanceMethod yX5_totalReward ∈ lw_tbl := w_tb 844 (by decide +kernel)
theorem se_X5_totalReward : Cond.selects yX5_totalReward.cls yX5_totalReward yX5_totalReward ∈ lw_tbl := w_tb 845 (by decide +kernel)
theorem ca_X5_train : gCa yX5_train cX5_train 5 (some .int) 4 := ⟨w_tb 567 (by decide +kernel), w_tb 1 (by decide +kernel), (by decide +kernel), by decide⟩
theorem in_X5_train : Cond.instanceMethod yX5_train ∈ lw_tbl := w_tb 565 (by decide +kernel)
theorem se_X5_train : Cond.selects yX5_train.cls yX5_train yX5_train ∈ lw_tbl := w_tb 566 (by decide +kernel)
theorem ca_X5_trialIndex : gCa yX5_trialIndex cX5_trialIndex 2 (some .int) 2 := ⟨w_tb 662 (by decide +kernel), w_tb 1 (by decide +kernel), (by decide +kernel), by decide⟩
theorem st_X5_trialIndex : Cond.static yX5_trialIndex ∈ lw_tbl := w_tb 661 (by decide +kernel)
theorem ca_X5_trialOpened : gCa yX5_trialOpened cX5_trialOpened 4 (some .boolean) 2 := ⟨w_tb 687 (by decide +kernel), w_tb 1 (by decide +kernel), (by decide +kernel), by decide⟩
theorem in_X5_trialOpened : Cond.instanceMethod yX5_trialOpened ∈ lw_tbl := w_tb 685 (by decide +kernel)
theorem se_X5_trialOpened : Cond.selects yX5_trialOpened.cls yX5_trialOpened yX5_trialOpened ∈ lw_tbl := w_tb 686 (by decide +kernel)
theorem ca_X5_trialRain : gCa yX5_trialRain cX5_trialRain 4 (some .int) 2 := ⟨w_tb 659 (by decide +kernel), w_tb 1 (by decide +kernel), (by decide +kernel), by decide⟩
theorem in_X5_trialRain : Cond.instanceMethod yX5_trialRain ∈ lw_tbl := w_tb 657 (by decide +kernel)
theorem se_X5_trialRain : Cond.selects yX5_trialRain.cls yX5_trialRain yX5_trialRain ∈ lw_tbl := w_tb 658 (by decide +kernel)
theorem ca_X5_trialReward : gCa yX5_trialReward cX5_trialReward 4 (some .int) 2 := ⟨w_tb 697 (by decide +kernel), w_tb 1 (by decide +kernel), (by decide +kernel), by decide⟩
theorem in_X5_trialReward : Cond.instanceMethod yX5_trialReward ∈ lw_tbl := w_tb 695 (by decide +kernel)
theorem se_X5_trialReward : Cond.selects yX5_trialReward.cls yX5_trialReward yX5_trialReward ∈ lw_tbl := w_tb 696 (by decide +kernel)
theorem ca_X5_trials : gCa yX5_trials cX5_trials 2 (some .int) 1 := ⟨w_tb 644 (by decide +kernel), w_tb 1 (by decide +kernel), (by decide +kernel), by decide⟩
theorem in_X5_trials : Cond.instanceMethod yX5_trials ∈ lw_tbl := w_tb 642 (by decide +kernel)
theorem se_X5_trials : Cond.selects yX5_trials.cls yX5_trials yX5_trials ∈ lw_tbl := w_tb 643 (by decide +kernel)
theorem ca_X5_type : gCa yX5_type cX5_type 2 (some .int) 1 := ⟨w_tb 1230 (by decide +kernel), w_tb 1 (by decide +kernel), (by decide +kernel), by decide⟩
theorem in_X5_type : Cond.instanceMethod yX5_type ∈ lw_tbl := w_tb 1228 (by decide +kernel)
theorem se_X5_type : Cond.selects yX5_type.cls yX5_type yX5_type ∈ lw_tbl := w_tb 1229 (by decide +kernel)
theorem ca_X5_umbrellaByStars : gCa yX5_umbrellaByStars cX5_umbrellaByStars 3 (some .int) 1 := ⟨w_tb 867 (by decide +kernel), w_tb 1 (by decide +kernel), (by decide +kernel), by decide⟩
theorem in_X5_umbrellaByStars : Cond.instanceMethod yX5_umbrellaByStars ∈ lw_tbl := w_tb 865 (by decide +kernel)
theorem se_X5_umbrellaByStars : Cond.selects yX5_umbrellaByStars.cls yX5_umbrellaByStars yX5_umbrellaByStars ∈ lw_tbl := w_tb 866 (by decide +kernel)
theorem ca_X5_umbrellaCount : gCa yX5_umbrellaCount cX5_umbrellaCount 1 (some .int) 0 := ⟨w_tb 203 (by decide +kernel), w_tb 1 (by decide +kernel), (by decide +kernel), by decide⟩
theorem in_X5_umbrellaCount : Cond.instanceMethod yX5_umbrellaCount ∈ lw_tbl := w_tb 201 (by decide +kernel)
theorem se_X5_umbrellaCount : Cond.selects yX5_umbrellaCount.cls yX5_umbrellaCount yX5_umbrellaCount ∈ lw_tbl := w_tb 202 (by decide +kernel)
theorem ca_X5_undo : gCa yX5_undo cX5_undo 1 (some .int) 0 := ⟨w_tb 1325 (by decide +kernel), w_tb 1 (by decide +kernel), (by decide +kernel), by decide⟩
theorem in_X5_undo : Cond.instanceMethod yX5_undo ∈ lw_tbl := w_tb 1323 (by decide +kernel)
theorem se_X5_undo : Cond.selects yX5_undo.cls yX5_undo yX5_undo ∈ lw_tbl := w_tb 1324 (by decide +kernel)
theorem ca_X5_valueAt : gCa yX5_valueAt cX5_valueAt 2 (some .int) 2 := ⟨w_tb 321 (by decide +kernel), w_tb 1 (by decide +kernel), (by decide +kernel), by decide⟩
theorem st_X5_valueAt : Cond.static yX5_valueAt ∈ lw_tbl := w_tb 320 (by decide +kernel)
theorem ca_X5_wetPenalty : gCa yX5_wetPenalty cX5_wetPenalty 1 (some .int) 0 := ⟨w_tb 207 (by decide +kernel), w_tb 1 (by decide +kernel), (by decide +kernel), by decide⟩
theorem in_X5_wetPenalty : Cond.instanceMethod yX5_wetPenalty ∈ lw_tbl := w_tb 205 (by decide +kernel)
theorem se_X5_wetPenalty : Cond.selects yX5_wetPenalty.cls yX5_wetPenalty yX5_wetPenalty ∈ lw_tbl := w_tb 206 (by decide +kernel)
theorem ca_X5_windOfSituation : gCa yX5_windOfSituation cX5_windOfSituation 1 (some .int) 1 := ⟨w_tb 820 (by decide +kernel), w_tb 1 (by decide +kernel), (by decide +kernel), by decide⟩
theorem st_X5_windOfSituation : Cond.static yX5_windOfSituation ∈ lw_tbl := w_tb 819 (by decide +kernel)
theorem ca_X5_wouldOpen : gCa yX5_wouldOpen cX5_wouldOpen 5 (some .boolean) 3 := ⟨w_tb 724 (by decide +kernel), w_tb 1 (by decide +kernel), (by decide +kernel), by decide⟩
theorem in_X5_wouldOpen : Cond.instanceMethod yX5_wouldOpen ∈ lw_tbl := w_tb 722 (by decide +kernel)
theorem se_X5_wouldOpen : Cond.selects yX5_wouldOpen.cls yX5_wouldOpen yX5_wouldOpen ∈ lw_tbl := w_tb 723 (by decide +kernel)
theorem ca_X1_init : gCa yX1_init cX1_init 2 none 0 := ⟨w_tb 43 (by decide +kernel), w_tb 2 (by decide +kernel), (by decide +kernel), by decide⟩
theorem in_X1_init : Cond.instanceMethod yX1_init ∈ lw_tbl := w_tb 42 (by decide +kernel)
theorem ca_X1_agrees : gCa yX1_agrees cX1_agrees 4 (some .boolean) 0 := ⟨w_tb 314 (by decide +kernel), w_tb 2 (by decide +kernel), (by decide +kernel), by decide⟩
theorem in_X1_agrees : Cond.instanceMethod yX1_agrees ∈ lw_tbl := w_tb 312 (by decide +kernel)
theorem se_X1_agrees : Cond.selects yX1_agrees.cls yX1_agrees yX1_agrees ∈ lw_tbl := w_tb 313 (by decide +kernel)
theorem ca_X1_changeGale : gCa yX1_changeGale cX1_changeGale 3 (some .int) 1 := ⟨w_tb 501 (by decide +kernel), w_tb 2 (by decide +kernel), (by decide +kernel), by decide⟩
theorem in_X1_changeGale : Cond.instanceMethod yX1_changeGale ∈ lw_tbl := w_tb 499 (by decide +kernel)
theorem se_X1_changeGale : Cond.selects yX1_changeGale.cls yX1_changeGale yX1_changeGale ∈ lw_tbl := w_tb 500 (by decide +kernel)
theorem ca_X1_changeWet : gCa yX1_changeWet cX1_changeWet 3 (some .int) 1 := ⟨w_tb 497 (by decide +kernel), w_tb 2 (by decide +kernel), (by decide +kernel), by decide⟩
theorem in_X1_changeWet : Cond.instanceMethod yX1_changeWet ∈ lw_tbl := w_tb 495 (by decide +kernel)
theorem se_X1_changeWet : Cond.selects yX1_changeWet.cls yX1_changeWet yX1_changeWet ∈ lw_tbl := w_tb 496 (by decide +kernel)
theorem ca_X1_closeTerm : gCa yX1_closeTerm cX1_closeTerm 3 (some .int) 0 := ⟨w_tb 531 (by decide +kernel), w_tb 2 (by decide +kernel), (by decide +kernel), by decide⟩
theorem in_X1_closeTerm : Cond.instanceMethod yX1_closeTerm ∈ lw_tbl := w_tb 529 (by decide +kernel)
theorem se_X1_closeTerm : Cond.selects yX1_closeTerm.cls yX1_closeTerm yX1_closeTerm ∈ lw_tbl := w_tb 530 (by decide +kernel)
theorem ca_X1_copyFrom : gCa yX1_copyFrom cX1_copyFrom 3 none 1 := ⟨w_tb 335 (by decide +kernel), w_tb 2 (by decide +kernel), (by decide +kernel), by decide⟩
theorem in_X1_copyFrom : Cond.instanceMethod yX1_copyFrom ∈ lw_tbl := w_tb 333 (by decide +kernel)
theorem se_X1_copyFrom : Cond.selects yX1_copyFrom.cls yX1_copyFrom yX1_copyFrom ∈ lw_tbl := w_tb 334 (by decide +kernel)
theorem ca_X1_countTrials : gCa yX1_countTrials cX1_countTrials 3 (some .int) 0 := ⟨w_tb 904 (by decide +kernel), w_tb 2 (by decide +kernel), (by decide +kernel), by decide⟩
theorem in_X1_countTrials : Cond.instanceMethod yX1_countTrials ∈ lw_tbl := w_tb 902 (by decide +kernel)
theorem se_X1_countTrials : Cond.selects yX1_countTrials.cls yX1_countTrials yX1_countTrials ∈ lw_tbl := w_tb 903 (by decide +kernel)
theorem ca_X1_enrol : gCa yX1_enrol cX1_enrol 3 (some .int) 1 := ⟨w_tb 443 (by decide +kernel), w_tb 2 (by decide +kernel), (by decide +kernel), by decide⟩
theorem in_X1_enrol : Cond.instanceMethod yX1_enrol ∈ lw_tbl := w_tb 441 (by decide +kernel)
theorem se_X1_enrol : Cond.selects yX1_enrol.cls yX1_enrol yX1_enrol ∈ lw_tbl := w_tb 442 (by decide +kernel)
theorem ca_X1_enterReward : gCa yX1_enterReward cX1_enterReward 3 none 2 := ⟨w_tb 489 (by decide +kernel), w_tb 2 (by decide +kernel), (by decide +kernel), by decide⟩
theorem in_X1_enterReward : Cond.instanceMethod yX1_enterReward ∈ lw_tbl := w_tb 487 (by decide +kernel)
theorem se_X1_enterReward : Cond.selects yX1_enterReward.cls yX1_enterReward yX1_enterReward ∈ lw_tbl := w_tb 488 (by decide +kernel)
theorem ca_X1_holdExam : gCa yX1_holdExam cX1_holdExam 4 (some .int) 2 := ⟨w_tb 515 (by decide +kernel), w_tb 2 (by decide +kernel), (by decide +kernel), by decide⟩
theorem in_X1_holdExam : Cond.instanceMethod yX1_holdExam ∈ lw_tbl := w_tb 513 (by decide +kernel)
theorem se_X1_holdExam : Cond.selects yX1_holdExam.cls yX1_holdExam yX1_holdExam ∈ lw_tbl := w_tb 514 (by decide +kernel)
theorem ca_X1_openingPays : gCa yX1_openingPays cX1_openingPays 3 (some .boolean) 2 := ⟨w_tb 523 (by decide +kernel), w_tb 2 (by decide +kernel), (by decide +kernel), by decide⟩
theorem in_X1_openingPays : Cond.instanceMethod yX1_openingPays ∈ lw_tbl := w_tb 521 (by decide +kernel)
theorem se_X1_openingPays : Cond.selects yX1_openingPays.cls yX1_openingPays yX1_openingPays ∈ lw_tbl := w_tb 522 (by decide +kernel)
theorem ca_X1_rewardByActions : gCa yX1_rewardByActions cX1_rewardByActions 1 (some .int) 0 := ⟨w_tb 306 (by decide +kernel), w_tb 2 (by decide +kernel), (by decide +kernel), by decide⟩
theorem in_X1_rewardByActions : Cond.instanceMethod yX1_rewardByActions ∈ lw_tbl := w_tb 304 (by decide +kernel)
theorem se_X1_rewardByActions : Cond.selects yX1_rewardByActions.cls yX1_rewardByActions yX1_rewardByActions ∈ lw_tbl := w_tb 305 (by decide +kernel)
theorem ca_X1_rewardByUmbrellas : gCa yX1_rewardByUmbrellas cX1_rewardByUmbrellas 3 (some .int) 0 := ⟨w_tb 223 (by decide +kernel), w_tb 2 (by decide +kernel), (by decide +kernel), by decide⟩
theorem in_X1_rewardByUmbrellas : Cond.instanceMethod yX1_rewardByUmbrellas ∈ lw_tbl := w_tb 221 (by decide +kernel)
theorem se_X1_rewardByUmbrellas : Cond.selects yX1_rewardByUmbrellas.cls yX1_rewardByUmbrellas yX1_rewardByUmbrellas ∈ lw_tbl := w_tb 222 (by decide +kernel)
theorem ca_X1_rewardFor : gCa yX1_rewardFor cX1_rewardFor 4 (some .int) 3 := ⟨w_tb 466 (by decide +kernel), w_tb 2 (by decide +kernel), (by decide +kernel), by decide⟩
theorem in_X1_rewardFor : Cond.instanceMethod yX1_rewardFor ∈ lw_tbl := w_tb 464 (by decide +kernel)
theorem se_X1_rewardFor : Cond.selects yX1_rewardFor.cls yX1_rewardFor yX1_rewardFor ∈ lw_tbl := w_tb 465 (by decide +kernel)
theorem ca_X1_rightAnswers : gCa yX1_rightAnswers cX1_rightAnswers 5 (some .int) 2 := ⟨w_tb 519 (by decide +kernel), w_tb 2 (by decide +kernel), (by decide +kernel), by decide⟩
theorem in_X1_rightAnswers : Cond.instanceMethod yX1_rightAnswers ∈ lw_tbl := w_tb 517 (by decide +kernel)
theorem se_X1_rightAnswers : Cond.selects yX1_rightAnswers.cls yX1_rightAnswers yX1_rightAnswers ∈ lw_tbl := w_tb 518 (by decide +kernel)
theorem ca_X1_teach : gCa yX1_teach cX1_teach 10 (some .int) 4 := ⟨w_tb 448 (by decide +kernel), w_tb 2 (by decide +kernel), (by decide +kernel), by decide⟩
theorem in_X1_teach : Cond.instanceMethod yX1_teach ∈ lw_tbl := w_tb 446 (by decide +kernel)
theorem se_X1_teach : Cond.selects yX1_teach.cls yX1_teach yX1_teach ∈ lw_tbl := w_tb 447 (by decide +kernel)
theorem ca_X1_umbrellaAt : gCa yX1_umbrellaAt cX1_umbrellaAt 2 (some ( .object "UmbrellaSchool$Umbrella")) 1 := ⟨w_tb 227 (by decide +kernel), w_tb 2 (by decide +kernel), (by decide +kernel), by decide⟩
theorem in_X1_umbrellaAt : Cond.instanceMethod yX1_umbrellaAt ∈ lw_tbl := w_tb 225 (by decide +kernel)
theorem se_X1_umbrellaAt : Cond.selects yX1_umbrellaAt.cls yX1_umbrellaAt yX1_umbrellaAt ∈ lw_tbl := w_tb 226 (by decide +kernel)
theorem ca_X1_umbrellaAtRank : gCa yX1_umbrellaAtRank cX1_umbrellaAtRank 3 (some .int) 1 := ⟨w_tb 871 (by decide +kernel), w_tb 2 (by decide +kernel), (by decide +kernel), by decide⟩
theorem in_X1_umbrellaAtRank : Cond.instanceMethod yX1_umbrellaAtRank ∈ lw_tbl := w_tb 869 (by decide +kernel)
theorem se_X1_umbrellaAtRank : Cond.selects yX1_umbrellaAtRank.cls yX1_umbrellaAtRank yX1_umbrellaAtRank ∈ lw_tbl := w_tb 870 (by decide +kernel)
theorem ca_X1_umbrellasBefore : gCa yX1_umbrellasBefore cX1_umbrellasBefore 6 (some .int) 1 := ⟨w_tb 875 (by decide +kernel), w_tb 2 (by decide +kernel), (by decide +kernel), by decide⟩
theorem in_X1_umbrellasBefore : Cond.instanceMethod yX1_umbrellasBefore ∈ lw_tbl := w_tb 873 (by decide +kernel)
theorem se_X1_umbrellasBefore : Cond.selects yX1_umbrellasBefore.cls yX1_umbrellasBefore yX1_umbrellasBefore ∈ lw_tbl := w_tb 874 (by decide +kernel)
theorem ca_X4_init : gCa yX4_init cX4_init 1 none 0 := ⟨w_tb 50 (by decide +kernel), w_tb 3 (by decide +kernel), (by decide +kernel), by decide⟩
theorem in_X4_init : Cond.instanceMethod yX4_init ∈ lw_tbl := w_tb 49 (by decide +kernel)
theorem ca_X4_addUpTrials : gCa yX4_addUpTrials cX4_addUpTrials 4 (some .int) 1 := ⟨w_tb 325 (by decide +kernel), w_tb 3 (by decide +kernel), (by decide +kernel), by decide⟩
theorem in_X4_addUpTrials : Cond.instanceMethod yX4_addUpTrials ∈ lw_tbl := w_tb 323 (by decide +kernel)
theorem se_X4_addUpTrials : Cond.selects yX4_addUpTrials.cls yX4_addUpTrials yX4_addUpTrials ∈ lw_tbl := w_tb 324 (by decide +kernel)
theorem ca_X4_changePeriod : gCa yX4_changePeriod cX4_changePeriod 3 (some .int) 1 := ⟨w_tb 493 (by decide +kernel), w_tb 3 (by decide +kernel), (by decide +kernel), by decide⟩
theorem in_X4_changePeriod : Cond.instanceMethod yX4_changePeriod ∈ lw_tbl := w_tb 491 (by decide +kernel)
theorem se_X4_changePeriod : Cond.selects yX4_changePeriod.cls yX4_changePeriod yX4_changePeriod ∈ lw_tbl := w_tb 492 (by decide +kernel)
theorem ca_X4_copyFrom : gCa yX4_copyFrom cX4_copyFrom 2 none 1 := ⟨w_tb 339 (by decide +kernel), w_tb 3 (by decide +kernel), (by decide +kernel), by decide⟩
theorem in_X4_copyFrom : Cond.instanceMethod yX4_copyFrom ∈ lw_tbl := w_tb 337 (by decide +kernel)
theorem se_X4_copyFrom : Cond.selects yX4_copyFrom.cls yX4_copyFrom yX4_copyFrom ∈ lw_tbl := w_tb 338 (by decide +kernel)
theorem ca_X4_countCase : gCa yX4_countCase cX4_countCase 4 none 3 := ⟨w_tb 474 (by decide +kernel), w_tb 3 (by decide +kernel), (by decide +kernel), by decide⟩
theorem in_X4_countCase : Cond.instanceMethod yX4_countCase ∈ lw_tbl := w_tb 472 (by decide +kernel)
theorem se_X4_countCase : Cond.selects yX4_countCase.cls yX4_countCase yX4_countCase ∈ lw_tbl := w_tb 473 (by decide +kernel)
theorem ca_X4_countKnownSituations : gCa yX4_countKnownSituations cX4_countKnownSituations 3 (some .int) 0 := ⟨w_tb 786 (by decide +kernel), w_tb 3 (by decide +kernel), (by decide +kernel), by decide⟩
theorem in_X4_countKnownSituations : Cond.instanceMethod yX4_countKnownSituations ∈ lw_tbl := w_tb 784 (by decide +kernel)
theorem se_X4_countKnownSituations : Cond.selects yX4_countKnownSituations.cls yX4_countKnownSituations yX4_countKnownSituations ∈ lw_tbl := w_tb 785 (by decide +kernel)
theorem ca_X4_enterTrial : gCa yX4_enterTrial cX4_enterTrial 3 none 2 := ⟨w_tb 485 (by decide +kernel), w_tb 3 (by decide +kernel), (by decide +kernel), by decide⟩
theorem in_X4_enterTrial : Cond.instanceMethod yX4_enterTrial ∈ lw_tbl := w_tb 483 (by decide +kernel)
theorem se_X4_enterTrial : Cond.selects yX4_enterTrial.cls yX4_enterTrial yX4_enterTrial ∈ lw_tbl := w_tb 484 (by decide +kernel)
theorem ca_X4_forgetTrialsIn : gCa yX4_forgetTrialsIn cX4_forgetTrialsIn 6 (some .int) 1 := ⟨w_tb 505 (by decide +kernel), w_tb 3 (by decide +kernel), (by decide +kernel), by decide⟩
theorem in_X4_forgetTrialsIn : Cond.instanceMethod yX4_forgetTrialsIn ∈ lw_tbl := w_tb 503 (by decide +kernel)
theorem se_X4_forgetTrialsIn : Cond.selects yX4_forgetTrialsIn.cls yX4_forgetTrialsIn yX4_forgetTrialsIn ∈ lw_tbl := w_tb 504 (by decide +kernel)
theorem ca_X4_hasPassed : gCa yX4_hasPassed cX4_hasPassed 2 (some .boolean) 1 := ⟨w_tb 832 (by decide +kernel), w_tb 3 (by decide +kernel), (by decide +kernel), by decide⟩
theorem in_X4_hasPassed : Cond.instanceMethod yX4_hasPassed ∈ lw_tbl := w_tb 830 (by decide +kernel)
theorem se_X4_hasPassed : Cond.selects yX4_hasPassed.cls yX4_hasPassed yX4_hasPassed ∈ lw_tbl := w_tb 831 (by decide +kernel)
theorem ca_X4_makeRoom : gCa yX4_makeRoom cX4_makeRoom 2 none 0 := ⟨w_tb 470 (by decide +kernel), w_tb 3 (by decide +kernel), (by decide +kernel), by decide⟩
theorem in_X4_makeRoom : Cond.instanceMethod yX4_makeRoom ∈ lw_tbl := w_tb 468 (by decide +kernel)
theorem se_X4_makeRoom : Cond.selects yX4_makeRoom.cls yX4_makeRoom yX4_makeRoom ∈ lw_tbl := w_tb 469 (by decide +kernel)
theorem ca_X4_noteExam : gCa yX4_noteExam cX4_noteExam 4 none 2 := ⟨w_tb 527 (by decide +kernel), w_tb 3 (by decide +kernel), (by decide +kernel), by decide⟩
theorem in_X4_noteExam : Cond.instanceMethod yX4_noteExam ∈ lw_tbl := w_tb 525 (by decide +kernel)
theorem se_X4_noteExam : Cond.selects yX4_noteExam.cls yX4_noteExam yX4_noteExam ∈ lw_tbl := w_tb 526 (by decide +kernel)
theorem ca_X4_opensIn : gCa yX4_opensIn cX4_opensIn 6 (some .boolean) 1 := ⟨w_tb 455 (by decide +kernel), w_tb 3 (by decide +kernel), (by decide +kernel), by decide⟩
theorem in_X4_opensIn : Cond.instanceMethod yX4_opensIn ∈ lw_tbl := w_tb 453 (by decide +kernel)
theorem se_X4_opensIn : Cond.selects yX4_opensIn.cls yX4_opensIn yX4_opensIn ∈ lw_tbl := w_tb 454 (by decide +kernel)
theorem ca_X4_ranksBefore : gCa yX4_ranksBefore cX4_ranksBefore 2 (some .boolean) 1 := ⟨w_tb 879 (by decide +kernel), w_tb 3 (by decide +kernel), (by decide +kernel), by decide⟩
theorem in_X4_ranksBefore : Cond.instanceMethod yX4_ranksBefore ∈ lw_tbl := w_tb 877 (by decide +kernel)
theorem se_X4_ranksBefore : Cond.selects yX4_ranksBefore.cls yX4_ranksBefore yX4_ranksBefore ∈ lw_tbl := w_tb 878 (by decide +kernel)
theorem ca_X4_situationAtRank : gCa yX4_situationAtRank cX4_situationAtRank 3 (some .int) 1 := ⟨w_tb 805 (by decide +kernel), w_tb 3 (by decide +kernel), (by decide +kernel), by decide⟩
theorem in_X4_situationAtRank : Cond.instanceMethod yX4_situationAtRank ∈ lw_tbl := w_tb 803 (by decide +kernel)
theorem se_X4_situationAtRank : Cond.selects yX4_situationAtRank.cls yX4_situationAtRank yX4_situationAtRank ∈ lw_tbl := w_tb 804 (by decide +kernel)
theorem ca_X4_situationsBefore : gCa yX4_situationsBefore cX4_situationsBefore 6 (some .int) 1 := ⟨w_tb 809 (by decide +kernel), w_tb 3 (by decide +kernel), (by decide +kernel), by decide⟩
theorem in_X4_situationsBefore : Cond.instanceMethod yX4_situationsBefore ∈ lw_tbl := w_tb 807 (by decide +kernel)
theorem se_X4_situationsBefore : Cond.selects yX4_situationsBefore.cls yX4_situationsBefore yX4_situationsBefore ∈ lw_tbl := w_tb 808 (by decide +kernel)
theorem ca_X4_sumsAgree : gCa yX4_sumsAgree cX4_sumsAgree 2 (some .boolean) 0 := ⟨w_tb 318 (by decide +kernel), w_tb 3 (by decide +kernel), (by decide +kernel), by decide⟩
theorem in_X4_sumsAgree : Cond.instanceMethod yX4_sumsAgree ∈ lw_tbl := w_tb 316 (by decide +kernel)
theorem se_X4_sumsAgree : Cond.selects yX4_sumsAgree.cls yX4_sumsAgree yX4_sumsAgree ∈ lw_tbl := w_tb 317 (by decide +kernel)
theorem ca_X4_timesIn : gCa yX4_timesIn cX4_timesIn 2 (some .int) 1 := ⟨w_tb 790 (by decide +kernel), w_tb 3 (by decide +kernel), (by decide +kernel), by decide⟩
theorem in_X4_timesIn : Cond.instanceMethod yX4_timesIn ∈ lw_tbl := w_tb 788 (by decide +kernel)
theorem se_X4_timesIn : Cond.selects yX4_timesIn.cls yX4_timesIn yX4_timesIn ∈ lw_tbl := w_tb 789 (by decide +kernel)
theorem ca_X4_willExplore : gCa yX4_willExplore cX4_willExplore 1 (some .boolean) 0 := ⟨w_tb 462 (by decide +kernel), w_tb 3 (by decide +kernel), (by decide +kernel), by decide⟩
theorem in_X4_willExplore : Cond.instanceMethod yX4_willExplore ∈ lw_tbl := w_tb 460 (by decide +kernel)
theorem se_X4_willExplore : Cond.selects yX4_willExplore.cls yX4_willExplore yX4_willExplore ∈ lw_tbl := w_tb 461 (by decide +kernel)
theorem ca_X6_init : gCa yX6_init cX6_init 1 none 0 := ⟨w_tb 1343 (by decide +kernel), w_tb 8 (by decide +kernel), (by decide +kernel), by decide⟩
theorem in_X6_init : Cond.instanceMethod yX6_init ∈ lw_tbl := w_tb 1342 (by decide +kernel)
theorem ca_X6_addUmbrella : gCa yX6_addUmbrella cX6_addUmbrella 3 (some .int) 1 := ⟨w_tb 1404 (by decide +kernel), w_tb 8 (by decide +kernel), (by decide +kernel), by decide⟩
theorem in_X6_addUmbrella : Cond.instanceMethod yX6_addUmbrella ∈ lw_tbl := w_tb 1402 (by decide +kernel)
theorem se_X6_addUmbrella : Cond.selects yX6_addUmbrella.cls yX6_addUmbrella yX6_addUmbrella ∈ lw_tbl := w_tb 1403 (by decide +kernel)
theorem ca_X6_adds : gCa yX6_adds cX6_adds 4 none 3 := ⟨w_tb 1496 (by decide +kernel), w_tb 8 (by decide +kernel), (by decide +kernel), by decide⟩
theorem in_X6_adds : Cond.instanceMethod yX6_adds ∈ lw_tbl := w_tb 1495 (by decide +kernel)
theorem se_X6_adds : Cond.selects yX6_adds.cls yX6_adds yX6_adds ∈ lw_tbl := w_pr 36 18 (by decide +kernel)
theorem ca_X6_addsUmbrella : gCa yX6_addsUmbrella cX6_addsUmbrella 4 (some .int) 1 := ⟨w_tb 1431 (by decide +kernel), w_tb 8 (by decide +kernel), (by decide +kernel), by decide⟩
theorem in_X6_addsUmbrella : Cond.instanceMethod yX6_addsUmbrella ∈ lw_tbl := w_tb 1430 (by decide +kernel)
theorem se_X6_addsUmbrella : Cond.selects yX6_addsUmbrella.cls yX6_addsUmbrella yX6_addsUmbrella ∈ lw_tbl := w_pr 23 18 (by decide +kernel)
theorem ca_X6_asks : gCa yX6_asks cX6_asks 2 (some .int) 1 := ⟨w_tb 1582 (by decide +kernel), w_tb 8 (by decide +kernel), (by decide +kernel), by decide⟩
theorem in_X6_asks : Cond.instanceMethod yX6_asks ∈ lw_tbl := w_tb 1581 (by decide +kernel)
theorem se_X6_asks : Cond.selects yX6_asks.cls yX6_asks yX6_asks ∈ lw_tbl := w_pr 49 18 (by decide +kernel)
theorem ca_X6_asksUmbrella : gCa yX6_asksUmbrella cX6_asksUmbrella 3 (some .int) 2 := ⟨w_tb 1590 (by decide +kernel), w_tb 8 (by decide +kernel), (by decide +kernel), by decide⟩
theorem in_X6_asksUmbrella : Cond.instanceMethod yX6_asksUmbrella ∈ lw_tbl := w_tb 1589 (by decide +kernel)
theorem se_X6_asksUmbrella : Cond.selects yX6_asksUmbrella.cls yX6_asksUmbrella yX6_asksUmbrella ∈ lw_tbl := w_pr 50 18 (by decide +kernel)
theorem ca_X6_copies : gCa yX6_copies cX6_copies 2 none 0 := ⟨w_tb 1423 (by decide +kernel), w_tb 8 (by decide +kernel), (by decide +kernel), by decide⟩
theorem in_X6_copies : Cond.instanceMethod yX6_copies ∈ lw_tbl := w_tb 1422 (by decide +kernel)
theorem se_X6_copies : Cond.selects yX6_copies.cls yX6_copies yX6_copies ∈ lw_tbl := w_pr 21 18 (by decide +kernel)
theorem ca_X6_doesAll : gCa yX6_doesAll cX6_doesAll 2 (some .boolean) 0 := ⟨w_tb 1811 (by decide +kernel), w_tb 8 (by decide +kernel), (by decide +kernel), by decide⟩
theorem in_X6_doesAll : Cond.instanceMethod yX6_doesAll ∈ lw_tbl := w_tb 1810 (by decide +kernel)
theorem se_X6_doesAll : Cond.selects yX6_doesAll.cls yX6_doesAll yX6_doesAll ∈ lw_tbl := w_pr 68 18 (by decide +kernel)
theorem ca_X6_doesNow : gCa yX6_doesNow cX6_doesNow 3 (some .int) 0 := ⟨w_tb 1819 (by decide +kernel), w_tb 8 (by decide +kernel), (by decide +kernel), by decide⟩
theorem in_X6_doesNow : Cond.instanceMethod yX6_doesNow ∈ lw_tbl := w_tb 1818 (by decide +kernel)
theorem se_X6_doesNow : Cond.selects yX6_doesNow.cls yX6_doesNow yX6_doesNow ∈ lw_tbl := w_pr 70 18 (by decide +kernel)
theorem ca_X6_endTerm : gCa yX6_endTerm cX6_endTerm 1 (some .int) 0 := ⟨w_tb 1566 (by decide +kernel), w_tb 8 (by decide +kernel), (by decide +kernel), by decide⟩
theorem in_X6_endTerm : Cond.instanceMethod yX6_endTerm ∈ lw_tbl := w_tb 1564 (by decide +kernel)
theorem se_X6_endTerm : Cond.selects yX6_endTerm.cls yX6_endTerm yX6_endTerm ∈ lw_tbl := w_tb 1565 (by decide +kernel)
theorem ca_X6_endsTerm : gCa yX6_endsTerm cX6_endsTerm 3 (some .int) 0 := ⟨w_tb 1574 (by decide +kernel), w_tb 8 (by decide +kernel), (by decide +kernel), by decide⟩
theorem in_X6_endsTerm : Cond.instanceMethod yX6_endsTerm ∈ lw_tbl := w_tb 1573 (by decide +kernel)
theorem se_X6_endsTerm : Cond.selects yX6_endsTerm.cls yX6_endsTerm yX6_endsTerm ∈ lw_tbl := w_pr 48 18 (by decide +kernel)
theorem ca_X6_errorPosition : gCa yX6_errorPosition cX6_errorPosition 1 (some .int) 0 := ⟨w_tb 1827 (by decide +kernel), w_tb 8 (by decide +kernel), (by decide +kernel), by decide⟩
theorem in_X6_errorPosition : Cond.instanceMethod yX6_errorPosition ∈ lw_tbl := w_tb 1825 (by decide +kernel)
theorem se_X6_errorPosition : Cond.selects yX6_errorPosition.cls yX6_errorPosition yX6_errorPosition ∈ lw_tbl := w_tb 1826 (by decide +kernel)
theorem ca_X6_examine : gCa yX6_examine cX6_examine 4 (some .int) 2 := ⟨w_tb 1546 (by decide +kernel), w_tb 8 (by decide +kernel), (by decide +kernel), by decide⟩
theorem in_X6_examine : Cond.instanceMethod yX6_examine ∈ lw_tbl := w_tb 1544 (by decide +kernel)
theorem se_X6_examine : Cond.selects yX6_examine.cls yX6_examine yX6_examine ∈ lw_tbl := w_tb 1545 (by decide +kernel)
theorem ca_X6_examines : gCa yX6_examines cX6_examines 5 (some .int) 2 := ⟨w_tb 1550 (by decide +kernel), w_tb 8 (by decide +kernel), (by decide +kernel), by decide⟩
theorem in_X6_examines : Cond.instanceMethod yX6_examines ∈ lw_tbl := w_tb 1549 (by decide +kernel)
theorem se_X6_examines : Cond.selects yX6_examines.cls yX6_examines yX6_examines ∈ lw_tbl := w_pr 43 18 (by decide +kernel)
theorem ca_X6_explores : gCa yX6_explores cX6_explores 2 (some .boolean) 1 := ⟨w_tb 1481 (by decide +kernel), w_tb 8 (by decide +kernel), (by decide +kernel), by decide⟩
theorem in_X6_explores : Cond.instanceMethod yX6_explores ∈ lw_tbl := w_tb 1480 (by decide +kernel)
theorem se_X6_explores : Cond.selects yX6_explores.cls yX6_explores yX6_explores ∈ lw_tbl := w_pr 33 18 (by decide +kernel)
theorem ca_X6_exploresNext : gCa yX6_exploresNext cX6_exploresNext 2 (some .boolean) 1 := ⟨w_tb 1638 (by decide +kernel), w_tb 8 (by decide +kernel), (by decide +kernel), by decide⟩
theorem in_X6_exploresNext : Cond.instanceMethod yX6_exploresNext ∈ lw_tbl := w_tb 1636 (by decide +kernel)
theorem se_X6_exploresNext : Cond.selects yX6_exploresNext.cls yX6_exploresNext yX6_exploresNext ∈ lw_tbl := w_tb 1637 (by decide +kernel)
theorem ca_X6_failedCommand : gCa yX6_failedCommand cX6_failedCommand 1 (some .int) 0 := ⟨w_tb 1831 (by decide +kernel), w_tb 8 (by decide +kernel), (by decide +kernel), by decide⟩
theorem in_X6_failedCommand : Cond.instanceMethod yX6_failedCommand ∈ lw_tbl := w_tb 1829 (by decide +kernel)
theorem se_X6_failedCommand : Cond.selects yX6_failedCommand.cls yX6_failedCommand yX6_failedCommand ∈ lw_tbl := w_tb 1830 (by decide +kernel)
theorem ca_X6_fails : gCa yX6_fails cX6_fails 2 (some .int) 1 := ⟨w_tb 1415 (by decide +kernel), w_tb 8 (by decide +kernel), (by decide +kernel), by decide⟩
theorem in_X6_fails : Cond.instanceMethod yX6_fails ∈ lw_tbl := w_tb 1414 (by decide +kernel)
theorem se_X6_fails : Cond.selects yX6_fails.cls yX6_fails yX6_fails ∈ lw_tbl := w_pr 19 18 (by decide +kernel)
theorem ca_X6_forgetRain : gCa yX6_forgetRain cX6_forgetRain 4 (some .int) 2 := ⟨w_tb 1531 (by decide +kernel), w_tb 8 (by decide +kernel), (by decide +kernel), by decide⟩
theorem in_X6_forgetRain : Cond.instanceMethod yX6_forgetRain ∈ lw_tbl := w_tb 1529 (by decide +kernel)
theorem se_X6_forgetRain : Cond.selects yX6_forgetRain.cls yX6_forgetRain yX6_forgetRain ∈ lw_tbl := w_tb 1530 (by decide +kernel)
theorem ca_X6_forgets : gCa yX6_forgets cX6_forgets 7 (some .int) 2 := ⟨w_tb 1539 (by decide +kernel), w_tb 8 (by decide +kernel), (by decide +kernel), by decide⟩
theorem in_X6_forgets : Cond.instanceMethod yX6_forgets ∈ lw_tbl := w_tb 1538 (by decide +kernel)
theorem se_X6_forgets : Cond.selects yX6_forgets.cls yX6_forgets yX6_forgets ∈ lw_tbl := w_pr 42 18 (by decide +kernel)
theorem ca_X6_galePenalty : gCa yX6_galePenalty cX6_galePenalty 1 (some .int) 0 := ⟨w_tb 1715 (by decide +kernel), w_tb 8 (by decide +kernel), (by decide +kernel), by decide⟩
theorem in_X6_galePenalty : Cond.instanceMethod yX6_galePenalty ∈ lw_tbl := w_tb 1713 (by decide +kernel)
theorem se_X6_galePenalty : Cond.selects yX6_galePenalty.cls yX6_galePenalty yX6_galePenalty ∈ lw_tbl := w_tb 1714 (by decide +kernel)
theorem ca_X6_goesBack : gCa yX6_goesBack cX6_goesBack 2 none 0 := ⟨w_tb 1823 (by decide +kernel), w_tb 8 (by decide +kernel), (by decide +kernel), by decide⟩
theorem in_X6_goesBack : Cond.instanceMethod yX6_goesBack ∈ lw_tbl := w_tb 1822 (by decide +kernel)
theorem se_X6_goesBack : Cond.selects yX6_goesBack.cls yX6_goesBack yX6_goesBack ∈ lw_tbl := w_pr 71 18 (by decide +kernel)
theorem ca_X6_habit : gCa yX6_habit cX6_habit 6 (some .int) 3 := ⟨w_tb 1462 (by decide +kernel), w_tb 8 (by decide +kernel), (by decide +kernel), by decide⟩
theorem in_X6_habit : Cond.instanceMethod yX6_habit ∈ lw_tbl := w_tb 1461 (by decide +kernel)
theorem se_X6_habit : Cond.selects yX6_habit.cls yX6_habit yX6_habit ∈ lw_tbl := w_pr 29 18 (by decide +kernel)
theorem ca_X6_hasExam : gCa yX6_hasExam cX6_hasExam 4 (some .boolean) 2 := ⟨w_tb 1683 (by decide +kernel), w_tb 8 (by decide +kernel), (by decide +kernel), by decide⟩
theorem in_X6_hasExam : Cond.instanceMethod yX6_hasExam ∈ lw_tbl := w_tb 1681 (by decide +kernel)
theorem se_X6_hasExam : Cond.selects yX6_hasExam.cls yX6_hasExam yX6_hasExam ∈ lw_tbl := w_tb 1682 (by decide +kernel)
theorem ca_X6_hasExamOf : gCa yX6_hasExamOf cX6_hasExamOf 3 (some .boolean) 2 := ⟨w_tb 1562 (by decide +kernel), w_tb 8 (by decide +kernel), (by decide +kernel), by decide⟩
theorem in_X6_hasExamOf : Cond.instanceMethod yX6_hasExamOf ∈ lw_tbl := w_tb 1561 (by decide +kernel)
theorem se_X6_hasExamOf : Cond.selects yX6_hasExamOf.cls yX6_hasExamOf yX6_hasExamOf ∈ lw_tbl := w_pr 46 18 (by decide +kernel)
theorem ca_X6_isAhead : gCa yX6_isAhead cX6_isAhead 5 (some .boolean) 2 := ⟨w_tb 1707 (by decide +kernel), w_tb 8 (by decide +kernel), (by decide +kernel), by decide⟩
theorem in_X6_isAhead : Cond.instanceMethod yX6_isAhead ∈ lw_tbl := w_tb 1706 (by decide +kernel)
theorem se_X6_isAhead : Cond.selects yX6_isAhead.cls yX6_isAhead yX6_isAhead ∈ lw_tbl := w_pr 55 18 (by decide +kernel)
theorem ca_X6_isBetween : gCa yX6_isBetween cX6_isBetween 3 (some .boolean) 3 := ⟨w_tb 1411 (by decide +kernel), w_tb 8 (by decide +kernel), (by decide +kernel), by decide⟩
theorem st_X6_isBetween : Cond.static yX6_isBetween ∈ lw_tbl := w_tb 1410 (by decide +kernel)
theorem ca_X6_isConsistent : gCa yX6_isConsistent cX6_isConsistent 3 (some .boolean) 0 := ⟨w_tb 1743 (by decide +kernel), w_tb 8 (by decide +kernel), (by decide +kernel), by decide⟩
theorem in_X6_isConsistent : Cond.instanceMethod yX6_isConsistent ∈ lw_tbl := w_tb 1741 (by decide +kernel)
theorem se_X6_isConsistent : Cond.selects yX6_isConsistent.cls yX6_isConsistent yX6_isConsistent ∈ lw_tbl := w_tb 1742 (by decide +kernel)
theorem ca_X6_isGraduate : gCa yX6_isGraduate cX6_isGraduate 2 (some .boolean) 1 := ⟨w_tb 1687 (by decide +kernel), w_tb 8 (by decide +kernel), (by decide +kernel), by decide⟩
theorem in_X6_isGraduate : Cond.instanceMethod yX6_isGraduate ∈ lw_tbl := w_tb 1685 (by decide +kernel)
theorem se_X6_isGraduate : Cond.selects yX6_isGraduate.cls yX6_isGraduate yX6_isGraduate ∈ lw_tbl := w_tb 1686 (by decide +kernel)
theorem ca_X6_isRight : gCa yX6_isRight cX6_isRight 4 (some .boolean) 3 := ⟨w_tb 1554 (by decide +kernel), w_tb 8 (by decide +kernel), (by decide +kernel), by decide⟩
theorem in_X6_isRight : Cond.instanceMethod yX6_isRight ∈ lw_tbl := w_tb 1553 (by decide +kernel)
theorem se_X6_isRight : Cond.selects yX6_isRight.cls yX6_isRight yX6_isRight ∈ lw_tbl := w_pr 44 18 (by decide +kernel)
theorem ca_X6_isRightToOpen : gCa yX6_isRightToOpen cX6_isRightToOpen 3 (some .boolean) 2 := ⟨w_tb 1558 (by decide +kernel), w_tb 8 (by decide +kernel), (by decide +kernel), by decide⟩
theorem in_X6_isRightToOpen : Cond.instanceMethod yX6_isRightToOpen ∈ lw_tbl := w_tb 1557 (by decide +kernel)
theorem se_X6_isRightToOpen : Cond.selects yX6_isRightToOpen.cls yX6_isRightToOpen yX6_isRightToOpen ∈ lw_tbl := w_pr 45 18 (by decide +kernel)
theorem ca_X6_isSituation : gCa yX6_isSituation cX6_isSituation 2 (some .boolean) 2 := ⟨w_tb 1450 (by decide +kernel), w_tb 8 (by decide +kernel), (by decide +kernel), by decide⟩
theorem st_X6_isSituation : Cond.static yX6_isSituation ∈ lw_tbl := w_tb 1449 (by decide +kernel)
theorem ca_X6_isUmbrella : gCa yX6_isUmbrella cX6_isUmbrella 2 (some .boolean) 1 := ⟨w_tb 1447 (by decide +kernel), w_tb 8 (by decide +kernel), (by decide +kernel), by decide⟩
theorem in_X6_isUmbrella : Cond.instanceMethod yX6_isUmbrella ∈ lw_tbl := w_tb 1446 (by decide +kernel)
theorem se_X6_isUmbrella : Cond.selects yX6_isUmbrella.cls yX6_isUmbrella yX6_isUmbrella ∈ lw_tbl := w_pr 26 18 (by decide +kernel)
theorem ca_X6_keeps : gCa yX6_keeps cX6_keeps 3 none 0 := ⟨w_tb 1427 (by decide +kernel), w_tb 8 (by decide +kernel), (by decide +kernel), by decide⟩
theorem in_X6_keeps : Cond.instanceMethod yX6_keeps ∈ lw_tbl := w_tb 1426 (by decide +kernel)
theorem se_X6_keeps : Cond.selects yX6_keeps.cls yX6_keeps yX6_keeps ∈ lw_tbl := w_pr 22 18 (by decide +kernel)
theorem ca_X6_knownSituations : gCa yX6_knownSituations cX6_knownSituations 4 (some .int) 1 := ⟨w_tb 1663 (by decide +kernel), w_tb 8 (by decide +kernel), (by decide +kernel), by decide⟩
theorem in_X6_knownSituations : Cond.instanceMethod yX6_knownSituations ∈ lw_tbl := w_tb 1661 (by decide +kernel)
theorem se_X6_knownSituations : Cond.selects yX6_knownSituations.cls yX6_knownSituations yX6_knownSituations ∈ lw_tbl := w_tb 1662 (by decide +kernel)
theorem ca_X6_learns : gCa yX6_learns cX6_learns 4 none 2 := ⟨w_tb 1492 (by decide +kernel), w_tb 8 (by decide +kernel), (by decide +kernel), by decide⟩
theorem in_X6_learns : Cond.instanceMethod yX6_learns ∈ lw_tbl := w_tb 1491 (by decide +kernel)
theorem se_X6_learns : Cond.selects yX6_learns.cls yX6_learns yX6_learns ∈ lw_tbl := w_pr 35 18 (by decide +kernel)
theorem ca_X6_meanReward : gCa yX6_meanReward cX6_meanReward 7 (some .double) 4 := ⟨w_tb 1655 (by decide +kernel), w_tb 8 (by decide +kernel), (by decide +kernel), by decide⟩
theorem in_X6_meanReward : Cond.instanceMethod yX6_meanReward ∈ lw_tbl := w_tb 1653 (by decide +kernel)
theorem se_X6_meanReward : Cond.selects yX6_meanReward.cls yX6_meanReward yX6_meanReward ∈ lw_tbl := w_tb 1654 (by decide +kernel)
theorem ca_X6_meanSchoolReward : gCa yX6_meanSchoolReward cX6_meanSchoolReward 1 (some .double) 0 := ⟨w_tb 1735 (by decide +kernel), w_tb 8 (by decide +kernel), (by decide +kernel), by decide⟩
theorem in_X6_meanSchoolReward : Cond.instanceMethod yX6_meanSchoolReward ∈ lw_tbl := w_tb 1733 (by decide +kernel)
theorem se_X6_meanSchoolReward : Cond.selects yX6_meanSchoolReward.cls yX6_meanSchoolReward yX6_meanSchoolReward ∈ lw_tbl := w_tb 1734 (by decide +kernel)
theorem ca_X6_memory : gCa yX6_memory cX6_memory 2 (some .int) 1 := ⟨w_tb 1586 (by decide +kernel), w_tb 8 (by decide +kernel), (by decide +kernel), by decide⟩
theorem in_X6_memory : Cond.instanceMethod yX6_memory ∈ lw_tbl := w_tb 1584 (by decide +kernel)
theorem se_X6_memory : Cond.selects yX6_memory.cls yX6_memory yX6_memory ∈ lw_tbl := w_tb 1585 (by decide +kernel)
theorem ca_X6_nextChar : gCa yX6_nextChar cX6_nextChar 1 (some .int) 0 := ⟨w_tb 1783 (by decide +kernel), w_tb 8 (by decide +kernel), (by decide +kernel), by decide⟩
theorem in_X6_nextChar : Cond.instanceMethod yX6_nextChar ∈ lw_tbl := w_tb 1782 (by decide +kernel)
theorem se_X6_nextChar : Cond.selects yX6_nextChar.cls yX6_nextChar yX6_nextChar ∈ lw_tbl := w_pr 61 18 (by decide +kernel)
theorem ca_X6_notAdd : gCa yX6_notAdd cX6_notAdd 2 (some .int) 1 := ⟨w_tb 1408 (by decide +kernel), w_tb 8 (by decide +kernel), (by decide +kernel), by decide⟩
theorem in_X6_notAdd : Cond.instanceMethod yX6_notAdd ∈ lw_tbl := w_tb 1407 (by decide +kernel)
theorem se_X6_notAdd : Cond.selects yX6_notAdd.cls yX6_notAdd yX6_notAdd ∈ lw_tbl := w_pr 18 18 (by decide +kernel)
theorem ca_X6_notAsk : gCa yX6_notAsk cX6_notAsk 4 (some .int) 3 := ⟨w_tb 1634 (by decide +kernel), w_tb 8 (by decide +kernel), (by decide +kernel), by decide⟩
theorem in_X6_notAsk : Cond.instanceMethod yX6_notAsk ∈ lw_tbl := w_tb 1633 (by decide +kernel)
theorem se_X6_notAsk : Cond.selects yX6_notAsk.cls yX6_notAsk yX6_notAsk ∈ lw_tbl := w_pr 52 18 (by decide +kernel)
theorem ca_X6_notEnd : gCa yX6_notEnd cX6_notEnd 1 (some .int) 0 := ⟨w_tb 1570 (by decide +kernel), w_tb 8 (by decide +kernel), (by decide +kernel), by decide⟩
theorem in_X6_notEnd : Cond.instanceMethod yX6_notEnd ∈ lw_tbl := w_tb 1569 (by decide +kernel)
theorem se_X6_notEnd : Cond.selects yX6_notEnd.cls yX6_notEnd yX6_notEnd ∈ lw_tbl := w_pr 47 18 (by decide +kernel)
theorem ca_X6_notNow : gCa yX6_notNow cX6_notNow 3 (some .int) 0 := ⟨w_tb 1815 (by decide +kernel), w_tb 8 (by decide +kernel), (by decide +kernel), by decide⟩
theorem in_X6_notNow : Cond.instanceMethod yX6_notNow ∈ lw_tbl := w_tb 1814 (by decide +kernel)
theorem se_X6_notNow : Cond.selects yX6_notNow.cls yX6_notNow yX6_notNow ∈ lw_tbl := w_pr 69 18 (by decide +kernel)
theorem ca_X6_notOne : gCa yX6_notOne cX6_notOne 3 (some .int) 2 := ⟨w_tb 1535 (by decide +kernel), w_tb 8 (by decide +kernel), (by decide +kernel), by decide⟩
theorem in_X6_notOne : Cond.instanceMethod yX6_notOne ∈ lw_tbl := w_tb 1534 (by decide +kernel)
theorem se_X6_notOne : Cond.selects yX6_notOne.cls yX6_notOne yX6_notOne ∈ lw_tbl := w_pr 41 18 (by decide +kernel)
theorem ca_X6_notPenalty : gCa yX6_notPenalty cX6_notPenalty 1 (some .int) 1 := ⟨w_tb 1519 (by decide +kernel), w_tb 8 (by decide +kernel), (by decide +kernel), by decide⟩
theorem st_X6_notPenalty : Cond.static yX6_notPenalty ∈ lw_tbl := w_tb 1518 (by decide +kernel)
theorem ca_X6_notPeriod : gCa yX6_notPeriod cX6_notPeriod 3 (some .int) 2 := ⟨w_tb 1504 (by decide +kernel), w_tb 8 (by decide +kernel), (by decide +kernel), by decide⟩
theorem in_X6_notPeriod : Cond.instanceMethod yX6_notPeriod ∈ lw_tbl := w_tb 1503 (by decide +kernel)
theorem se_X6_notPeriod : Cond.selects yX6_notPeriod.cls yX6_notPeriod yX6_notPeriod ∈ lw_tbl := w_pr 37 18 (by decide +kernel)
theorem ca_X6_notTrain : gCa yX6_notTrain cX6_notTrain 5 (some .int) 4 := ⟨w_tb 1443 (by decide +kernel), w_tb 8 (by decide +kernel), (by decide +kernel), by decide⟩
theorem in_X6_notTrain : Cond.instanceMethod yX6_notTrain ∈ lw_tbl := w_tb 1442 (by decide +kernel)
theorem se_X6_notTrain : Cond.selects yX6_notTrain.cls yX6_notTrain yX6_notTrain ∈ lw_tbl := w_pr 25 18 (by decide +kernel)
theorem ca_X6_of : gCa yX6_of cX6_of 3 (some .int) 2 := ⟨w_tb 1470 (by decide +kernel), w_tb 8 (by decide +kernel), (by decide +kernel), by decide⟩
theorem in_X6_of : Cond.instanceMethod yX6_of ∈ lw_tbl := w_tb 1469 (by decide +kernel)
theorem se_X6_of : Cond.selects yX6_of.cls yX6_of yX6_of ∈ lw_tbl := w_pr 31 18 (by decide +kernel)
theorem ca_X6_openShare : gCa yX6_openShare cX6_openShare 1 (some .float) 0 := ⟨w_tb 1739 (by decide +kernel), w_tb 8 (by decide +kernel), (by decide +kernel), by decide⟩
theorem in_X6_openShare : Cond.instanceMethod yX6_openShare ∈ lw_tbl := w_tb 1737 (by decide +kernel)
theorem se_X6_openShare : Cond.selects yX6_openShare.cls yX6_openShare yX6_openShare ∈ lw_tbl := w_tb 1738 (by decide +kernel)
theorem ca_X6_outputAt : gCa yX6_outputAt cX6_outputAt 2 (some .char) 1 := ⟨w_tb 1763 (by decide +kernel), w_tb 8 (by decide +kernel), (by decide +kernel), by decide⟩
theorem in_X6_outputAt : Cond.instanceMethod yX6_outputAt ∈ lw_tbl := w_tb 1761 (by decide +kernel)
theorem se_X6_outputAt : Cond.selects yX6_outputAt.cls yX6_outputAt yX6_outputAt ∈ lw_tbl := w_tb 1762 (by decide +kernel)
theorem ca_X6_period : gCa yX6_period cX6_period 2 (some .int) 1 := ⟨w_tb 1594 (by decide +kernel), w_tb 8 (by decide +kernel), (by decide +kernel), by decide⟩
theorem in_X6_period : Cond.instanceMethod yX6_period ∈ lw_tbl := w_tb 1592 (by decide +kernel)
theorem se_X6_period : Cond.selects yX6_period.cls yX6_period yX6_period ∈ lw_tbl := w_tb 1593 (by decide +kernel)
theorem ca_X6_puts : gCa yX6_puts cX6_puts 4 none 3 := ⟨w_tb 1435 (by decide +kernel), w_tb 8 (by decide +kernel), (by decide +kernel), by decide⟩
theorem in_X6_puts : Cond.instanceMethod yX6_puts ∈ lw_tbl := w_tb 1434 (by decide +kernel)
theorem se_X6_puts : Cond.selects yX6_puts.cls yX6_puts yX6_puts ∈ lw_tbl := w_pr 24 18 (by decide +kernel)
theorem ca_X6_rainOf : gCa yX6_rainOf cX6_rainOf 1 (some .int) 1 := ⟨w_tb 1542 (by decide +kernel), w_tb 8 (by decide +kernel), (by decide +kernel), by decide⟩
theorem st_X6_rainOf : Cond.static yX6_rainOf ∈ lw_tbl := w_tb 1541 (by decide +kernel)
theorem ca_X6_reads : gCa yX6_reads cX6_reads 2 (some .boolean) 1 := ⟨w_tb 1787 (by decide +kernel), w_tb 8 (by decide +kernel), (by decide +kernel), by decide⟩
theorem in_X6_reads : Cond.instanceMethod yX6_reads ∈ lw_tbl := w_tb 1786 (by decide +kernel)
theorem se_X6_reads : Cond.selects yX6_reads.cls yX6_reads yX6_reads ∈ lw_tbl := w_pr 62 18 (by decide +kernel)
theorem ca_X6_readsAll : gCa yX6_readsAll cX6_readsAll 2 (some .boolean) 0 := ⟨w_tb 1775 (by decide +kernel), w_tb 8 (by decide +kernel), (by decide +kernel), by decide⟩
theorem in_X6_readsAll : Cond.instanceMethod yX6_readsAll ∈ lw_tbl := w_tb 1774 (by decide +kernel)
theorem se_X6_readsAll : Cond.selects yX6_readsAll.cls yX6_readsAll yX6_readsAll ∈ lw_tbl := w_pr 59 18 (by decide +kernel)
theorem ca_X6_readsCommand : gCa yX6_readsCommand cX6_readsCommand 1 (some .boolean) 0 := ⟨w_tb 1779 (by decide +kernel), w_tb 8 (by decide +kernel), (by decide +kernel), by decide⟩
theorem in_X6_readsCommand : Cond.instanceMethod yX6_readsCommand ∈ lw_tbl := w_tb 1778 (by decide +kernel)
theorem se_X6_readsCommand : Cond.selects yX6_readsCommand.cls yX6_readsCommand yX6_readsCommand ∈ lw_tbl := w_pr 60 18 (by decide +kernel)
theorem ca_X6_readsDigit : gCa yX6_readsDigit cX6_readsDigit 2 (some .boolean) 1 := ⟨w_tb 1795 (by decide +kernel), w_tb 8 (by decide +kernel), (by decide +kernel), by decide⟩
theorem in_X6_readsDigit : Cond.instanceMethod yX6_readsDigit ∈ lw_tbl := w_tb 1794 (by decide +kernel)
theorem se_X6_readsDigit : Cond.selects yX6_readsDigit.cls yX6_readsDigit yX6_readsDigit ∈ lw_tbl := w_pr 64 18 (by decide +kernel)
theorem ca_X6_readsNumber : gCa yX6_readsNumber cX6_readsNumber 2 (some .boolean) 1 := ⟨w_tb 1791 (by decide +kernel), w_tb 8 (by decide +kernel), (by decide +kernel), by decide⟩
theorem in_X6_readsNumber : Cond.instanceMethod yX6_readsNumber ∈ lw_tbl := w_tb 1790 (by decide +kernel)
theorem se_X6_readsNumber : Cond.selects yX6_readsNumber.cls yX6_readsNumber yX6_readsNumber ∈ lw_tbl := w_pr 63 18 (by decide +kernel)
theorem ca_X6_readsT : gCa yX6_readsT cX6_readsT 1 (some .boolean) 0 := ⟨w_tb 1799 (by decide +kernel), w_tb 8 (by decide +kernel), (by decide +kernel), by decide⟩
theorem in_X6_readsT : Cond.instanceMethod yX6_readsT ∈ lw_tbl := w_tb 1798 (by decide +kernel)
theorem se_X6_readsT : Cond.selects yX6_readsT.cls yX6_readsT yX6_readsT ∈ lw_tbl := w_pr 65 18 (by decide +kernel)
theorem ca_X6_readsTrain : gCa yX6_readsTrain cX6_readsTrain 1 (some .boolean) 0 := ⟨w_tb 1803 (by decide +kernel), w_tb 8 (by decide +kernel), (by decide +kernel), by decide⟩
theorem in_X6_readsTrain : Cond.instanceMethod yX6_readsTrain ∈ lw_tbl := w_tb 1802 (by decide +kernel)
theorem se_X6_readsTrain : Cond.selects yX6_readsTrain.cls yX6_readsTrain yX6_readsTrain ∈ lw_tbl := w_pr 66 18 (by decide +kernel)
theorem ca_X6_readsTwo : gCa yX6_readsTwo cX6_readsTwo 1 (some .boolean) 0 := ⟨w_tb 1807 (by decide +kernel), w_tb 8 (by decide +kernel), (by decide +kernel), by decide⟩
theorem in_X6_readsTwo : Cond.instanceMethod yX6_readsTwo ∈ lw_tbl := w_tb 1806 (by decide +kernel)
theorem se_X6_readsTwo : Cond.selects yX6_readsTwo.cls yX6_readsTwo yX6_readsTwo ∈ lw_tbl := w_pr 67 18 (by decide +kernel)
theorem ca_X6_rememberedTrials : gCa yX6_rememberedTrials cX6_rememberedTrials 2 (some .int) 1 := ⟨w_tb 1602 (by decide +kernel), w_tb 8 (by decide +kernel), (by decide +kernel), by decide⟩
theorem in_X6_rememberedTrials : Cond.instanceMethod yX6_rememberedTrials ∈ lw_tbl := w_tb 1600 (by decide +kernel)
theorem se_X6_rememberedTrials : Cond.selects yX6_rememberedTrials.cls yX6_rememberedTrials yX6_rememberedTrials ∈ lw_tbl := w_tb 1601 (by decide +kernel)
theorem ca_X6_remembers : gCa yX6_remembers cX6_remembers 1 none 0 := ⟨w_tb 1419 (by decide +kernel), w_tb 8 (by decide +kernel), (by decide +kernel), by decide⟩
theorem in_X6_remembers : Cond.instanceMethod yX6_remembers ∈ lw_tbl := w_tb 1418 (by decide +kernel)
theorem se_X6_remembers : Cond.selects yX6_remembers.cls yX6_remembers yX6_remembers ∈ lw_tbl := w_pr 20 18 (by decide +kernel)
theorem ca_X6_renderHabits : gCa yX6_renderHabits cX6_renderHabits 3 (some .int) 1 := ⟨w_tb 1747 (by decide +kernel), w_tb 8 (by decide +kernel), (by decide +kernel), by decide⟩
theorem in_X6_renderHabits : Cond.instanceMethod yX6_renderHabits ∈ lw_tbl := w_tb 1745 (by decide +kernel)
theorem se_X6_renderHabits : Cond.selects yX6_renderHabits.cls yX6_renderHabits yX6_renderHabits ∈ lw_tbl := w_tb 1746 (by decide +kernel)
theorem ca_X6_renderUmbrella : gCa yX6_renderUmbrella cX6_renderUmbrella 3 (some .int) 1 := ⟨w_tb 1755 (by decide +kernel), w_tb 8 (by decide +kernel), (by decide +kernel), by decide⟩
theorem in_X6_renderUmbrella : Cond.instanceMethod yX6_renderUmbrella ∈ lw_tbl := w_tb 1753 (by decide +kernel)
theorem se_X6_renderUmbrella : Cond.selects yX6_renderUmbrella.cls yX6_renderUmbrella yX6_renderUmbrella ∈ lw_tbl := w_tb 1754 (by decide +kernel)
theorem ca_X6_restore : gCa yX6_restore cX6_restore 2 (some .int) 0 := ⟨w_tb 1843 (by decide +kernel), w_tb 8 (by decide +kernel), (by decide +kernel), by decide⟩
theorem in_X6_restore : Cond.instanceMethod yX6_restore ∈ lw_tbl := w_tb 1841 (by decide +kernel)
theorem se_X6_restore : Cond.selects yX6_restore.cls yX6_restore yX6_restore ∈ lw_tbl := w_tb 1842 (by decide +kernel)
theorem ca_X6_reward : gCa yX6_reward cX6_reward 4 (some .int) 3 := ⟨w_tb 1622 (by decide +kernel), w_tb 8 (by decide +kernel), (by decide +kernel), by decide⟩
theorem in_X6_reward : Cond.instanceMethod yX6_reward ∈ lw_tbl := w_tb 1620 (by decide +kernel)
theorem se_X6_reward : Cond.selects yX6_reward.cls yX6_reward yX6_reward ∈ lw_tbl := w_tb 1621 (by decide +kernel)
theorem ca_X6_rewardAll : gCa yX6_rewardAll cX6_rewardAll 3 (some .int) 0 := ⟨w_tb 1727 (by decide +kernel), w_tb 8 (by decide +kernel), (by decide +kernel), by decide⟩
theorem in_X6_rewardAll : Cond.instanceMethod yX6_rewardAll ∈ lw_tbl := w_tb 1726 (by decide +kernel)
theorem se_X6_rewardAll : Cond.selects yX6_rewardAll.cls yX6_rewardAll yX6_rewardAll ∈ lw_tbl := w_pr 56 18 (by decide +kernel)
theorem ca_X6_rewardNow : gCa yX6_rewardNow cX6_rewardNow 4 (some .int) 3 := ⟨w_tb 1485 (by decide +kernel), w_tb 8 (by decide +kernel), (by decide +kernel), by decide⟩
theorem in_X6_rewardNow : Cond.instanceMethod yX6_rewardNow ∈ lw_tbl := w_tb 1484 (by decide +kernel)
theorem se_X6_rewardNow : Cond.selects yX6_rewardNow.cls yX6_rewardNow yX6_rewardNow ∈ lw_tbl := w_pr 34 18 (by decide +kernel)
theorem ca_X6_rewardOf : gCa yX6_rewardOf cX6_rewardOf 1 (some .int) 1 := ⟨w_tb 1477 (by decide +kernel), w_tb 8 (by decide +kernel), (by decide +kernel), by decide⟩
theorem st_X6_rewardOf : Cond.static yX6_rewardOf ∈ lw_tbl := w_tb 1476 (by decide +kernel)
theorem ca_X6_rewardSum : gCa yX6_rewardSum cX6_rewardSum 6 (some .int) 4 := ⟨w_tb 1646 (by decide +kernel), w_tb 8 (by decide +kernel), (by decide +kernel), by decide⟩
theorem in_X6_rewardSum : Cond.instanceMethod yX6_rewardSum ∈ lw_tbl := w_tb 1644 (by decide +kernel)
theorem se_X6_rewardSum : Cond.selects yX6_rewardSum.cls yX6_rewardSum yX6_rewardSum ∈ lw_tbl := w_tb 1645 (by decide +kernel)
theorem ca_X6_rewardSumByTrials : gCa yX6_rewardSumByTrials cX6_rewardSumByTrials 5 (some .int) 4 := ⟨w_tb 1650 (by decide +kernel), w_tb 8 (by decide +kernel), (by decide +kernel), by decide⟩
theorem in_X6_rewardSumByTrials : Cond.instanceMethod yX6_rewardSumByTrials ∈ lw_tbl := w_tb 1648 (by decide +kernel)
theorem se_X6_rewardSumByTrials : Cond.selects yX6_rewardSumByTrials.cls yX6_rewardSumByTrials yX6_rewardSumByTrials ∈ lw_tbl := w_tb 1649 (by decide +kernel)
theorem ca_X6_rightHabits : gCa yX6_rightHabits cX6_rightHabits 4 (some .int) 1 := ⟨w_tb 1659 (by decide +kernel), w_tb 8 (by decide +kernel), (by decide +kernel), by decide⟩
theorem in_X6_rightHabits : Cond.instanceMethod yX6_rightHabits ∈ lw_tbl := w_tb 1657 (by decide +kernel)
theorem se_X6_rightHabits : Cond.selects yX6_rightHabits.cls yX6_rightHabits yX6_rightHabits ∈ lw_tbl := w_tb 1658 (by decide +kernel)
theorem ca_X6_runScript : gCa yX6_runScript cX6_runScript 2 (some .int) 0 := ⟨w_tb 1771 (by decide +kernel), w_tb 8 (by decide +kernel), (by decide +kernel), by decide⟩
theorem in_X6_runScript : Cond.instanceMethod yX6_runScript ∈ lw_tbl := w_tb 1769 (by decide +kernel)
theorem se_X6_runScript : Cond.selects yX6_runScript.cls yX6_runScript yX6_runScript ∈ lw_tbl := w_tb 1770 (by decide +kernel)
theorem ca_X6_save : gCa yX6_save cX6_save 2 (some .int) 0 := ⟨w_tb 1839 (by decide +kernel), w_tb 8 (by decide +kernel), (by decide +kernel), by decide⟩
theorem in_X6_save : Cond.instanceMethod yX6_save ∈ lw_tbl := w_tb 1837 (by decide +kernel)
theorem se_X6_save : Cond.selects yX6_save.cls yX6_save yX6_save ∈ lw_tbl := w_tb 1838 (by decide +kernel)
theorem ca_X6_schoolReward : gCa yX6_schoolReward cX6_schoolReward 1 (some .int) 0 := ⟨w_tb 1723 (by decide +kernel), w_tb 8 (by decide +kernel), (by decide +kernel), by decide⟩
theorem in_X6_schoolReward : Cond.instanceMethod yX6_schoolReward ∈ lw_tbl := w_tb 1721 (by decide +kernel)
theorem se_X6_schoolReward : Cond.selects yX6_schoolReward.cls yX6_schoolReward yX6_schoolReward ∈ lw_tbl := w_tb 1722 (by decide +kernel)
theorem ca_X6_schoolRewardByActions : gCa yX6_schoolRewardByActions cX6_schoolRewardByActions 1 (some .int) 0 := ⟨w_tb 1731 (by decide +kernel), w_tb 8 (by decide +kernel), (by decide +kernel), by decide⟩
theorem in_X6_schoolRewardByActions : Cond.instanceMethod yX6_schoolRewardByActions ∈ lw_tbl := w_tb 1729 (by decide +kernel)
theorem se_X6_schoolRewardByActions : Cond.selects yX6_schoolRewardByActions.cls yX6_schoolRewardByActions yX6_schoolRewardByActions ∈ lw_tbl := w_tb 1730 (by decide +kernel)
theorem ca_X6_setGalePenalty : gCa yX6_setGalePenalty cX6_setGalePenalty 2 (some .int) 1 := ⟨w_tb 1527 (by decide +kernel), w_tb 8 (by decide +kernel), (by decide +kernel), by decide⟩
theorem in_X6_setGalePenalty : Cond.instanceMethod yX6_setGalePenalty ∈ lw_tbl := w_tb 1525 (by decide +kernel)
theorem se_X6_setGalePenalty : Cond.selects yX6_setGalePenalty.cls yX6_setGalePenalty yX6_setGalePenalty ∈ lw_tbl := w_tb 1526 (by decide +kernel)
theorem ca_X6_setPeriod : gCa yX6_setPeriod cX6_setPeriod 4 (some .int) 2 := ⟨w_tb 1500 (by decide +kernel), w_tb 8 (by decide +kernel), (by decide +kernel), by decide⟩
theorem in_X6_setPeriod : Cond.instanceMethod yX6_setPeriod ∈ lw_tbl := w_tb 1498 (by decide +kernel)
theorem se_X6_setPeriod : Cond.selects yX6_setPeriod.cls yX6_setPeriod yX6_setPeriod ∈ lw_tbl := w_tb 1499 (by decide +kernel)
theorem ca_X6_setWetPenalty : gCa yX6_setWetPenalty cX6_setWetPenalty 2 (some .int) 1 := ⟨w_tb 1512 (by decide +kernel), w_tb 8 (by decide +kernel), (by decide +kernel), by decide⟩
theorem in_X6_setWetPenalty : Cond.instanceMethod yX6_setWetPenalty ∈ lw_tbl := w_tb 1510 (by decide +kernel)
theorem se_X6_setWetPenalty : Cond.selects yX6_setWetPenalty.cls yX6_setWetPenalty yX6_setWetPenalty ∈ lw_tbl := w_tb 1511 (by decide +kernel)
theorem ca_X6_sets : gCa yX6_sets cX6_sets 4 (some .int) 2 := ⟨w_tb 1523 (by decide +kernel), w_tb 8 (by decide +kernel), (by decide +kernel), by decide⟩
theorem in_X6_sets : Cond.instanceMethod yX6_sets ∈ lw_tbl := w_tb 1522 (by decide +kernel)
theorem se_X6_sets : Cond.selects yX6_sets.cls yX6_sets yX6_sets ∈ lw_tbl := w_pr 40 18 (by decide +kernel)
theorem ca_X6_setsChecked : gCa yX6_setsChecked cX6_setsChecked 3 (some .int) 2 := ⟨w_tb 1516 (by decide +kernel), w_tb 8 (by decide +kernel), (by decide +kernel), by decide⟩
theorem in_X6_setsChecked : Cond.instanceMethod yX6_setsChecked ∈ lw_tbl := w_tb 1515 (by decide +kernel)
theorem se_X6_setsChecked : Cond.selects yX6_setsChecked.cls yX6_setsChecked yX6_setsChecked ∈ lw_tbl := w_pr 39 18 (by decide +kernel)
theorem ca_X6_setsPeriod : gCa yX6_setsPeriod cX6_setsPeriod 4 (some .int) 2 := ⟨w_tb 1508 (by decide +kernel), w_tb 8 (by decide +kernel), (by decide +kernel), by decide⟩
theorem in_X6_setsPeriod : Cond.instanceMethod yX6_setsPeriod ∈ lw_tbl := w_tb 1507 (by decide +kernel)
theorem se_X6_setsPeriod : Cond.selects yX6_setsPeriod.cls yX6_setsPeriod yX6_setsPeriod ∈ lw_tbl := w_pr 38 18 (by decide +kernel)
theorem ca_X6_shouldOpen : gCa yX6_shouldOpen cX6_shouldOpen 3 (some .boolean) 2 := ⟨w_tb 1626 (by decide +kernel), w_tb 8 (by decide +kernel), (by decide +kernel), by decide⟩
theorem in_X6_shouldOpen : Cond.instanceMethod yX6_shouldOpen ∈ lw_tbl := w_tb 1624 (by decide +kernel)
theorem se_X6_shouldOpen : Cond.selects yX6_shouldOpen.cls yX6_shouldOpen yX6_shouldOpen ∈ lw_tbl := w_tb 1625 (by decide +kernel)
theorem ca_X6_situationAt : gCa yX6_situationAt cX6_situationAt 7 (some .int) 2 := ⟨w_tb 1675 (by decide +kernel), w_tb 8 (by decide +kernel), (by decide +kernel), by decide⟩
theorem in_X6_situationAt : Cond.instanceMethod yX6_situationAt ∈ lw_tbl := w_tb 1674 (by decide +kernel)
theorem se_X6_situationAt : Cond.selects yX6_situationAt.cls yX6_situationAt yX6_situationAt ∈ lw_tbl := w_pr 54 18 (by decide +kernel)
theorem ca_X6_situationRain : gCa yX6_situationRain cX6_situationRain 3 (some .int) 2 := ⟨w_tb 1671 (by decide +kernel), w_tb 8 (by decide +kernel), (by decide +kernel), by decide⟩
theorem in_X6_situationRain : Cond.instanceMethod yX6_situationRain ∈ lw_tbl := w_tb 1669 (by decide +kernel)
theorem se_X6_situationRain : Cond.selects yX6_situationRain.cls yX6_situationRain yX6_situationRain ∈ lw_tbl := w_tb 1670 (by decide +kernel)
theorem ca_X6_situationWind : gCa yX6_situationWind cX6_situationWind 3 (some .int) 2 := ⟨w_tb 1679 (by decide +kernel), w_tb 8 (by decide +kernel), (by decide +kernel), by decide⟩
theorem in_X6_situationWind : Cond.instanceMethod yX6_situationWind ∈ lw_tbl := w_tb 1677 (by decide +kernel)
theorem se_X6_situationWind : Cond.selects yX6_situationWind.cls yX6_situationWind yX6_situationWind ∈ lw_tbl := w_tb 1678 (by decide +kernel)
theorem ca_X6_stars : gCa yX6_stars cX6_stars 2 (some .int) 1 := ⟨w_tb 1699 (by decide +kernel), w_tb 8 (by decide +kernel), (by decide +kernel), by decide⟩
theorem in_X6_stars : Cond.instanceMethod yX6_stars ∈ lw_tbl := w_tb 1697 (by decide +kernel)
theorem se_X6_stars : Cond.selects yX6_stars.cls yX6_stars yX6_stars ∈ lw_tbl := w_tb 1698 (by decide +kernel)
theorem ca_X6_sumOf : gCa yX6_sumOf cX6_sumOf 7 (some .int) 4 := ⟨w_tb 1474 (by decide +kernel), w_tb 8 (by decide +kernel), (by decide +kernel), by decide⟩
theorem in_X6_sumOf : Cond.instanceMethod yX6_sumOf ∈ lw_tbl := w_tb 1473 (by decide +kernel)
theorem se_X6_sumOf : Cond.selects yX6_sumOf.cls yX6_sumOf yX6_sumOf ∈ lw_tbl := w_pr 32 18 (by decide +kernel)
theorem ca_X6_term : gCa yX6_term cX6_term 1 (some .int) 0 := ⟨w_tb 1719 (by decide +kernel), w_tb 8 (by decide +kernel), (by decide +kernel), by decide⟩
theorem in_X6_term : Cond.instanceMethod yX6_term ∈ lw_tbl := w_tb 1717 (by decide +kernel)
theorem se_X6_term : Cond.selects yX6_term.cls yX6_term yX6_term ∈ lw_tbl := w_tb 1718 (by decide +kernel)
theorem ca_X6_termReward : gCa yX6_termReward cX6_termReward 2 (some .int) 1 := ⟨w_tb 1695 (by decide +kernel), w_tb 8 (by decide +kernel), (by decide +kernel), by decide⟩
theorem in_X6_termReward : Cond.instanceMethod yX6_termReward ∈ lw_tbl := w_tb 1693 (by decide +kernel)
theorem se_X6_termReward : Cond.selects yX6_termReward.cls yX6_termReward yX6_termReward ∈ lw_tbl := w_tb 1694 (by decide +kernel)
theorem ca_X6_thrown : gCa yX6_thrown cX6_thrown 1 (some .int) 0 := ⟨w_tb 1338 (by decide +kernel), w_tb 8 (by decide +kernel), (by decide +kernel), by decide⟩
theorem in_X6_thrown : Cond.instanceMethod yX6_thrown ∈ lw_tbl := w_tb 1336 (by decide +kernel)
theorem se_X6_thrown : Cond.selects yX6_thrown.cls yX6_thrown yX6_thrown ∈ lw_tbl := w_tb 1337 (by decide +kernel)
theorem ca_X6_timesTried : gCa yX6_timesTried cX6_timesTried 6 (some .int) 4 := ⟨w_tb 1642 (by decide +kernel), w_tb 8 (by decide +kernel), (by decide +kernel), by decide⟩
theorem in_X6_timesTried : Cond.instanceMethod yX6_timesTried ∈ lw_tbl := w_tb 1640 (by decide +kernel)
theorem se_X6_timesTried : Cond.selects yX6_timesTried.cls yX6_timesTried yX6_timesTried ∈ lw_tbl := w_tb 1641 (by decide +kernel)
theorem ca_X6_totalReward : gCa yX6_totalReward cX6_totalReward 2 (some .int) 1 := ⟨w_tb 1691 (by decide +kernel), w_tb 8 (by decide +kernel), (by decide +kernel), by decide⟩
theorem in_X6_totalReward : Cond.instanceMethod yX6_totalReward ∈ lw_tbl := w_tb 1689 (by decide +kernel)
theorem se_X6_totalReward : Cond.selects yX6_totalReward.cls yX6_totalReward yX6_totalReward ∈ lw_tbl := w_tb 1690 (by decide +kernel)
theorem ca_X6_train : gCa yX6_train cX6_train 6 (some .int) 4 := ⟨w_tb 1439 (by decide +kernel), w_tb 8 (by decide +kernel), (by decide +kernel), by decide⟩
theorem in_X6_train : Cond.instanceMethod yX6_train ∈ lw_tbl := w_tb 1437 (by decide +kernel)
theorem se_X6_train : Cond.selects yX6_train.cls yX6_train yX6_train ∈ lw_tbl := w_tb 1438 (by decide +kernel)
theorem ca_X6_trains : gCa yX6_trains cX6_trains 7 (some .int) 4 := ⟨w_tb 1454 (by decide +kernel), w_tb 8 (by decide +kernel), (by decide +kernel), by decide⟩
theorem in_X6_trains : Cond.instanceMethod yX6_trains ∈ lw_tbl := w_tb 1453 (by decide +kernel)
theorem se_X6_trains : Cond.selects yX6_trains.cls yX6_trains yX6_trains ∈ lw_tbl := w_pr 27 18 (by decide +kernel)
theorem ca_X6_trialAt : gCa yX6_trialAt cX6_trialAt 3 (some .int) 2 := ⟨w_tb 1610 (by decide +kernel), w_tb 8 (by decide +kernel), (by decide +kernel), by decide⟩
theorem in_X6_trialAt : Cond.instanceMethod yX6_trialAt ∈ lw_tbl := w_tb 1609 (by decide +kernel)
theorem se_X6_trialAt : Cond.selects yX6_trialAt.cls yX6_trialAt yX6_trialAt ∈ lw_tbl := w_pr 51 18 (by decide +kernel)
theorem ca_X6_trialOf : gCa yX6_trialOf cX6_trialOf 4 (some .int) 4 := ⟨w_tb 1488 (by decide +kernel), w_tb 8 (by decide +kernel), (by decide +kernel), by decide⟩
theorem st_X6_trialOf : Cond.static yX6_trialOf ∈ lw_tbl := w_tb 1487 (by decide +kernel)
theorem ca_X6_trialOpened : gCa yX6_trialOpened cX6_trialOpened 3 (some .boolean) 2 := ⟨w_tb 1614 (by decide +kernel), w_tb 8 (by decide +kernel), (by decide +kernel), by decide⟩
theorem in_X6_trialOpened : Cond.instanceMethod yX6_trialOpened ∈ lw_tbl := w_tb 1612 (by decide +kernel)
theorem se_X6_trialOpened : Cond.selects yX6_trialOpened.cls yX6_trialOpened yX6_trialOpened ∈ lw_tbl := w_tb 1613 (by decide +kernel)
theorem ca_X6_trialRain : gCa yX6_trialRain cX6_trialRain 3 (some .int) 2 := ⟨w_tb 1606 (by decide +kernel), w_tb 8 (by decide +kernel), (by decide +kernel), by decide⟩
theorem in_X6_trialRain : Cond.instanceMethod yX6_trialRain ∈ lw_tbl := w_tb 1604 (by decide +kernel)
theorem se_X6_trialRain : Cond.selects yX6_trialRain.cls yX6_trialRain yX6_trialRain ∈ lw_tbl := w_tb 1605 (by decide +kernel)
theorem ca_X6_trialReward : gCa yX6_trialReward cX6_trialReward 4 (some .int) 2 := ⟨w_tb 1618 (by decide +kernel), w_tb 8 (by decide +kernel), (by decide +kernel), by decide⟩
theorem in_X6_trialReward : Cond.instanceMethod yX6_trialReward ∈ lw_tbl := w_tb 1616 (by decide +kernel)
theorem se_X6_trialReward : Cond.selects yX6_trialReward.cls yX6_trialReward yX6_trialReward ∈ lw_tbl := w_tb 1617 (by decide +kernel)
theorem ca_X6_trials : gCa yX6_trials cX6_trials 2 (some .int) 1 := ⟨w_tb 1598 (by decide +kernel), w_tb 8 (by decide +kernel), (by decide +kernel), by decide⟩
theorem in_X6_trials : Cond.instanceMethod yX6_trials ∈ lw_tbl := w_tb 1596 (by decide +kernel)
theorem se_X6_trials : Cond.selects yX6_trials.cls yX6_trials yX6_trials ∈ lw_tbl := w_tb 1597 (by decide +kernel)
theorem ca_X6_trialsIn : gCa yX6_trialsIn cX6_trialsIn 3 (some .int) 2 := ⟨w_tb 1667 (by decide +kernel), w_tb 8 (by decide +kernel), (by decide +kernel), by decide⟩
theorem in_X6_trialsIn : Cond.instanceMethod yX6_trialsIn ∈ lw_tbl := w_tb 1666 (by decide +kernel)
theorem se_X6_trialsIn : Cond.selects yX6_trialsIn.cls yX6_trialsIn yX6_trialsIn ∈ lw_tbl := w_pr 53 18 (by decide +kernel)
theorem ca_X6_triedTimes : gCa yX6_triedTimes cX6_triedTimes 7 (some .int) 4 := ⟨w_tb 1466 (by decide +kernel), w_tb 8 (by decide +kernel), (by decide +kernel), by decide⟩
theorem in_X6_triedTimes : Cond.instanceMethod yX6_triedTimes ∈ lw_tbl := w_tb 1465 (by decide +kernel)
theorem se_X6_triedTimes : Cond.selects yX6_triedTimes.cls yX6_triedTimes yX6_triedTimes ∈ lw_tbl := w_pr 30 18 (by decide +kernel)
theorem ca_X6_tries : gCa yX6_tries cX6_tries 6 (some .int) 3 := ⟨w_tb 1458 (by decide +kernel), w_tb 8 (by decide +kernel), (by decide +kernel), by decide⟩
theorem in_X6_tries : Cond.instanceMethod yX6_tries ∈ lw_tbl := w_tb 1457 (by decide +kernel)
theorem se_X6_tries : Cond.selects yX6_tries.cls yX6_tries yX6_tries ∈ lw_tbl := w_pr 28 18 (by decide +kernel)
theorem ca_X6_type : gCa yX6_type cX6_type 2 (some .int) 1 := ⟨w_tb 1767 (by decide +kernel), w_tb 8 (by decide +kernel), (by decide +kernel), by decide⟩
theorem in_X6_type : Cond.instanceMethod yX6_type ∈ lw_tbl := w_tb 1765 (by decide +kernel)
theorem se_X6_type : Cond.selects yX6_type.cls yX6_type yX6_type ∈ lw_tbl := w_tb 1766 (by decide +kernel)
theorem ca_X6_umbrellaByStars : gCa yX6_umbrellaByStars cX6_umbrellaByStars 5 (some .int) 1 := ⟨w_tb 1703 (by decide +kernel), w_tb 8 (by decide +kernel), (by decide +kernel), by decide⟩
theorem in_X6_umbrellaByStars : Cond.instanceMethod yX6_umbrellaByStars ∈ lw_tbl := w_tb 1701 (by decide +kernel)
theorem se_X6_umbrellaByStars : Cond.selects yX6_umbrellaByStars.cls yX6_umbrellaByStars yX6_umbrellaByStars ∈ lw_tbl := w_tb 1702 (by decide +kernel)
theorem ca_X6_umbrellaCount : gCa yX6_umbrellaCount cX6_umbrellaCount 1 (some .int) 0 := ⟨w_tb 1578 (by decide +kernel), w_tb 8 (by decide +kernel), (by decide +kernel), by decide⟩
theorem in_X6_umbrellaCount : Cond.instanceMethod yX6_umbrellaCount ∈ lw_tbl := w_tb 1576 (by decide +kernel)
theorem se_X6_umbrellaCount : Cond.selects yX6_umbrellaCount.cls yX6_umbrellaCount yX6_umbrellaCount ∈ lw_tbl := w_tb 1577 (by decide +kernel)
theorem ca_X6_undo : gCa yX6_undo cX6_undo 3 (some .int) 0 := ⟨w_tb 1835 (by decide +kernel), w_tb 8 (by decide +kernel), (by decide +kernel), by decide⟩
theorem in_X6_undo : Cond.instanceMethod yX6_undo ∈ lw_tbl := w_tb 1833 (by decide +kernel)
theorem se_X6_undo : Cond.selects yX6_undo.cls yX6_undo yX6_undo ∈ lw_tbl := w_tb 1834 (by decide +kernel)
theorem ca_X6_wetPenalty : gCa yX6_wetPenalty cX6_wetPenalty 1 (some .int) 0 := ⟨w_tb 1711 (by decide +kernel), w_tb 8 (by decide +kernel), (by decide +kernel), by decide⟩
theorem in_X6_wetPenalty : Cond.instanceMethod yX6_wetPenalty ∈ lw_tbl := w_tb 1709 (by decide +kernel)
theorem se_X6_wetPenalty : Cond.selects yX6_wetPenalty.cls yX6_wetPenalty yX6_wetPenalty ∈ lw_tbl := w_tb 1710 (by decide +kernel)
theorem ca_X6_wouldOpen : gCa yX6_wouldOpen cX6_wouldOpen 5 (some .boolean) 3 := ⟨w_tb 1630 (by decide +kernel), w_tb 8 (by decide +kernel), (by decide +kernel), by decide⟩
theorem in_X6_wouldOpen : Cond.instanceMethod yX6_wouldOpen ∈ lw_tbl := w_tb 1628 (by decide +kernel)
theorem se_X6_wouldOpen : Cond.selects yX6_wouldOpen.cls yX6_wouldOpen yX6_wouldOpen ∈ lw_tbl := w_tb 1629 (by decide +kernel)
theorem ca_X6_writes : gCa yX6_writes cX6_writes 2 none 1 := ⟨w_tb 1751 (by decide +kernel), w_tb 8 (by decide +kernel), (by decide +kernel), by decide⟩
theorem in_X6_writes : Cond.instanceMethod yX6_writes ∈ lw_tbl := w_tb 1750 (by decide +kernel)
theorem se_X6_writes : Cond.selects yX6_writes.cls yX6_writes yX6_writes ∈ lw_tbl := w_pr 57 18 (by decide +kernel)
theorem ca_X6_writesNumber : gCa yX6_writesNumber cX6_writesNumber 4 none 1 := ⟨w_tb 1759 (by decide +kernel), w_tb 8 (by decide +kernel), (by decide +kernel), by decide⟩
theorem in_X6_writesNumber : Cond.instanceMethod yX6_writesNumber ∈ lw_tbl := w_tb 1758 (by decide +kernel)
theorem se_X6_writesNumber : Cond.selects yX6_writesNumber.cls yX6_writesNumber yX6_writesNumber ∈ lw_tbl := w_pr 58 18 (by decide +kernel)
theorem ln_X1_39 : (RX1, 39, yX4_init, "UmbrellaSchool") ∈ gNest := (by decide +kernel)
theorem ln_X1_62 : (RX1, 62, yX5_situationOf, "UmbrellaSchool") ∈ gNest := (by decide +kernel)
theorem ln_X1_77 : (RX1, 77, yX5_caseInSituation, "UmbrellaSchool") ∈ gNest := (by decide +kernel)
theorem ln_X4_49 : (RX4, 49, yX5_copyRow, "UmbrellaSchool") ∈ gNest := (by decide +kernel)
theorem ln_X4_53 : (RX4, 53, yX5_caseInSituation, "UmbrellaSchool") ∈ gNest := (by decide +kernel)
theorem ln_X4_57 : (RX4, 57, yX5_valueAt, "UmbrellaSchool") ∈ gNest := (by decide +kernel)
theorem ln_X4_61 : (RX4, 61, yX5_putAt, "UmbrellaSchool") ∈ gNest := (by decide +kernel)
theorem ln_X4_69 : (RX4, 69, yX5_rainOfCase, "UmbrellaSchool") ∈ gNest := (by decide +kernel)
theorem ln_X4_73 : (RX4, 73, yX5_addAt, "UmbrellaSchool") ∈ gNest := (by decide +kernel)
end
section
/-! calls without room, as the decompiled bodies use them; the words of decompiled bodies -/
theorem x_cV {K : gKx} {PX : va_W} {G : gG} {pc b kd ci idx n : Nat} {lv : List (Option Value)} {st rest As : List Value} {S S' : gS} {T : gT} {c0 s0 : Nat} {own : String} {cc : ByteArray} {d d' maxL : Nat} {ret : Option FieldType} {bytes : ByteArray} {y : MethodName} {v : Option Value} {fl : List (Nat ⊕ Nat)} {TC : u_T} {NC : Nat} {ty0 : Nat → FieldType} (st2 : List Value) (g : Gd K own cc d)
    (hC : Ct (ky K).2 y (Cond.code y bytes maxL ret :: gTb) d' 0 0 (.ref b :: As) G S T v G S' T) (hca : gCa y bytes maxL ret n) (hin : Cond.instanceMethod y ∈ lw_tbl) (hse : Cond.selects y.cls y y ∈ lw_tbl) (hlk : Cond.methodLink own idx y ∈ lw_tbl)
    (cl : gCls kd ci fl y.cls TC NC ty0) (hb : gis G kd b) (hd : d' + 1 ≤ d) (hn : As.length = n) (hst : st = As.reverse ++ .ref b :: rest) (hW : (rest.map fun v => v.category).sum ≤ 8) (hdg : decode cc pc = .ok (.invokevirtual idx, 3)) (h2 : v.toList ++ rest = st2)
    (k : Xj K PX G (pc + 3) lv st2 S' T c0 s0) : Xj K PX G pc lv st S T c0 s0 :=
  x_callV g hC hca hin hse hlk ⟨hb.1, rfl⟩ (by rw [hb.2]; exact cl.1) cl.2.1 hd (Nat.zero_le _) (Nat.zero_le _) hn hst hW hdg h2 k
theorem x_cS {K : gKx} {PX : va_W} {G : gG} {pc idx n : Nat} {lv : List (Option Value)} {st rest As : List Value} {S S' : gS} {T : gT} {c0 s0 : Nat} {own : String} {cc : ByteArray} {d d' maxL : Nat} {ret : Option FieldType} {bytes : ByteArray} {y : MethodName} {v : Option Value} (st2 : List Value) (g : Gd K own cc d)
    (hC : Ct (ky K).2 y (Cond.code y bytes maxL ret :: gTb) d' 0 0 As G S T v G S' T) (hca : gCa y bytes maxL ret n) (hstc : Cond.static y ∈ lw_tbl) (hlk : Cond.methodLink own idx y ∈ lw_tbl)
    (hd : d' + 1 ≤ d) (hn : As.length = n) (hst : st = As.reverse ++ rest) (hW : (rest.map fun v => v.category).sum ≤ 8) (hdg : decode cc pc = .ok (.invokestatic idx, 3)) (h2 : v.toList ++ rest = st2)
    (k : Xj K PX G (pc + 3) lv st2 S' T c0 s0) : Xj K PX G pc lv st S T c0 s0 :=
  x_callS g hC hca hstc hlk hd (Nat.zero_le _) (Nat.zero_le _) hn hst hW hdg h2 k
theorem x_cN {K : gKx} {PX : va_W} {G : gG} {pc idx n : Nat} {lv : List (Option Value)} {st rest As : List Value} {S S' : gS} {T : gT} {c0 s0 : Nat} {own host : String} {cc : ByteArray} {d d' maxL : Nat} {ret : Option FieldType} {bytes : ByteArray} {y : MethodName} {v : Option Value} (st2 : List Value) (g : Gd K own cc d)
    (hC : Ct (ky K).2 y (Cond.code y bytes maxL ret :: gTb) d' 0 0 As G S T v G S' T) (hca : gCa y bytes maxL ret n) (hstc : Cond.static y ∈ lw_tbl) (hlk : (own, idx, y, host) ∈ gNest)
    (hd : d' + 1 ≤ d) (hn : As.length = n) (hst : st = As.reverse ++ rest) (hW : (rest.map fun v => v.category).sum ≤ 8) (hdg : decode cc pc = .ok (.invokestatic idx, 3)) (h2 : v.toList ++ rest = st2)
    (k : Xj K PX G (pc + 3) lv st2 S' T c0 s0) : Xj K PX G pc lv st S T c0 s0 :=
  x_callN g hC hca hstc hlk hd (Nat.zero_le _) (Nat.zero_le _) hn hst hW hdg h2 k
-- the words of decompiled bodies
noncomputable def gd {α : Type} (P : Prop) (k : Option α) : Option α := @ite _ P (Classical.propDecidable P) k none
def gb {α β : Type} (x : Option α) (k : α → Option β) : Option β := x.bind k
def gb2 {α β γ : Type} (x : Option (α × β)) (k : α → β → Option γ) : Option γ := x.bind fun p => k p.1 p.2
def glt {α β : Type} (x : α) (k : α → Option β) : Option β := k x
def gz (b : Bool) : Int32 := if b = true then 1 else 0
def gN : Nat := 4096
theorem gd_e {α : Type} {P : Prop} {k : Option α} {y : α} (h : gd P k = some y) : P ∧ k = some y := by
  unfold gd at h
  by_cases q : P
  · rw [if_pos q] at h; exact ⟨q, h⟩
  · rw [if_neg q] at h; cases h
theorem gd_i {α : Type} {P : Prop} {k : Option α} (h : P) : gd P k = k := by
  unfold gd; rw [if_pos h]
theorem gb_e {α β : Type} {x : Option α} {k : α → Option β} {y : β} (h : gb x k = some y) : ∃ a, x = some a ∧ k a = some y := by
  unfold gb at h
  cases x with
  | none => cases h
  | some a => exact ⟨a, rfl, h⟩
theorem gb2_e {α β γ : Type} {x : Option (α × β)} {k : α → β → Option γ} {y : γ} (h : gb2 x k = some y) : ∃ a b, x = some (a, b) ∧ k a b = some y := by
  unfold gb2 at h
  cases x with
  | none => cases h
  | some a => exact ⟨a.1, a.2, rfl, h⟩
theorem glt_e {α β : Type} {x a : α} {k : α → Option β} {y : Option β} (e : a = x) (h : glt x k = y) : k a = y := by rw [e]; exact h
theorem ite_t {α : Type} {c : Prop} [Decidable c] {a b : α} {y : α} (q : c) (h : ite c a b = y) : a = y := by rw [if_pos q] at h; exact h
theorem ite_f {α : Type} {c : Prop} [Decidable c] {a b : α} {y : α} (q : ¬ c) (h : ite c a b = y) : b = y := by rw [if_neg q] at h; exact h
theorem gz_nar (b : Bool) : narrow .boolean (.int (gz b)) = .int (gz b) := by cases b <;> rfl
theorem x_iretS {K : gKx} {G : gG} {pc : Nat} {lv : List (Option Value)} {S S1 : gS} {T : gT} {c0 s0 d : Nat} {own : String} {cc : ByteArray} {x r : Int32} (g : Gd K own cc d) (e : gEnd K (some .int) (some (.int r)) G S1 T) (hdg : decode cc pc = .ok (.ireturn, 1)) (h1 : x = r) (h2 : S = S1) : Xj K [] G pc lv [.int x] S T c0 s0 := by
  subst h1 h2; exact x_iret g e hdg
theorem x_zretS {K : gKx} {G : gG} {pc : Nat} {lv : List (Option Value)} {S S1 : gS} {T : gT} {c0 s0 d : Nat} {own : String} {cc : ByteArray} {x : Int32} {b r : Bool} (g : Gd K own cc d) (e : gEnd K (some .boolean) (some (.int (gz r))) G S1 T) (hdg : decode cc pc = .ok (.ireturn, 1)) (hx : x = gz b) (h1 : b = r) (h2 : S = S1) : Xj K [] G pc lv [.int x] S T c0 s0 := by
  subst hx h1 h2; exact x_zret (gz_nar b) g e hdg
theorem x_cretS {K : gKx} {G : gG} {pc : Nat} {lv : List (Option Value)} {S S1 : gS} {T : gT} {c0 s0 d : Nat} {own : String} {cc : ByteArray} {x r : Int32} (g : Gd K own cc d) (e : gEnd K (some .char) (some (.int r)) G S1 T) (hdg : decode cc pc = .ok (.ireturn, 1)) (hn : narrow .char (.int x) = .int x) (h1 : x = r) (h2 : S = S1) : Xj K [] G pc lv [.int x] S T c0 s0 := by
  subst h1 h2; exact x_zret hn g e hdg
theorem x_vretS {K : gKx} {G : gG} {pc : Nat} {lv : List (Option Value)} {S S1 : gS} {T : gT} {c0 s0 d : Nat} {own : String} {cc : ByteArray} (g : Gd K own cc d) (e : gEnd K none none G S1 T) (hdg : decode cc pc = .ok (.return_, 1)) (h2 : S = S1) : Xj K [] G pc lv [] S T c0 s0 := by
  subst h2; exact x_vret g e hdg
theorem x_aretS {K : gKx} {G : gG} {pc a r : Nat} {lv : List (Option Value)} {S S1 : gS} {T : gT} {c0 s0 d : Nat} {own C : String} {cc : ByteArray} (g : Gd K own cc d) (e : gEnd K (some (.object C)) (some (.ref r)) G S1 T) (hdg : decode cc pc = .ok (.areturn, 1)) (h1 : a = r) (h2 : S = S1) : Xj K [] G pc lv [.ref a] S T c0 s0 := by
  subst h1 h2; exact x_aret (r := some a) g e hdg
theorem x_dret {K : gKx} {G : gG} {pc : Nat} {lv : List (Option Value)} {S S1 : gS} {T : gT} {c0 s0 d : Nat} {own : String} {cc : ByteArray} {x r : UInt64} (g : Gd K own cc d) (e : gEnd K (some .double) (some (.double r)) G S1 T) (hdg : decode cc pc = .ok (.dreturn, 1)) (h1 : x = r) (h2 : S = S1) : Xj K [] G pc lv [.double x] S T c0 s0 := by
  subst h1 h2
  intro H locs cells slots ls Z hat
  unfold kW
  rw [e.2]
  have hb := hat.2.2.2.2.2
  refine W.widen (k := kC K) (n := kS K) (by omega) (by omega) ?_
  exact W.dret g.1.1 g.1.2.1 e.1 (gOut hat) hat.2.2.2.1.2.2 hdg g.2.2.2.2.2.1
theorem x_fret {K : gKx} {G : gG} {pc : Nat} {lv : List (Option Value)} {S S1 : gS} {T : gT} {c0 s0 d : Nat} {own : String} {cc : ByteArray} {x r : UInt32} (g : Gd K own cc d) (e : gEnd K (some .float) (some (.float r)) G S1 T) (hdg : decode cc pc = .ok (.freturn, 1)) (h1 : x = r) (h2 : S = S1) : Xj K [] G pc lv [.float x] S T c0 s0 := by
  subst h1 h2
  intro H locs cells slots ls Z hat
  unfold kW
  rw [e.2]
  have hb := hat.2.2.2.2.2
  refine W.widen (k := kC K) (n := kS K) (by omega) (by omega) ?_
  exact W.fret g.1.1 g.1.2.1 e.1 (gOut hat) hat.2.2.2.1.2.2 hdg g.2.2.2.2.2.1
end
section
theorem dX1_init_0 : decode cX1_init 0 = .ok (.aload_n 0, 1) := by decide +kernel
theorem dX1_init_1 : decode cX1_init 1 = .ok (.invokespecial 3, 3) := by decide +kernel
theorem dX1_init_4 : decode cX1_init 4 = .ok (.aload_n 0, 1) := by decide +kernel
theorem dX1_init_5 : decode cX1_init 5 = .ok (.bipush 6, 2) := by decide +kernel
theorem dX1_init_7 : decode cX1_init 7 = .ok (.anewarray 9, 3) := by decide +kernel
theorem dX1_init_10 : decode cX1_init 10 = .ok (.putfield 11, 3) := by decide +kernel
theorem dX1_init_13 : decode cX1_init 13 = .ok (.aload_n 0, 1) := by decide +kernel
theorem dX1_init_14 : decode cX1_init 14 = .ok (.iconst 0, 1) := by decide +kernel
theorem dX1_init_15 : decode cX1_init 15 = .ok (.putfield 17, 3) := by decide +kernel
theorem dX1_init_18 : decode cX1_init 18 = .ok (.aload_n 0, 1) := by decide +kernel
theorem dX1_init_19 : decode cX1_init 19 = .ok (.iconst 2, 1) := by decide +kernel
theorem dX1_init_20 : decode cX1_init 20 = .ok (.putfield 21, 3) := by decide +kernel
theorem dX1_init_23 : decode cX1_init 23 = .ok (.aload_n 0, 1) := by decide +kernel
theorem dX1_init_24 : decode cX1_init 24 = .ok (.iconst 3, 1) := by decide +kernel
theorem dX1_init_25 : decode cX1_init 25 = .ok (.putfield 24, 3) := by decide +kernel
theorem dX1_init_28 : decode cX1_init 28 = .ok (.aload_n 0, 1) := by decide +kernel
theorem dX1_init_29 : decode cX1_init 29 = .ok (.iconst 0, 1) := by decide +kernel
theorem dX1_init_30 : decode cX1_init 30 = .ok (.putfield 27, 3) := by decide +kernel
theorem dX1_init_33 : decode cX1_init 33 = .ok (.aload_n 0, 1) := by decide +kernel
theorem dX1_init_34 : decode cX1_init 34 = .ok (.iconst 0, 1) := by decide +kernel
theorem dX1_init_35 : decode cX1_init 35 = .ok (.putfield 30, 3) := by decide +kernel
theorem dX1_init_38 : decode cX1_init 38 = .ok (.aload_n 0, 1) := by decide +kernel
theorem dX1_init_39 : decode cX1_init 39 = .ok (.iconst 0, 1) := by decide +kernel
theorem dX1_init_40 : decode cX1_init 40 = .ok (.putfield 33, 3) := by decide +kernel
theorem dX1_init_43 : decode cX1_init 43 = .ok (.aload_n 0, 1) := by decide +kernel
theorem dX1_init_44 : decode cX1_init 44 = .ok (.iconst 0, 1) := by decide +kernel
theorem dX1_init_45 : decode cX1_init 45 = .ok (.putfield 36, 3) := by decide +kernel
theorem dX1_init_48 : decode cX1_init 48 = .ok (.iconst 0, 1) := by decide +kernel
theorem dX1_init_49 : decode cX1_init 49 = .ok (.istore_n 1, 1) := by decide +kernel
theorem dX1_init_50 : decode cX1_init 50 = .ok (.iload_n 1, 1) := by decide +kernel
theorem dX1_init_51 : decode cX1_init 51 = .ok (.aload_n 0, 1) := by decide +kernel
theorem dX1_init_52 : decode cX1_init 52 = .ok (.getfield 11, 3) := by decide +kernel
theorem dX1_init_55 : decode cX1_init 55 = .ok (.arraylength, 1) := by decide +kernel
theorem dX1_init_56 : decode cX1_init 56 = .ok (.if_icmp .ge 22, 3) := by decide +kernel
theorem dX1_init_59 : decode cX1_init 59 = .ok (.aload_n 0, 1) := by decide +kernel
theorem dX1_init_60 : decode cX1_init 60 = .ok (.getfield 11, 3) := by decide +kernel
theorem dX1_init_63 : decode cX1_init 63 = .ok (.iload_n 1, 1) := by decide +kernel
theorem dX1_init_64 : decode cX1_init 64 = .ok (.new 9, 3) := by decide +kernel
theorem dX1_init_67 : decode cX1_init 67 = .ok (.dup, 1) := by decide +kernel
theorem dX1_init_68 : decode cX1_init 68 = .ok (.invokespecial 39, 3) := by decide +kernel
theorem dX1_init_71 : decode cX1_init 71 = .ok (.aastore, 1) := by decide +kernel
theorem dX1_init_72 : decode cX1_init 72 = .ok (.iinc 1 1, 3) := by decide +kernel
theorem dX1_init_75 : decode cX1_init 75 = .ok (.goto (-25), 3) := by decide +kernel
theorem dX1_init_78 : decode cX1_init 78 = .ok (.return_, 1) := by decide +kernel
theorem dX1_copyFrom_0 : decode cX1_copyFrom 0 = .ok (.iconst 0, 1) := by decide +kernel
theorem dX1_copyFrom_1 : decode cX1_copyFrom 1 = .ok (.istore_n 2, 1) := by decide +kernel
theorem dX1_copyFrom_2 : decode cX1_copyFrom 2 = .ok (.iload_n 2, 1) := by decide +kernel
theorem dX1_copyFrom_3 : decode cX1_copyFrom 3 = .ok (.aload_n 0, 1) := by decide +kernel
theorem dX1_copyFrom_4 : decode cX1_copyFrom 4 = .ok (.getfield 11, 3) := by decide +kernel
theorem dX1_copyFrom_7 : decode cX1_copyFrom 7 = .ok (.arraylength, 1) := by decide +kernel
theorem dX1_copyFrom_8 : decode cX1_copyFrom 8 = .ok (.if_icmp .ge 33, 3) := by decide +kernel
theorem dX1_copyFrom_11 : decode cX1_copyFrom 11 = .ok (.iload_n 2, 1) := by decide +kernel
theorem dX1_copyFrom_12 : decode cX1_copyFrom 12 = .ok (.aload_n 1, 1) := by decide +kernel
theorem dX1_copyFrom_13 : decode cX1_copyFrom 13 = .ok (.getfield 11, 3) := by decide +kernel
theorem dX1_copyFrom_16 : decode cX1_copyFrom 16 = .ok (.arraylength, 1) := by decide +kernel
theorem dX1_copyFrom_17 : decode cX1_copyFrom 17 = .ok (.if_icmp .ge 24, 3) := by decide +kernel
theorem dX1_copyFrom_20 : decode cX1_copyFrom 20 = .ok (.aload_n 0, 1) := by decide +kernel
theorem dX1_copyFrom_21 : decode cX1_copyFrom 21 = .ok (.getfield 11, 3) := by decide +kernel
theorem dX1_copyFrom_24 : decode cX1_copyFrom 24 = .ok (.iload_n 2, 1) := by decide +kernel
theorem dX1_copyFrom_25 : decode cX1_copyFrom 25 = .ok (.aaload, 1) := by decide +kernel
theorem dX1_copyFrom_26 : decode cX1_copyFrom 26 = .ok (.aload_n 1, 1) := by decide +kernel
theorem dX1_copyFrom_27 : decode cX1_copyFrom 27 = .ok (.getfield 11, 3) := by decide +kernel
theorem dX1_copyFrom_30 : decode cX1_copyFrom 30 = .ok (.iload_n 2, 1) := by decide +kernel
theorem dX1_copyFrom_31 : decode cX1_copyFrom 31 = .ok (.aaload, 1) := by decide +kernel
theorem dX1_copyFrom_32 : decode cX1_copyFrom 32 = .ok (.invokevirtual 40, 3) := by decide +kernel
theorem dX1_copyFrom_35 : decode cX1_copyFrom 35 = .ok (.iinc 2 1, 3) := by decide +kernel
theorem dX1_copyFrom_38 : decode cX1_copyFrom 38 = .ok (.goto (-36), 3) := by decide +kernel
theorem dX1_copyFrom_41 : decode cX1_copyFrom 41 = .ok (.aload_n 0, 1) := by decide +kernel
theorem dX1_copyFrom_42 : decode cX1_copyFrom 42 = .ok (.aload_n 1, 1) := by decide +kernel
theorem dX1_copyFrom_43 : decode cX1_copyFrom 43 = .ok (.getfield 17, 3) := by decide +kernel
theorem dX1_copyFrom_46 : decode cX1_copyFrom 46 = .ok (.putfield 17, 3) := by decide +kernel
theorem dX1_copyFrom_49 : decode cX1_copyFrom 49 = .ok (.aload_n 0, 1) := by decide +kernel
theorem dX1_copyFrom_50 : decode cX1_copyFrom 50 = .ok (.aload_n 1, 1) := by decide +kernel
theorem dX1_copyFrom_51 : decode cX1_copyFrom 51 = .ok (.getfield 21, 3) := by decide +kernel
theorem dX1_copyFrom_54 : decode cX1_copyFrom 54 = .ok (.putfield 21, 3) := by decide +kernel
theorem dX1_copyFrom_57 : decode cX1_copyFrom 57 = .ok (.aload_n 0, 1) := by decide +kernel
theorem dX1_copyFrom_58 : decode cX1_copyFrom 58 = .ok (.aload_n 1, 1) := by decide +kernel
theorem dX1_copyFrom_59 : decode cX1_copyFrom 59 = .ok (.getfield 24, 3) := by decide +kernel
theorem dX1_copyFrom_62 : decode cX1_copyFrom 62 = .ok (.putfield 24, 3) := by decide +kernel
theorem dX1_copyFrom_65 : decode cX1_copyFrom 65 = .ok (.aload_n 0, 1) := by decide +kernel
theorem dX1_copyFrom_66 : decode cX1_copyFrom 66 = .ok (.aload_n 1, 1) := by decide +kernel
theorem dX1_copyFrom_67 : decode cX1_copyFrom 67 = .ok (.getfield 27, 3) := by decide +kernel
theorem dX1_copyFrom_70 : decode cX1_copyFrom 70 = .ok (.putfield 27, 3) := by decide +kernel
theorem dX1_copyFrom_73 : decode cX1_copyFrom 73 = .ok (.aload_n 0, 1) := by decide +kernel
theorem dX1_copyFrom_74 : decode cX1_copyFrom 74 = .ok (.aload_n 1, 1) := by decide +kernel
theorem dX1_copyFrom_75 : decode cX1_copyFrom 75 = .ok (.getfield 30, 3) := by decide +kernel
theorem dX1_copyFrom_78 : decode cX1_copyFrom 78 = .ok (.putfield 30, 3) := by decide +kernel
theorem dX1_copyFrom_81 : decode cX1_copyFrom 81 = .ok (.aload_n 0, 1) := by decide +kernel
theorem dX1_copyFrom_82 : decode cX1_copyFrom 82 = .ok (.aload_n 1, 1) := by decide +kernel
theorem dX1_copyFrom_83 : decode cX1_copyFrom 83 = .ok (.getfield 33, 3) := by decide +kernel
theorem dX1_copyFrom_86 : decode cX1_copyFrom 86 = .ok (.putfield 33, 3) := by decide +kernel
theorem dX1_copyFrom_89 : decode cX1_copyFrom 89 = .ok (.aload_n 0, 1) := by decide +kernel
theorem dX1_copyFrom_90 : decode cX1_copyFrom 90 = .ok (.aload_n 1, 1) := by decide +kernel
theorem dX1_copyFrom_91 : decode cX1_copyFrom 91 = .ok (.getfield 36, 3) := by decide +kernel
theorem dX1_copyFrom_94 : decode cX1_copyFrom 94 = .ok (.putfield 36, 3) := by decide +kernel
theorem dX1_copyFrom_97 : decode cX1_copyFrom 97 = .ok (.return_, 1) := by decide +kernel
theorem dX1_umbrellaAt_0 : decode cX1_umbrellaAt 0 = .ok (.iload_n 1, 1) := by decide +kernel
theorem dX1_umbrellaAt_1 : decode cX1_umbrellaAt 1 = .ok (.ifCond .lt 20, 3) := by decide +kernel
theorem dX1_umbrellaAt_4 : decode cX1_umbrellaAt 4 = .ok (.iload_n 1, 1) := by decide +kernel
theorem dX1_umbrellaAt_5 : decode cX1_umbrellaAt 5 = .ok (.aload_n 0, 1) := by decide +kernel
theorem dX1_umbrellaAt_6 : decode cX1_umbrellaAt 6 = .ok (.getfield 17, 3) := by decide +kernel
theorem dX1_umbrellaAt_9 : decode cX1_umbrellaAt 9 = .ok (.if_icmp .ge 12, 3) := by decide +kernel
theorem dX1_umbrellaAt_12 : decode cX1_umbrellaAt 12 = .ok (.iload_n 1, 1) := by decide +kernel
theorem dX1_umbrellaAt_13 : decode cX1_umbrellaAt 13 = .ok (.aload_n 0, 1) := by decide +kernel
theorem dX1_umbrellaAt_14 : decode cX1_umbrellaAt 14 = .ok (.getfield 11, 3) := by decide +kernel
theorem dX1_umbrellaAt_17 : decode cX1_umbrellaAt 17 = .ok (.arraylength, 1) := by decide +kernel
theorem dX1_umbrellaAt_18 : decode cX1_umbrellaAt 18 = .ok (.if_icmp .lt 13, 3) := by decide +kernel
theorem dX1_umbrellaAt_21 : decode cX1_umbrellaAt 21 = .ok (.new 44, 3) := by decide +kernel
theorem dX1_umbrellaAt_24 : decode cX1_umbrellaAt 24 = .ok (.dup, 1) := by decide +kernel
theorem dX1_umbrellaAt_25 : decode cX1_umbrellaAt 25 = .ok (.ldc 46, 2) := by decide +kernel
theorem dX1_umbrellaAt_27 : decode cX1_umbrellaAt 27 = .ok (.invokespecial 48, 3) := by decide +kernel
theorem dX1_umbrellaAt_30 : decode cX1_umbrellaAt 30 = .ok (.athrow, 1) := by decide +kernel
theorem dX1_umbrellaAt_31 : decode cX1_umbrellaAt 31 = .ok (.aload_n 0, 1) := by decide +kernel
theorem dX1_umbrellaAt_32 : decode cX1_umbrellaAt 32 = .ok (.getfield 11, 3) := by decide +kernel
theorem dX1_umbrellaAt_35 : decode cX1_umbrellaAt 35 = .ok (.iload_n 1, 1) := by decide +kernel
theorem dX1_umbrellaAt_36 : decode cX1_umbrellaAt 36 = .ok (.aaload, 1) := by decide +kernel
theorem dX1_umbrellaAt_37 : decode cX1_umbrellaAt 37 = .ok (.areturn, 1) := by decide +kernel
theorem dX1_enrol_0 : decode cX1_enrol 0 = .ok (.aload_n 0, 1) := by decide +kernel
theorem dX1_enrol_1 : decode cX1_enrol 1 = .ok (.getfield 17, 3) := by decide +kernel
theorem dX1_enrol_4 : decode cX1_enrol 4 = .ok (.istore_n 2, 1) := by decide +kernel
theorem dX1_enrol_5 : decode cX1_enrol 5 = .ok (.aload_n 0, 1) := by decide +kernel
theorem dX1_enrol_6 : decode cX1_enrol 6 = .ok (.dup, 1) := by decide +kernel
theorem dX1_enrol_7 : decode cX1_enrol 7 = .ok (.getfield 17, 3) := by decide +kernel
theorem dX1_enrol_10 : decode cX1_enrol 10 = .ok (.iconst 1, 1) := by decide +kernel
theorem dX1_enrol_11 : decode cX1_enrol 11 = .ok (.iadd, 1) := by decide +kernel
theorem dX1_enrol_12 : decode cX1_enrol 12 = .ok (.putfield 17, 3) := by decide +kernel
theorem dX1_enrol_15 : decode cX1_enrol 15 = .ok (.aload_n 0, 1) := by decide +kernel
theorem dX1_enrol_16 : decode cX1_enrol 16 = .ok (.iload_n 2, 1) := by decide +kernel
theorem dX1_enrol_17 : decode cX1_enrol 17 = .ok (.invokevirtual 51, 3) := by decide +kernel
theorem dX1_enrol_20 : decode cX1_enrol 20 = .ok (.iload_n 1, 1) := by decide +kernel
theorem dX1_enrol_21 : decode cX1_enrol 21 = .ok (.putfield 55, 3) := by decide +kernel
theorem dX1_enrol_24 : decode cX1_enrol 24 = .ok (.iload_n 2, 1) := by decide +kernel
theorem dX1_enrol_25 : decode cX1_enrol 25 = .ok (.ireturn, 1) := by decide +kernel
theorem dX1_changeWet_0 : decode cX1_changeWet 0 = .ok (.aload_n 0, 1) := by decide +kernel
theorem dX1_changeWet_1 : decode cX1_changeWet 1 = .ok (.getfield 21, 3) := by decide +kernel
theorem dX1_changeWet_4 : decode cX1_changeWet 4 = .ok (.istore_n 2, 1) := by decide +kernel
theorem dX1_changeWet_5 : decode cX1_changeWet 5 = .ok (.aload_n 0, 1) := by decide +kernel
theorem dX1_changeWet_6 : decode cX1_changeWet 6 = .ok (.iload_n 1, 1) := by decide +kernel
theorem dX1_changeWet_7 : decode cX1_changeWet 7 = .ok (.putfield 21, 3) := by decide +kernel
theorem dX1_changeWet_10 : decode cX1_changeWet 10 = .ok (.iload_n 2, 1) := by decide +kernel
theorem dX1_changeWet_11 : decode cX1_changeWet 11 = .ok (.ireturn, 1) := by decide +kernel
theorem dX1_changeGale_0 : decode cX1_changeGale 0 = .ok (.aload_n 0, 1) := by decide +kernel
theorem dX1_changeGale_1 : decode cX1_changeGale 1 = .ok (.getfield 24, 3) := by decide +kernel
theorem dX1_changeGale_4 : decode cX1_changeGale 4 = .ok (.istore_n 2, 1) := by decide +kernel
theorem dX1_changeGale_5 : decode cX1_changeGale 5 = .ok (.aload_n 0, 1) := by decide +kernel
theorem dX1_changeGale_6 : decode cX1_changeGale 6 = .ok (.iload_n 1, 1) := by decide +kernel
theorem dX1_changeGale_7 : decode cX1_changeGale 7 = .ok (.putfield 24, 3) := by decide +kernel
theorem dX1_changeGale_10 : decode cX1_changeGale 10 = .ok (.iload_n 2, 1) := by decide +kernel
theorem dX1_changeGale_11 : decode cX1_changeGale 11 = .ok (.ireturn, 1) := by decide +kernel
theorem dX1_rewardFor_0 : decode cX1_rewardFor 0 = .ok (.iload_n 3, 1) := by decide +kernel
theorem dX1_rewardFor_1 : decode cX1_rewardFor 1 = .ok (.ifCond .eq 16, 3) := by decide +kernel
theorem dX1_rewardFor_4 : decode cX1_rewardFor 4 = .ok (.iconst 4, 1) := by decide +kernel
theorem dX1_rewardFor_5 : decode cX1_rewardFor 5 = .ok (.iload_n 1, 1) := by decide +kernel
theorem dX1_rewardFor_6 : decode cX1_rewardFor 6 = .ok (.imul, 1) := by decide +kernel
theorem dX1_rewardFor_7 : decode cX1_rewardFor 7 = .ok (.aload_n 0, 1) := by decide +kernel
theorem dX1_rewardFor_8 : decode cX1_rewardFor 8 = .ok (.getfield 24, 3) := by decide +kernel
theorem dX1_rewardFor_11 : decode cX1_rewardFor 11 = .ok (.iload_n 2, 1) := by decide +kernel
theorem dX1_rewardFor_12 : decode cX1_rewardFor 12 = .ok (.imul, 1) := by decide +kernel
theorem dX1_rewardFor_13 : decode cX1_rewardFor 13 = .ok (.isub, 1) := by decide +kernel
theorem dX1_rewardFor_14 : decode cX1_rewardFor 14 = .ok (.goto 10, 3) := by decide +kernel
theorem dX1_rewardFor_17 : decode cX1_rewardFor 17 = .ok (.aload_n 0, 1) := by decide +kernel
theorem dX1_rewardFor_18 : decode cX1_rewardFor 18 = .ok (.getfield 21, 3) := by decide +kernel
theorem dX1_rewardFor_21 : decode cX1_rewardFor 21 = .ok (.ineg, 1) := by decide +kernel
theorem dX1_rewardFor_22 : decode cX1_rewardFor 22 = .ok (.iload_n 1, 1) := by decide +kernel
theorem dX1_rewardFor_23 : decode cX1_rewardFor 23 = .ok (.imul, 1) := by decide +kernel
theorem dX1_rewardFor_24 : decode cX1_rewardFor 24 = .ok (.ireturn, 1) := by decide +kernel
theorem dX1_openingPays_0 : decode cX1_openingPays 0 = .ok (.aload_n 0, 1) := by decide +kernel
theorem dX1_openingPays_1 : decode cX1_openingPays 1 = .ok (.iload_n 1, 1) := by decide +kernel
theorem dX1_openingPays_2 : decode cX1_openingPays 2 = .ok (.iload_n 2, 1) := by decide +kernel
theorem dX1_openingPays_3 : decode cX1_openingPays 3 = .ok (.iconst 1, 1) := by decide +kernel
theorem dX1_openingPays_4 : decode cX1_openingPays 4 = .ok (.invokevirtual 58, 3) := by decide +kernel
theorem dX1_openingPays_7 : decode cX1_openingPays 7 = .ok (.aload_n 0, 1) := by decide +kernel
theorem dX1_openingPays_8 : decode cX1_openingPays 8 = .ok (.iload_n 1, 1) := by decide +kernel
theorem dX1_openingPays_9 : decode cX1_openingPays 9 = .ok (.iload_n 2, 1) := by decide +kernel
theorem dX1_openingPays_10 : decode cX1_openingPays 10 = .ok (.iconst 0, 1) := by decide +kernel
theorem dX1_openingPays_11 : decode cX1_openingPays 11 = .ok (.invokevirtual 58, 3) := by decide +kernel
theorem dX1_openingPays_14 : decode cX1_openingPays 14 = .ok (.if_icmp .le 7, 3) := by decide +kernel
theorem dX1_openingPays_17 : decode cX1_openingPays 17 = .ok (.iconst 1, 1) := by decide +kernel
theorem dX1_openingPays_18 : decode cX1_openingPays 18 = .ok (.goto 4, 3) := by decide +kernel
theorem dX1_openingPays_21 : decode cX1_openingPays 21 = .ok (.iconst 0, 1) := by decide +kernel
theorem dX1_openingPays_22 : decode cX1_openingPays 22 = .ok (.ireturn, 1) := by decide +kernel
theorem dX1_teach_0 : decode cX1_teach 0 = .ok (.iload_n 2, 1) := by decide +kernel
theorem dX1_teach_1 : decode cX1_teach 1 = .ok (.iload_n 3, 1) := by decide +kernel
theorem dX1_teach_2 : decode cX1_teach 2 = .ok (.invokestatic 62, 3) := by decide +kernel
theorem dX1_teach_5 : decode cX1_teach 5 = .ok (.istore 5, 2) := by decide +kernel
theorem dX1_teach_7 : decode cX1_teach 7 = .ok (.iconst 0, 1) := by decide +kernel
theorem dX1_teach_8 : decode cX1_teach 8 = .ok (.istore 6, 2) := by decide +kernel
theorem dX1_teach_10 : decode cX1_teach 10 = .ok (.iconst 0, 1) := by decide +kernel
theorem dX1_teach_11 : decode cX1_teach 11 = .ok (.istore 7, 2) := by decide +kernel
theorem dX1_teach_13 : decode cX1_teach 13 = .ok (.iload 7, 2) := by decide +kernel
theorem dX1_teach_15 : decode cX1_teach 15 = .ok (.iload 4, 2) := by decide +kernel
theorem dX1_teach_17 : decode cX1_teach 17 = .ok (.if_icmp .ge 71, 3) := by decide +kernel
theorem dX1_teach_20 : decode cX1_teach 20 = .ok (.aload_n 1, 1) := by decide +kernel
theorem dX1_teach_21 : decode cX1_teach 21 = .ok (.iload 5, 2) := by decide +kernel
theorem dX1_teach_23 : decode cX1_teach 23 = .ok (.invokevirtual 66, 3) := by decide +kernel
theorem dX1_teach_26 : decode cX1_teach 26 = .ok (.aload_n 1, 1) := by decide +kernel
theorem dX1_teach_27 : decode cX1_teach 27 = .ok (.invokevirtual 70, 3) := by decide +kernel
theorem dX1_teach_30 : decode cX1_teach 30 = .ok (.if_icmp .eq 7, 3) := by decide +kernel
theorem dX1_teach_33 : decode cX1_teach 33 = .ok (.iconst 1, 1) := by decide +kernel
theorem dX1_teach_34 : decode cX1_teach 34 = .ok (.goto 4, 3) := by decide +kernel
theorem dX1_teach_37 : decode cX1_teach 37 = .ok (.iconst 0, 1) := by decide +kernel
theorem dX1_teach_38 : decode cX1_teach 38 = .ok (.istore 8, 2) := by decide +kernel
theorem dX1_teach_40 : decode cX1_teach 40 = .ok (.aload_n 0, 1) := by decide +kernel
theorem dX1_teach_41 : decode cX1_teach 41 = .ok (.iload_n 2, 1) := by decide +kernel
theorem dX1_teach_42 : decode cX1_teach 42 = .ok (.iload_n 3, 1) := by decide +kernel
theorem dX1_teach_43 : decode cX1_teach 43 = .ok (.iload 8, 2) := by decide +kernel
theorem dX1_teach_45 : decode cX1_teach 45 = .ok (.invokevirtual 58, 3) := by decide +kernel
theorem dX1_teach_48 : decode cX1_teach 48 = .ok (.istore 9, 2) := by decide +kernel
theorem dX1_teach_50 : decode cX1_teach 50 = .ok (.aload_n 1, 1) := by decide +kernel
theorem dX1_teach_51 : decode cX1_teach 51 = .ok (.invokevirtual 74, 3) := by decide +kernel
theorem dX1_teach_54 : decode cX1_teach 54 = .ok (.aload_n 1, 1) := by decide +kernel
theorem dX1_teach_55 : decode cX1_teach 55 = .ok (.iload 5, 2) := by decide +kernel
theorem dX1_teach_57 : decode cX1_teach 57 = .ok (.iload 8, 2) := by decide +kernel
theorem dX1_teach_59 : decode cX1_teach 59 = .ok (.invokestatic 77, 3) := by decide +kernel
theorem dX1_teach_62 : decode cX1_teach 62 = .ok (.iload 9, 2) := by decide +kernel
theorem dX1_teach_64 : decode cX1_teach 64 = .ok (.invokevirtual 81, 3) := by decide +kernel
theorem dX1_teach_67 : decode cX1_teach 67 = .ok (.aload_n 0, 1) := by decide +kernel
theorem dX1_teach_68 : decode cX1_teach 68 = .ok (.iload 8, 2) := by decide +kernel
theorem dX1_teach_70 : decode cX1_teach 70 = .ok (.iload 9, 2) := by decide +kernel
theorem dX1_teach_72 : decode cX1_teach 72 = .ok (.invokevirtual 85, 3) := by decide +kernel
theorem dX1_teach_75 : decode cX1_teach 75 = .ok (.iload 6, 2) := by decide +kernel
theorem dX1_teach_77 : decode cX1_teach 77 = .ok (.iload 9, 2) := by decide +kernel
theorem dX1_teach_79 : decode cX1_teach 79 = .ok (.iadd, 1) := by decide +kernel
theorem dX1_teach_80 : decode cX1_teach 80 = .ok (.istore 6, 2) := by decide +kernel
theorem dX1_teach_82 : decode cX1_teach 82 = .ok (.iinc 7 1, 3) := by decide +kernel
theorem dX1_teach_85 : decode cX1_teach 85 = .ok (.goto (-72), 3) := by decide +kernel
theorem dX1_teach_88 : decode cX1_teach 88 = .ok (.iload 6, 2) := by decide +kernel
theorem dX1_teach_90 : decode cX1_teach 90 = .ok (.ireturn, 1) := by decide +kernel
theorem dX1_enterReward_0 : decode cX1_enterReward 0 = .ok (.iload_n 1, 1) := by decide +kernel
theorem dX1_enterReward_1 : decode cX1_enterReward 1 = .ok (.ifCond .eq 26, 3) := by decide +kernel
theorem dX1_enterReward_4 : decode cX1_enterReward 4 = .ok (.aload_n 0, 1) := by decide +kernel
theorem dX1_enterReward_5 : decode cX1_enterReward 5 = .ok (.dup, 1) := by decide +kernel
theorem dX1_enterReward_6 : decode cX1_enterReward 6 = .ok (.getfield 30, 3) := by decide +kernel
theorem dX1_enterReward_9 : decode cX1_enterReward 9 = .ok (.iconst 1, 1) := by decide +kernel
theorem dX1_enterReward_10 : decode cX1_enterReward 10 = .ok (.iadd, 1) := by decide +kernel
theorem dX1_enterReward_11 : decode cX1_enterReward 11 = .ok (.putfield 30, 3) := by decide +kernel
theorem dX1_enterReward_14 : decode cX1_enterReward 14 = .ok (.aload_n 0, 1) := by decide +kernel
theorem dX1_enterReward_15 : decode cX1_enterReward 15 = .ok (.dup, 1) := by decide +kernel
theorem dX1_enterReward_16 : decode cX1_enterReward 16 = .ok (.getfield 33, 3) := by decide +kernel
theorem dX1_enterReward_19 : decode cX1_enterReward 19 = .ok (.iload_n 2, 1) := by decide +kernel
theorem dX1_enterReward_20 : decode cX1_enterReward 20 = .ok (.iadd, 1) := by decide +kernel
theorem dX1_enterReward_21 : decode cX1_enterReward 21 = .ok (.putfield 33, 3) := by decide +kernel
theorem dX1_enterReward_24 : decode cX1_enterReward 24 = .ok (.goto 13, 3) := by decide +kernel
theorem dX1_enterReward_27 : decode cX1_enterReward 27 = .ok (.aload_n 0, 1) := by decide +kernel
theorem dX1_enterReward_28 : decode cX1_enterReward 28 = .ok (.dup, 1) := by decide +kernel
theorem dX1_enterReward_29 : decode cX1_enterReward 29 = .ok (.getfield 36, 3) := by decide +kernel
theorem dX1_enterReward_32 : decode cX1_enterReward 32 = .ok (.iload_n 2, 1) := by decide +kernel
theorem dX1_enterReward_33 : decode cX1_enterReward 33 = .ok (.iadd, 1) := by decide +kernel
theorem dX1_enterReward_34 : decode cX1_enterReward 34 = .ok (.putfield 36, 3) := by decide +kernel
theorem dX1_enterReward_37 : decode cX1_enterReward 37 = .ok (.return_, 1) := by decide +kernel
theorem dX1_holdExam_0 : decode cX1_holdExam 0 = .ok (.aload_n 0, 1) := by decide +kernel
theorem dX1_holdExam_1 : decode cX1_holdExam 1 = .ok (.aload_n 1, 1) := by decide +kernel
theorem dX1_holdExam_2 : decode cX1_holdExam 2 = .ok (.iload_n 2, 1) := by decide +kernel
theorem dX1_holdExam_3 : decode cX1_holdExam 3 = .ok (.invokevirtual 89, 3) := by decide +kernel
theorem dX1_holdExam_6 : decode cX1_holdExam 6 = .ok (.istore_n 3, 1) := by decide +kernel
theorem dX1_holdExam_7 : decode cX1_holdExam 7 = .ok (.aload_n 1, 1) := by decide +kernel
theorem dX1_holdExam_8 : decode cX1_holdExam 8 = .ok (.iload_n 2, 1) := by decide +kernel
theorem dX1_holdExam_9 : decode cX1_holdExam 9 = .ok (.iload_n 3, 1) := by decide +kernel
theorem dX1_holdExam_10 : decode cX1_holdExam 10 = .ok (.iconst 3, 1) := by decide +kernel
theorem dX1_holdExam_11 : decode cX1_holdExam 11 = .ok (.if_icmp .lt 7, 3) := by decide +kernel
theorem dX1_holdExam_14 : decode cX1_holdExam 14 = .ok (.iconst 1, 1) := by decide +kernel
theorem dX1_holdExam_15 : decode cX1_holdExam 15 = .ok (.goto 4, 3) := by decide +kernel
theorem dX1_holdExam_18 : decode cX1_holdExam 18 = .ok (.iconst 0, 1) := by decide +kernel
theorem dX1_holdExam_19 : decode cX1_holdExam 19 = .ok (.invokevirtual 93, 3) := by decide +kernel
theorem dX1_holdExam_22 : decode cX1_holdExam 22 = .ok (.iload_n 3, 1) := by decide +kernel
theorem dX1_holdExam_23 : decode cX1_holdExam 23 = .ok (.ireturn, 1) := by decide +kernel
theorem dX1_rightAnswers_0 : decode cX1_rightAnswers 0 = .ok (.iconst 0, 1) := by decide +kernel
theorem dX1_rightAnswers_1 : decode cX1_rightAnswers 1 = .ok (.istore_n 3, 1) := by decide +kernel
theorem dX1_rightAnswers_2 : decode cX1_rightAnswers 2 = .ok (.iconst 0, 1) := by decide +kernel
theorem dX1_rightAnswers_3 : decode cX1_rightAnswers 3 = .ok (.istore 4, 2) := by decide +kernel
theorem dX1_rightAnswers_5 : decode cX1_rightAnswers 5 = .ok (.iload 4, 2) := by decide +kernel
theorem dX1_rightAnswers_7 : decode cX1_rightAnswers 7 = .ok (.iconst 4, 1) := by decide +kernel
theorem dX1_rightAnswers_8 : decode cX1_rightAnswers 8 = .ok (.if_icmp .ge 32, 3) := by decide +kernel
theorem dX1_rightAnswers_11 : decode cX1_rightAnswers 11 = .ok (.aload_n 1, 1) := by decide +kernel
theorem dX1_rightAnswers_12 : decode cX1_rightAnswers 12 = .ok (.iload 4, 2) := by decide +kernel
theorem dX1_rightAnswers_14 : decode cX1_rightAnswers 14 = .ok (.iload_n 2, 1) := by decide +kernel
theorem dX1_rightAnswers_15 : decode cX1_rightAnswers 15 = .ok (.invokestatic 62, 3) := by decide +kernel
theorem dX1_rightAnswers_18 : decode cX1_rightAnswers 18 = .ok (.invokevirtual 66, 3) := by decide +kernel
theorem dX1_rightAnswers_21 : decode cX1_rightAnswers 21 = .ok (.aload_n 0, 1) := by decide +kernel
theorem dX1_rightAnswers_22 : decode cX1_rightAnswers 22 = .ok (.iload 4, 2) := by decide +kernel
theorem dX1_rightAnswers_24 : decode cX1_rightAnswers 24 = .ok (.iload_n 2, 1) := by decide +kernel
theorem dX1_rightAnswers_25 : decode cX1_rightAnswers 25 = .ok (.invokevirtual 97, 3) := by decide +kernel
theorem dX1_rightAnswers_28 : decode cX1_rightAnswers 28 = .ok (.if_icmp .ne 6, 3) := by decide +kernel
theorem dX1_rightAnswers_31 : decode cX1_rightAnswers 31 = .ok (.iinc 3 1, 3) := by decide +kernel
theorem dX1_rightAnswers_34 : decode cX1_rightAnswers 34 = .ok (.iinc 4 1, 3) := by decide +kernel
theorem dX1_rightAnswers_37 : decode cX1_rightAnswers 37 = .ok (.goto (-32), 3) := by decide +kernel
theorem dX1_rightAnswers_40 : decode cX1_rightAnswers 40 = .ok (.iload_n 3, 1) := by decide +kernel
theorem dX1_rightAnswers_41 : decode cX1_rightAnswers 41 = .ok (.ireturn, 1) := by decide +kernel
theorem dX1_closeTerm_0 : decode cX1_closeTerm 0 = .ok (.iconst 0, 1) := by decide +kernel
theorem dX1_closeTerm_1 : decode cX1_closeTerm 1 = .ok (.istore_n 1, 1) := by decide +kernel
theorem dX1_closeTerm_2 : decode cX1_closeTerm 2 = .ok (.iconst 1, 1) := by decide +kernel
theorem dX1_closeTerm_3 : decode cX1_closeTerm 3 = .ok (.istore_n 2, 1) := by decide +kernel
theorem dX1_closeTerm_4 : decode cX1_closeTerm 4 = .ok (.iload_n 2, 1) := by decide +kernel
theorem dX1_closeTerm_5 : decode cX1_closeTerm 5 = .ok (.aload_n 0, 1) := by decide +kernel
theorem dX1_closeTerm_6 : decode cX1_closeTerm 6 = .ok (.getfield 17, 3) := by decide +kernel
theorem dX1_closeTerm_9 : decode cX1_closeTerm 9 = .ok (.if_icmp .ge 30, 3) := by decide +kernel
theorem dX1_closeTerm_12 : decode cX1_closeTerm 12 = .ok (.aload_n 0, 1) := by decide +kernel
theorem dX1_closeTerm_13 : decode cX1_closeTerm 13 = .ok (.iload_n 2, 1) := by decide +kernel
theorem dX1_closeTerm_14 : decode cX1_closeTerm 14 = .ok (.invokevirtual 51, 3) := by decide +kernel
theorem dX1_closeTerm_17 : decode cX1_closeTerm 17 = .ok (.getfield 101, 3) := by decide +kernel
theorem dX1_closeTerm_20 : decode cX1_closeTerm 20 = .ok (.aload_n 0, 1) := by decide +kernel
theorem dX1_closeTerm_21 : decode cX1_closeTerm 21 = .ok (.iload_n 1, 1) := by decide +kernel
theorem dX1_closeTerm_22 : decode cX1_closeTerm 22 = .ok (.invokevirtual 51, 3) := by decide +kernel
theorem dX1_closeTerm_25 : decode cX1_closeTerm 25 = .ok (.getfield 101, 3) := by decide +kernel
theorem dX1_closeTerm_28 : decode cX1_closeTerm 28 = .ok (.if_icmp .le 5, 3) := by decide +kernel
theorem dX1_closeTerm_31 : decode cX1_closeTerm 31 = .ok (.iload_n 2, 1) := by decide +kernel
theorem dX1_closeTerm_32 : decode cX1_closeTerm 32 = .ok (.istore_n 1, 1) := by decide +kernel
theorem dX1_closeTerm_33 : decode cX1_closeTerm 33 = .ok (.iinc 2 1, 3) := by decide +kernel
theorem dX1_closeTerm_36 : decode cX1_closeTerm 36 = .ok (.goto (-32), 3) := by decide +kernel
theorem dX1_closeTerm_39 : decode cX1_closeTerm 39 = .ok (.aload_n 0, 1) := by decide +kernel
theorem dX1_closeTerm_40 : decode cX1_closeTerm 40 = .ok (.iload_n 1, 1) := by decide +kernel
theorem dX1_closeTerm_41 : decode cX1_closeTerm 41 = .ok (.invokevirtual 51, 3) := by decide +kernel
theorem dX1_closeTerm_44 : decode cX1_closeTerm 44 = .ok (.dup, 1) := by decide +kernel
theorem dX1_closeTerm_45 : decode cX1_closeTerm 45 = .ok (.getfield 104, 3) := by decide +kernel
theorem dX1_closeTerm_48 : decode cX1_closeTerm 48 = .ok (.iconst 1, 1) := by decide +kernel
theorem dX1_closeTerm_49 : decode cX1_closeTerm 49 = .ok (.iadd, 1) := by decide +kernel
theorem dX1_closeTerm_50 : decode cX1_closeTerm 50 = .ok (.putfield 104, 3) := by decide +kernel
theorem dX1_closeTerm_53 : decode cX1_closeTerm 53 = .ok (.iconst 0, 1) := by decide +kernel
theorem dX1_closeTerm_54 : decode cX1_closeTerm 54 = .ok (.istore_n 2, 1) := by decide +kernel
theorem dX1_closeTerm_55 : decode cX1_closeTerm 55 = .ok (.iload_n 2, 1) := by decide +kernel
theorem dX1_closeTerm_56 : decode cX1_closeTerm 56 = .ok (.aload_n 0, 1) := by decide +kernel
theorem dX1_closeTerm_57 : decode cX1_closeTerm 57 = .ok (.getfield 17, 3) := by decide +kernel
theorem dX1_closeTerm_60 : decode cX1_closeTerm 60 = .ok (.if_icmp .ge 18, 3) := by decide +kernel
theorem dX1_closeTerm_63 : decode cX1_closeTerm 63 = .ok (.aload_n 0, 1) := by decide +kernel
theorem dX1_closeTerm_64 : decode cX1_closeTerm 64 = .ok (.iload_n 2, 1) := by decide +kernel
theorem dX1_closeTerm_65 : decode cX1_closeTerm 65 = .ok (.invokevirtual 51, 3) := by decide +kernel
theorem dX1_closeTerm_68 : decode cX1_closeTerm 68 = .ok (.iconst 0, 1) := by decide +kernel
theorem dX1_closeTerm_69 : decode cX1_closeTerm 69 = .ok (.putfield 101, 3) := by decide +kernel
theorem dX1_closeTerm_72 : decode cX1_closeTerm 72 = .ok (.iinc 2 1, 3) := by decide +kernel
theorem dX1_closeTerm_75 : decode cX1_closeTerm 75 = .ok (.goto (-20), 3) := by decide +kernel
theorem dX1_closeTerm_78 : decode cX1_closeTerm 78 = .ok (.aload_n 0, 1) := by decide +kernel
theorem dX1_closeTerm_79 : decode cX1_closeTerm 79 = .ok (.dup, 1) := by decide +kernel
theorem dX1_closeTerm_80 : decode cX1_closeTerm 80 = .ok (.getfield 27, 3) := by decide +kernel
theorem dX1_closeTerm_83 : decode cX1_closeTerm 83 = .ok (.iconst 1, 1) := by decide +kernel
theorem dX1_closeTerm_84 : decode cX1_closeTerm 84 = .ok (.iadd, 1) := by decide +kernel
theorem dX1_closeTerm_85 : decode cX1_closeTerm 85 = .ok (.putfield 27, 3) := by decide +kernel
theorem dX1_closeTerm_88 : decode cX1_closeTerm 88 = .ok (.iload_n 1, 1) := by decide +kernel
theorem dX1_closeTerm_89 : decode cX1_closeTerm 89 = .ok (.ireturn, 1) := by decide +kernel
theorem dX1_umbrellaAtRank_0 : decode cX1_umbrellaAtRank 0 = .ok (.iconst 0, 1) := by decide +kernel
theorem dX1_umbrellaAtRank_1 : decode cX1_umbrellaAtRank 1 = .ok (.istore_n 2, 1) := by decide +kernel
theorem dX1_umbrellaAtRank_2 : decode cX1_umbrellaAtRank 2 = .ok (.iload_n 2, 1) := by decide +kernel
theorem dX1_umbrellaAtRank_3 : decode cX1_umbrellaAtRank 3 = .ok (.aload_n 0, 1) := by decide +kernel
theorem dX1_umbrellaAtRank_4 : decode cX1_umbrellaAtRank 4 = .ok (.getfield 17, 3) := by decide +kernel
theorem dX1_umbrellaAtRank_7 : decode cX1_umbrellaAtRank 7 = .ok (.if_icmp .ge 20, 3) := by decide +kernel
theorem dX1_umbrellaAtRank_10 : decode cX1_umbrellaAtRank 10 = .ok (.aload_n 0, 1) := by decide +kernel
theorem dX1_umbrellaAtRank_11 : decode cX1_umbrellaAtRank 11 = .ok (.iload_n 2, 1) := by decide +kernel
theorem dX1_umbrellaAtRank_12 : decode cX1_umbrellaAtRank 12 = .ok (.invokevirtual 107, 3) := by decide +kernel
theorem dX1_umbrellaAtRank_15 : decode cX1_umbrellaAtRank 15 = .ok (.iload_n 1, 1) := by decide +kernel
theorem dX1_umbrellaAtRank_16 : decode cX1_umbrellaAtRank 16 = .ok (.if_icmp .ne 5, 3) := by decide +kernel
theorem dX1_umbrellaAtRank_19 : decode cX1_umbrellaAtRank 19 = .ok (.iload_n 2, 1) := by decide +kernel
theorem dX1_umbrellaAtRank_20 : decode cX1_umbrellaAtRank 20 = .ok (.ireturn, 1) := by decide +kernel
theorem dX1_umbrellaAtRank_21 : decode cX1_umbrellaAtRank 21 = .ok (.iinc 2 1, 3) := by decide +kernel
theorem dX1_umbrellaAtRank_24 : decode cX1_umbrellaAtRank 24 = .ok (.goto (-22), 3) := by decide +kernel
theorem dX1_umbrellaAtRank_27 : decode cX1_umbrellaAtRank 27 = .ok (.iconst (-1), 1) := by decide +kernel
theorem dX1_umbrellaAtRank_28 : decode cX1_umbrellaAtRank 28 = .ok (.ireturn, 1) := by decide +kernel
theorem dX1_umbrellasBefore_0 : decode cX1_umbrellasBefore 0 = .ok (.aload_n 0, 1) := by decide +kernel
theorem dX1_umbrellasBefore_1 : decode cX1_umbrellasBefore 1 = .ok (.iload_n 1, 1) := by decide +kernel
theorem dX1_umbrellasBefore_2 : decode cX1_umbrellasBefore 2 = .ok (.invokevirtual 51, 3) := by decide +kernel
theorem dX1_umbrellasBefore_5 : decode cX1_umbrellasBefore 5 = .ok (.astore_n 2, 1) := by decide +kernel
theorem dX1_umbrellasBefore_6 : decode cX1_umbrellasBefore 6 = .ok (.iconst 0, 1) := by decide +kernel
theorem dX1_umbrellasBefore_7 : decode cX1_umbrellasBefore 7 = .ok (.istore_n 3, 1) := by decide +kernel
theorem dX1_umbrellasBefore_8 : decode cX1_umbrellasBefore 8 = .ok (.iconst 0, 1) := by decide +kernel
theorem dX1_umbrellasBefore_9 : decode cX1_umbrellasBefore 9 = .ok (.istore 4, 2) := by decide +kernel
theorem dX1_umbrellasBefore_11 : decode cX1_umbrellasBefore 11 = .ok (.iload 4, 2) := by decide +kernel
theorem dX1_umbrellasBefore_13 : decode cX1_umbrellasBefore 13 = .ok (.aload_n 0, 1) := by decide +kernel
theorem dX1_umbrellasBefore_14 : decode cX1_umbrellasBefore 14 = .ok (.getfield 17, 3) := by decide +kernel
theorem dX1_umbrellasBefore_17 : decode cX1_umbrellasBefore 17 = .ok (.if_icmp .ge 44, 3) := by decide +kernel
theorem dX1_umbrellasBefore_20 : decode cX1_umbrellasBefore 20 = .ok (.aload_n 0, 1) := by decide +kernel
theorem dX1_umbrellasBefore_21 : decode cX1_umbrellasBefore 21 = .ok (.iload 4, 2) := by decide +kernel
theorem dX1_umbrellasBefore_23 : decode cX1_umbrellasBefore 23 = .ok (.invokevirtual 51, 3) := by decide +kernel
theorem dX1_umbrellasBefore_26 : decode cX1_umbrellasBefore 26 = .ok (.astore 5, 2) := by decide +kernel
theorem dX1_umbrellasBefore_28 : decode cX1_umbrellasBefore 28 = .ok (.aload 5, 2) := by decide +kernel
theorem dX1_umbrellasBefore_30 : decode cX1_umbrellasBefore 30 = .ok (.aload_n 2, 1) := by decide +kernel
theorem dX1_umbrellasBefore_31 : decode cX1_umbrellasBefore 31 = .ok (.invokevirtual 111, 3) := by decide +kernel
theorem dX1_umbrellasBefore_34 : decode cX1_umbrellasBefore 34 = .ok (.ifCond .ne 18, 3) := by decide +kernel
theorem dX1_umbrellasBefore_37 : decode cX1_umbrellasBefore 37 = .ok (.iload 4, 2) := by decide +kernel
theorem dX1_umbrellasBefore_39 : decode cX1_umbrellasBefore 39 = .ok (.iload_n 1, 1) := by decide +kernel
theorem dX1_umbrellasBefore_40 : decode cX1_umbrellasBefore 40 = .ok (.if_icmp .ge 15, 3) := by decide +kernel
theorem dX1_umbrellasBefore_43 : decode cX1_umbrellasBefore 43 = .ok (.aload_n 2, 1) := by decide +kernel
theorem dX1_umbrellasBefore_44 : decode cX1_umbrellasBefore 44 = .ok (.aload 5, 2) := by decide +kernel
theorem dX1_umbrellasBefore_46 : decode cX1_umbrellasBefore 46 = .ok (.invokevirtual 111, 3) := by decide +kernel
theorem dX1_umbrellasBefore_49 : decode cX1_umbrellasBefore 49 = .ok (.ifCond .ne 6, 3) := by decide +kernel
theorem dX1_umbrellasBefore_52 : decode cX1_umbrellasBefore 52 = .ok (.iinc 3 1, 3) := by decide +kernel
theorem dX1_umbrellasBefore_55 : decode cX1_umbrellasBefore 55 = .ok (.iinc 4 1, 3) := by decide +kernel
theorem dX1_umbrellasBefore_58 : decode cX1_umbrellasBefore 58 = .ok (.goto (-47), 3) := by decide +kernel
theorem dX1_umbrellasBefore_61 : decode cX1_umbrellasBefore 61 = .ok (.iload_n 3, 1) := by decide +kernel
theorem dX1_umbrellasBefore_62 : decode cX1_umbrellasBefore 62 = .ok (.ireturn, 1) := by decide +kernel
theorem dX1_rewardByUmbrellas_0 : decode cX1_rewardByUmbrellas 0 = .ok (.iconst 0, 1) := by decide +kernel
theorem dX1_rewardByUmbrellas_1 : decode cX1_rewardByUmbrellas 1 = .ok (.istore_n 1, 1) := by decide +kernel
theorem dX1_rewardByUmbrellas_2 : decode cX1_rewardByUmbrellas 2 = .ok (.iconst 0, 1) := by decide +kernel
theorem dX1_rewardByUmbrellas_3 : decode cX1_rewardByUmbrellas 3 = .ok (.istore_n 2, 1) := by decide +kernel
theorem dX1_rewardByUmbrellas_4 : decode cX1_rewardByUmbrellas 4 = .ok (.iload_n 2, 1) := by decide +kernel
theorem dX1_rewardByUmbrellas_5 : decode cX1_rewardByUmbrellas 5 = .ok (.aload_n 0, 1) := by decide +kernel
theorem dX1_rewardByUmbrellas_6 : decode cX1_rewardByUmbrellas 6 = .ok (.getfield 17, 3) := by decide +kernel
theorem dX1_rewardByUmbrellas_9 : decode cX1_rewardByUmbrellas 9 = .ok (.if_icmp .ge 20, 3) := by decide +kernel
theorem dX1_rewardByUmbrellas_12 : decode cX1_rewardByUmbrellas 12 = .ok (.iload_n 1, 1) := by decide +kernel
theorem dX1_rewardByUmbrellas_13 : decode cX1_rewardByUmbrellas 13 = .ok (.aload_n 0, 1) := by decide +kernel
theorem dX1_rewardByUmbrellas_14 : decode cX1_rewardByUmbrellas 14 = .ok (.iload_n 2, 1) := by decide +kernel
theorem dX1_rewardByUmbrellas_15 : decode cX1_rewardByUmbrellas 15 = .ok (.invokevirtual 51, 3) := by decide +kernel
theorem dX1_rewardByUmbrellas_18 : decode cX1_rewardByUmbrellas 18 = .ok (.getfield 115, 3) := by decide +kernel
theorem dX1_rewardByUmbrellas_21 : decode cX1_rewardByUmbrellas 21 = .ok (.iadd, 1) := by decide +kernel
theorem dX1_rewardByUmbrellas_22 : decode cX1_rewardByUmbrellas 22 = .ok (.istore_n 1, 1) := by decide +kernel
theorem dX1_rewardByUmbrellas_23 : decode cX1_rewardByUmbrellas 23 = .ok (.iinc 2 1, 3) := by decide +kernel
theorem dX1_rewardByUmbrellas_26 : decode cX1_rewardByUmbrellas 26 = .ok (.goto (-22), 3) := by decide +kernel
theorem dX1_rewardByUmbrellas_29 : decode cX1_rewardByUmbrellas 29 = .ok (.iload_n 1, 1) := by decide +kernel
theorem dX1_rewardByUmbrellas_30 : decode cX1_rewardByUmbrellas 30 = .ok (.ireturn, 1) := by decide +kernel
theorem dX1_rewardByActions_0 : decode cX1_rewardByActions 0 = .ok (.aload_n 0, 1) := by decide +kernel
theorem dX1_rewardByActions_1 : decode cX1_rewardByActions 1 = .ok (.getfield 33, 3) := by decide +kernel
theorem dX1_rewardByActions_4 : decode cX1_rewardByActions 4 = .ok (.aload_n 0, 1) := by decide +kernel
theorem dX1_rewardByActions_5 : decode cX1_rewardByActions 5 = .ok (.getfield 36, 3) := by decide +kernel
theorem dX1_rewardByActions_8 : decode cX1_rewardByActions 8 = .ok (.iadd, 1) := by decide +kernel
theorem dX1_rewardByActions_9 : decode cX1_rewardByActions 9 = .ok (.ireturn, 1) := by decide +kernel
theorem dX1_countTrials_0 : decode cX1_countTrials 0 = .ok (.iconst 0, 1) := by decide +kernel
theorem dX1_countTrials_1 : decode cX1_countTrials 1 = .ok (.istore_n 1, 1) := by decide +kernel
theorem dX1_countTrials_2 : decode cX1_countTrials 2 = .ok (.iconst 0, 1) := by decide +kernel
theorem dX1_countTrials_3 : decode cX1_countTrials 3 = .ok (.istore_n 2, 1) := by decide +kernel
theorem dX1_countTrials_4 : decode cX1_countTrials 4 = .ok (.iload_n 2, 1) := by decide +kernel
theorem dX1_countTrials_5 : decode cX1_countTrials 5 = .ok (.aload_n 0, 1) := by decide +kernel
theorem dX1_countTrials_6 : decode cX1_countTrials 6 = .ok (.getfield 17, 3) := by decide +kernel
theorem dX1_countTrials_9 : decode cX1_countTrials 9 = .ok (.if_icmp .ge 20, 3) := by decide +kernel
theorem dX1_countTrials_12 : decode cX1_countTrials 12 = .ok (.iload_n 1, 1) := by decide +kernel
theorem dX1_countTrials_13 : decode cX1_countTrials 13 = .ok (.aload_n 0, 1) := by decide +kernel
theorem dX1_countTrials_14 : decode cX1_countTrials 14 = .ok (.iload_n 2, 1) := by decide +kernel
theorem dX1_countTrials_15 : decode cX1_countTrials 15 = .ok (.invokevirtual 51, 3) := by decide +kernel
theorem dX1_countTrials_18 : decode cX1_countTrials 18 = .ok (.getfield 118, 3) := by decide +kernel
theorem dX1_countTrials_21 : decode cX1_countTrials 21 = .ok (.iadd, 1) := by decide +kernel
theorem dX1_countTrials_22 : decode cX1_countTrials 22 = .ok (.istore_n 1, 1) := by decide +kernel
theorem dX1_countTrials_23 : decode cX1_countTrials 23 = .ok (.iinc 2 1, 3) := by decide +kernel
theorem dX1_countTrials_26 : decode cX1_countTrials 26 = .ok (.goto (-22), 3) := by decide +kernel
theorem dX1_countTrials_29 : decode cX1_countTrials 29 = .ok (.iload_n 1, 1) := by decide +kernel
theorem dX1_countTrials_30 : decode cX1_countTrials 30 = .ok (.ireturn, 1) := by decide +kernel
theorem dX1_agrees_0 : decode cX1_agrees 0 = .ok (.iconst 0, 1) := by decide +kernel
theorem dX1_agrees_1 : decode cX1_agrees 1 = .ok (.istore_n 1, 1) := by decide +kernel
theorem dX1_agrees_2 : decode cX1_agrees 2 = .ok (.iconst 0, 1) := by decide +kernel
theorem dX1_agrees_3 : decode cX1_agrees 3 = .ok (.istore_n 2, 1) := by decide +kernel
theorem dX1_agrees_4 : decode cX1_agrees 4 = .ok (.iload_n 2, 1) := by decide +kernel
theorem dX1_agrees_5 : decode cX1_agrees 5 = .ok (.aload_n 0, 1) := by decide +kernel
theorem dX1_agrees_6 : decode cX1_agrees 6 = .ok (.getfield 17, 3) := by decide +kernel
theorem dX1_agrees_9 : decode cX1_agrees 9 = .ok (.if_icmp .ge 42, 3) := by decide +kernel
theorem dX1_agrees_12 : decode cX1_agrees 12 = .ok (.aload_n 0, 1) := by decide +kernel
theorem dX1_agrees_13 : decode cX1_agrees 13 = .ok (.iload_n 2, 1) := by decide +kernel
theorem dX1_agrees_14 : decode cX1_agrees 14 = .ok (.invokevirtual 51, 3) := by decide +kernel
theorem dX1_agrees_17 : decode cX1_agrees 17 = .ok (.astore_n 3, 1) := by decide +kernel
theorem dX1_agrees_18 : decode cX1_agrees 18 = .ok (.aload_n 3, 1) := by decide +kernel
theorem dX1_agrees_19 : decode cX1_agrees 19 = .ok (.getfield 121, 3) := by decide +kernel
theorem dX1_agrees_22 : decode cX1_agrees 22 = .ok (.aload_n 3, 1) := by decide +kernel
theorem dX1_agrees_23 : decode cX1_agrees 23 = .ok (.getfield 55, 3) := by decide +kernel
theorem dX1_agrees_26 : decode cX1_agrees 26 = .ok (.if_icmp .gt 10, 3) := by decide +kernel
theorem dX1_agrees_29 : decode cX1_agrees 29 = .ok (.aload_n 3, 1) := by decide +kernel
theorem dX1_agrees_30 : decode cX1_agrees 30 = .ok (.invokevirtual 124, 3) := by decide +kernel
theorem dX1_agrees_33 : decode cX1_agrees 33 = .ok (.ifCond .ne 5, 3) := by decide +kernel
theorem dX1_agrees_36 : decode cX1_agrees 36 = .ok (.iconst 0, 1) := by decide +kernel
theorem dX1_agrees_37 : decode cX1_agrees 37 = .ok (.ireturn, 1) := by decide +kernel
theorem dX1_agrees_38 : decode cX1_agrees 38 = .ok (.iload_n 1, 1) := by decide +kernel
theorem dX1_agrees_39 : decode cX1_agrees 39 = .ok (.aload_n 3, 1) := by decide +kernel
theorem dX1_agrees_40 : decode cX1_agrees 40 = .ok (.getfield 104, 3) := by decide +kernel
theorem dX1_agrees_43 : decode cX1_agrees 43 = .ok (.iadd, 1) := by decide +kernel
theorem dX1_agrees_44 : decode cX1_agrees 44 = .ok (.istore_n 1, 1) := by decide +kernel
theorem dX1_agrees_45 : decode cX1_agrees 45 = .ok (.iinc 2 1, 3) := by decide +kernel
theorem dX1_agrees_48 : decode cX1_agrees 48 = .ok (.goto (-44), 3) := by decide +kernel
theorem dX1_agrees_51 : decode cX1_agrees 51 = .ok (.iload_n 1, 1) := by decide +kernel
theorem dX1_agrees_52 : decode cX1_agrees 52 = .ok (.aload_n 0, 1) := by decide +kernel
theorem dX1_agrees_53 : decode cX1_agrees 53 = .ok (.getfield 27, 3) := by decide +kernel
theorem dX1_agrees_56 : decode cX1_agrees 56 = .ok (.if_icmp .ne 18, 3) := by decide +kernel
theorem dX1_agrees_59 : decode cX1_agrees 59 = .ok (.aload_n 0, 1) := by decide +kernel
theorem dX1_agrees_60 : decode cX1_agrees 60 = .ok (.invokevirtual 127, 3) := by decide +kernel
theorem dX1_agrees_63 : decode cX1_agrees 63 = .ok (.aload_n 0, 1) := by decide +kernel
theorem dX1_agrees_64 : decode cX1_agrees 64 = .ok (.invokevirtual 131, 3) := by decide +kernel
theorem dX1_agrees_67 : decode cX1_agrees 67 = .ok (.if_icmp .ne 7, 3) := by decide +kernel
theorem dX1_agrees_70 : decode cX1_agrees 70 = .ok (.iconst 1, 1) := by decide +kernel
theorem dX1_agrees_71 : decode cX1_agrees 71 = .ok (.goto 4, 3) := by decide +kernel
theorem dX1_agrees_74 : decode cX1_agrees 74 = .ok (.iconst 0, 1) := by decide +kernel
theorem dX1_agrees_75 : decode cX1_agrees 75 = .ok (.ireturn, 1) := by decide +kernel
theorem dX4_init_0 : decode cX4_init 0 = .ok (.aload_n 0, 1) := by decide +kernel
theorem dX4_init_1 : decode cX4_init 1 = .ok (.invokespecial 3, 3) := by decide +kernel
theorem dX4_init_4 : decode cX4_init 4 = .ok (.aload_n 0, 1) := by decide +kernel
theorem dX4_init_5 : decode cX4_init 5 = .ok (.bipush 20, 2) := by decide +kernel
theorem dX4_init_7 : decode cX4_init 7 = .ok (.newarray .int, 2) := by decide +kernel
theorem dX4_init_9 : decode cX4_init 9 = .ok (.putfield 9, 3) := by decide +kernel
theorem dX4_init_12 : decode cX4_init 12 = .ok (.aload_n 0, 1) := by decide +kernel
theorem dX4_init_13 : decode cX4_init 13 = .ok (.bipush 20, 2) := by decide +kernel
theorem dX4_init_15 : decode cX4_init 15 = .ok (.newarray .int, 2) := by decide +kernel
theorem dX4_init_17 : decode cX4_init 17 = .ok (.putfield 15, 3) := by decide +kernel
theorem dX4_init_20 : decode cX4_init 20 = .ok (.aload_n 0, 1) := by decide +kernel
theorem dX4_init_21 : decode cX4_init 21 = .ok (.bipush 32, 2) := by decide +kernel
theorem dX4_init_23 : decode cX4_init 23 = .ok (.newarray .int, 2) := by decide +kernel
theorem dX4_init_25 : decode cX4_init 25 = .ok (.putfield 18, 3) := by decide +kernel
theorem dX4_init_28 : decode cX4_init 28 = .ok (.aload_n 0, 1) := by decide +kernel
theorem dX4_init_29 : decode cX4_init 29 = .ok (.bipush 32, 2) := by decide +kernel
theorem dX4_init_31 : decode cX4_init 31 = .ok (.newarray .int, 2) := by decide +kernel
theorem dX4_init_33 : decode cX4_init 33 = .ok (.putfield 21, 3) := by decide +kernel
theorem dX4_init_36 : decode cX4_init 36 = .ok (.aload_n 0, 1) := by decide +kernel
theorem dX4_init_37 : decode cX4_init 37 = .ok (.iconst 0, 1) := by decide +kernel
theorem dX4_init_38 : decode cX4_init 38 = .ok (.putfield 24, 3) := by decide +kernel
theorem dX4_init_41 : decode cX4_init 41 = .ok (.aload_n 0, 1) := by decide +kernel
theorem dX4_init_42 : decode cX4_init 42 = .ok (.iconst 0, 1) := by decide +kernel
theorem dX4_init_43 : decode cX4_init 43 = .ok (.putfield 28, 3) := by decide +kernel
theorem dX4_init_46 : decode cX4_init 46 = .ok (.aload_n 0, 1) := by decide +kernel
theorem dX4_init_47 : decode cX4_init 47 = .ok (.iconst 0, 1) := by decide +kernel
theorem dX4_init_48 : decode cX4_init 48 = .ok (.putfield 31, 3) := by decide +kernel
theorem dX4_init_51 : decode cX4_init 51 = .ok (.aload_n 0, 1) := by decide +kernel
theorem dX4_init_52 : decode cX4_init 52 = .ok (.iconst 0, 1) := by decide +kernel
theorem dX4_init_53 : decode cX4_init 53 = .ok (.putfield 34, 3) := by decide +kernel
theorem dX4_init_56 : decode cX4_init 56 = .ok (.aload_n 0, 1) := by decide +kernel
theorem dX4_init_57 : decode cX4_init 57 = .ok (.iconst 0, 1) := by decide +kernel
theorem dX4_init_58 : decode cX4_init 58 = .ok (.putfield 37, 3) := by decide +kernel
theorem dX4_init_61 : decode cX4_init 61 = .ok (.aload_n 0, 1) := by decide +kernel
theorem dX4_init_62 : decode cX4_init 62 = .ok (.iconst 0, 1) := by decide +kernel
theorem dX4_init_63 : decode cX4_init 63 = .ok (.putfield 40, 3) := by decide +kernel
theorem dX4_init_66 : decode cX4_init 66 = .ok (.aload_n 0, 1) := by decide +kernel
theorem dX4_init_67 : decode cX4_init 67 = .ok (.iconst 0, 1) := by decide +kernel
theorem dX4_init_68 : decode cX4_init 68 = .ok (.putfield 43, 3) := by decide +kernel
theorem dX4_init_71 : decode cX4_init 71 = .ok (.aload_n 0, 1) := by decide +kernel
theorem dX4_init_72 : decode cX4_init 72 = .ok (.iconst 0, 1) := by decide +kernel
theorem dX4_init_73 : decode cX4_init 73 = .ok (.putfield 46, 3) := by decide +kernel
theorem dX4_init_76 : decode cX4_init 76 = .ok (.return_, 1) := by decide +kernel
theorem dX4_copyFrom_0 : decode cX4_copyFrom 0 = .ok (.aload_n 1, 1) := by decide +kernel
theorem dX4_copyFrom_1 : decode cX4_copyFrom 1 = .ok (.getfield 9, 3) := by decide +kernel
theorem dX4_copyFrom_4 : decode cX4_copyFrom 4 = .ok (.aload_n 0, 1) := by decide +kernel
theorem dX4_copyFrom_5 : decode cX4_copyFrom 5 = .ok (.getfield 9, 3) := by decide +kernel
theorem dX4_copyFrom_8 : decode cX4_copyFrom 8 = .ok (.invokestatic 49, 3) := by decide +kernel
theorem dX4_copyFrom_11 : decode cX4_copyFrom 11 = .ok (.aload_n 1, 1) := by decide +kernel
theorem dX4_copyFrom_12 : decode cX4_copyFrom 12 = .ok (.getfield 15, 3) := by decide +kernel
theorem dX4_copyFrom_15 : decode cX4_copyFrom 15 = .ok (.aload_n 0, 1) := by decide +kernel
theorem dX4_copyFrom_16 : decode cX4_copyFrom 16 = .ok (.getfield 15, 3) := by decide +kernel
theorem dX4_copyFrom_19 : decode cX4_copyFrom 19 = .ok (.invokestatic 49, 3) := by decide +kernel
theorem dX4_copyFrom_22 : decode cX4_copyFrom 22 = .ok (.aload_n 1, 1) := by decide +kernel
theorem dX4_copyFrom_23 : decode cX4_copyFrom 23 = .ok (.getfield 18, 3) := by decide +kernel
theorem dX4_copyFrom_26 : decode cX4_copyFrom 26 = .ok (.aload_n 0, 1) := by decide +kernel
theorem dX4_copyFrom_27 : decode cX4_copyFrom 27 = .ok (.getfield 18, 3) := by decide +kernel
theorem dX4_copyFrom_30 : decode cX4_copyFrom 30 = .ok (.invokestatic 49, 3) := by decide +kernel
theorem dX4_copyFrom_33 : decode cX4_copyFrom 33 = .ok (.aload_n 1, 1) := by decide +kernel
theorem dX4_copyFrom_34 : decode cX4_copyFrom 34 = .ok (.getfield 21, 3) := by decide +kernel
theorem dX4_copyFrom_37 : decode cX4_copyFrom 37 = .ok (.aload_n 0, 1) := by decide +kernel
theorem dX4_copyFrom_38 : decode cX4_copyFrom 38 = .ok (.getfield 21, 3) := by decide +kernel
theorem dX4_copyFrom_41 : decode cX4_copyFrom 41 = .ok (.invokestatic 49, 3) := by decide +kernel
theorem dX4_copyFrom_44 : decode cX4_copyFrom 44 = .ok (.aload_n 0, 1) := by decide +kernel
theorem dX4_copyFrom_45 : decode cX4_copyFrom 45 = .ok (.aload_n 1, 1) := by decide +kernel
theorem dX4_copyFrom_46 : decode cX4_copyFrom 46 = .ok (.getfield 24, 3) := by decide +kernel
theorem dX4_copyFrom_49 : decode cX4_copyFrom 49 = .ok (.putfield 24, 3) := by decide +kernel
theorem dX4_copyFrom_52 : decode cX4_copyFrom 52 = .ok (.aload_n 0, 1) := by decide +kernel
theorem dX4_copyFrom_53 : decode cX4_copyFrom 53 = .ok (.aload_n 1, 1) := by decide +kernel
theorem dX4_copyFrom_54 : decode cX4_copyFrom 54 = .ok (.getfield 28, 3) := by decide +kernel
theorem dX4_copyFrom_57 : decode cX4_copyFrom 57 = .ok (.putfield 28, 3) := by decide +kernel
theorem dX4_copyFrom_60 : decode cX4_copyFrom 60 = .ok (.aload_n 0, 1) := by decide +kernel
theorem dX4_copyFrom_61 : decode cX4_copyFrom 61 = .ok (.aload_n 1, 1) := by decide +kernel
theorem dX4_copyFrom_62 : decode cX4_copyFrom 62 = .ok (.getfield 31, 3) := by decide +kernel
theorem dX4_copyFrom_65 : decode cX4_copyFrom 65 = .ok (.putfield 31, 3) := by decide +kernel
theorem dX4_copyFrom_68 : decode cX4_copyFrom 68 = .ok (.aload_n 0, 1) := by decide +kernel
theorem dX4_copyFrom_69 : decode cX4_copyFrom 69 = .ok (.aload_n 1, 1) := by decide +kernel
theorem dX4_copyFrom_70 : decode cX4_copyFrom 70 = .ok (.getfield 34, 3) := by decide +kernel
theorem dX4_copyFrom_73 : decode cX4_copyFrom 73 = .ok (.putfield 34, 3) := by decide +kernel
theorem dX4_copyFrom_76 : decode cX4_copyFrom 76 = .ok (.aload_n 0, 1) := by decide +kernel
theorem dX4_copyFrom_77 : decode cX4_copyFrom 77 = .ok (.aload_n 1, 1) := by decide +kernel
theorem dX4_copyFrom_78 : decode cX4_copyFrom 78 = .ok (.getfield 37, 3) := by decide +kernel
theorem dX4_copyFrom_81 : decode cX4_copyFrom 81 = .ok (.putfield 37, 3) := by decide +kernel
theorem dX4_copyFrom_84 : decode cX4_copyFrom 84 = .ok (.aload_n 0, 1) := by decide +kernel
theorem dX4_copyFrom_85 : decode cX4_copyFrom 85 = .ok (.aload_n 1, 1) := by decide +kernel
theorem dX4_copyFrom_86 : decode cX4_copyFrom 86 = .ok (.getfield 40, 3) := by decide +kernel
theorem dX4_copyFrom_89 : decode cX4_copyFrom 89 = .ok (.putfield 40, 3) := by decide +kernel
theorem dX4_copyFrom_92 : decode cX4_copyFrom 92 = .ok (.aload_n 0, 1) := by decide +kernel
theorem dX4_copyFrom_93 : decode cX4_copyFrom 93 = .ok (.aload_n 1, 1) := by decide +kernel
theorem dX4_copyFrom_94 : decode cX4_copyFrom 94 = .ok (.getfield 43, 3) := by decide +kernel
theorem dX4_copyFrom_97 : decode cX4_copyFrom 97 = .ok (.putfield 43, 3) := by decide +kernel
theorem dX4_copyFrom_100 : decode cX4_copyFrom 100 = .ok (.aload_n 0, 1) := by decide +kernel
theorem dX4_copyFrom_101 : decode cX4_copyFrom 101 = .ok (.aload_n 1, 1) := by decide +kernel
theorem dX4_copyFrom_102 : decode cX4_copyFrom 102 = .ok (.getfield 46, 3) := by decide +kernel
theorem dX4_copyFrom_105 : decode cX4_copyFrom 105 = .ok (.putfield 46, 3) := by decide +kernel
theorem dX4_copyFrom_108 : decode cX4_copyFrom 108 = .ok (.return_, 1) := by decide +kernel
theorem dX4_changePeriod_0 : decode cX4_changePeriod 0 = .ok (.aload_n 0, 1) := by decide +kernel
theorem dX4_changePeriod_1 : decode cX4_changePeriod 1 = .ok (.getfield 28, 3) := by decide +kernel
theorem dX4_changePeriod_4 : decode cX4_changePeriod 4 = .ok (.istore_n 2, 1) := by decide +kernel
theorem dX4_changePeriod_5 : decode cX4_changePeriod 5 = .ok (.aload_n 0, 1) := by decide +kernel
theorem dX4_changePeriod_6 : decode cX4_changePeriod 6 = .ok (.iload_n 1, 1) := by decide +kernel
theorem dX4_changePeriod_7 : decode cX4_changePeriod 7 = .ok (.putfield 28, 3) := by decide +kernel
theorem dX4_changePeriod_10 : decode cX4_changePeriod 10 = .ok (.iload_n 2, 1) := by decide +kernel
theorem dX4_changePeriod_11 : decode cX4_changePeriod 11 = .ok (.ireturn, 1) := by decide +kernel
theorem dX4_willExplore_0 : decode cX4_willExplore 0 = .ok (.aload_n 0, 1) := by decide +kernel
theorem dX4_willExplore_1 : decode cX4_willExplore 1 = .ok (.getfield 28, 3) := by decide +kernel
theorem dX4_willExplore_4 : decode cX4_willExplore 4 = .ok (.ifCond .le 21, 3) := by decide +kernel
theorem dX4_willExplore_7 : decode cX4_willExplore 7 = .ok (.aload_n 0, 1) := by decide +kernel
theorem dX4_willExplore_8 : decode cX4_willExplore 8 = .ok (.getfield 31, 3) := by decide +kernel
theorem dX4_willExplore_11 : decode cX4_willExplore 11 = .ok (.iconst 1, 1) := by decide +kernel
theorem dX4_willExplore_12 : decode cX4_willExplore 12 = .ok (.iadd, 1) := by decide +kernel
theorem dX4_willExplore_13 : decode cX4_willExplore 13 = .ok (.aload_n 0, 1) := by decide +kernel
theorem dX4_willExplore_14 : decode cX4_willExplore 14 = .ok (.getfield 28, 3) := by decide +kernel
theorem dX4_willExplore_17 : decode cX4_willExplore 17 = .ok (.irem, 1) := by decide +kernel
theorem dX4_willExplore_18 : decode cX4_willExplore 18 = .ok (.ifCond .ne 7, 3) := by decide +kernel
theorem dX4_willExplore_21 : decode cX4_willExplore 21 = .ok (.iconst 1, 1) := by decide +kernel
theorem dX4_willExplore_22 : decode cX4_willExplore 22 = .ok (.goto 4, 3) := by decide +kernel
theorem dX4_willExplore_25 : decode cX4_willExplore 25 = .ok (.iconst 0, 1) := by decide +kernel
theorem dX4_willExplore_26 : decode cX4_willExplore 26 = .ok (.ireturn, 1) := by decide +kernel
theorem dX4_opensIn_0 : decode cX4_opensIn 0 = .ok (.iload_n 1, 1) := by decide +kernel
theorem dX4_opensIn_1 : decode cX4_opensIn 1 = .ok (.iconst 1, 1) := by decide +kernel
theorem dX4_opensIn_2 : decode cX4_opensIn 2 = .ok (.invokestatic 53, 3) := by decide +kernel
theorem dX4_opensIn_5 : decode cX4_opensIn 5 = .ok (.istore_n 2, 1) := by decide +kernel
theorem dX4_opensIn_6 : decode cX4_opensIn 6 = .ok (.iload_n 1, 1) := by decide +kernel
theorem dX4_opensIn_7 : decode cX4_opensIn 7 = .ok (.iconst 0, 1) := by decide +kernel
theorem dX4_opensIn_8 : decode cX4_opensIn 8 = .ok (.invokestatic 53, 3) := by decide +kernel
theorem dX4_opensIn_11 : decode cX4_opensIn 11 = .ok (.istore_n 3, 1) := by decide +kernel
theorem dX4_opensIn_12 : decode cX4_opensIn 12 = .ok (.aload_n 0, 1) := by decide +kernel
theorem dX4_opensIn_13 : decode cX4_opensIn 13 = .ok (.getfield 18, 3) := by decide +kernel
theorem dX4_opensIn_16 : decode cX4_opensIn 16 = .ok (.iload_n 2, 1) := by decide +kernel
theorem dX4_opensIn_17 : decode cX4_opensIn 17 = .ok (.invokestatic 57, 3) := by decide +kernel
theorem dX4_opensIn_20 : decode cX4_opensIn 20 = .ok (.istore 4, 2) := by decide +kernel
theorem dX4_opensIn_22 : decode cX4_opensIn 22 = .ok (.aload_n 0, 1) := by decide +kernel
theorem dX4_opensIn_23 : decode cX4_opensIn 23 = .ok (.getfield 18, 3) := by decide +kernel
theorem dX4_opensIn_26 : decode cX4_opensIn 26 = .ok (.iload_n 3, 1) := by decide +kernel
theorem dX4_opensIn_27 : decode cX4_opensIn 27 = .ok (.invokestatic 57, 3) := by decide +kernel
theorem dX4_opensIn_30 : decode cX4_opensIn 30 = .ok (.istore 5, 2) := by decide +kernel
theorem dX4_opensIn_32 : decode cX4_opensIn 32 = .ok (.iload 4, 2) := by decide +kernel
theorem dX4_opensIn_34 : decode cX4_opensIn 34 = .ok (.ifCond .eq 8, 3) := by decide +kernel
theorem dX4_opensIn_37 : decode cX4_opensIn 37 = .ok (.iload 5, 2) := by decide +kernel
theorem dX4_opensIn_39 : decode cX4_opensIn 39 = .ok (.ifCond .ne 14, 3) := by decide +kernel
theorem dX4_opensIn_42 : decode cX4_opensIn 42 = .ok (.iload 4, 2) := by decide +kernel
theorem dX4_opensIn_44 : decode cX4_opensIn 44 = .ok (.ifCond .le 7, 3) := by decide +kernel
theorem dX4_opensIn_47 : decode cX4_opensIn 47 = .ok (.iconst 1, 1) := by decide +kernel
theorem dX4_opensIn_48 : decode cX4_opensIn 48 = .ok (.goto 4, 3) := by decide +kernel
theorem dX4_opensIn_51 : decode cX4_opensIn 51 = .ok (.iconst 0, 1) := by decide +kernel
theorem dX4_opensIn_52 : decode cX4_opensIn 52 = .ok (.ireturn, 1) := by decide +kernel
theorem dX4_opensIn_53 : decode cX4_opensIn 53 = .ok (.aload_n 0, 1) := by decide +kernel
theorem dX4_opensIn_54 : decode cX4_opensIn 54 = .ok (.getfield 21, 3) := by decide +kernel
theorem dX4_opensIn_57 : decode cX4_opensIn 57 = .ok (.iload_n 2, 1) := by decide +kernel
theorem dX4_opensIn_58 : decode cX4_opensIn 58 = .ok (.invokestatic 57, 3) := by decide +kernel
theorem dX4_opensIn_61 : decode cX4_opensIn 61 = .ok (.iload 5, 2) := by decide +kernel
theorem dX4_opensIn_63 : decode cX4_opensIn 63 = .ok (.imul, 1) := by decide +kernel
theorem dX4_opensIn_64 : decode cX4_opensIn 64 = .ok (.aload_n 0, 1) := by decide +kernel
theorem dX4_opensIn_65 : decode cX4_opensIn 65 = .ok (.getfield 21, 3) := by decide +kernel
theorem dX4_opensIn_68 : decode cX4_opensIn 68 = .ok (.iload_n 3, 1) := by decide +kernel
theorem dX4_opensIn_69 : decode cX4_opensIn 69 = .ok (.invokestatic 57, 3) := by decide +kernel
theorem dX4_opensIn_72 : decode cX4_opensIn 72 = .ok (.iload 4, 2) := by decide +kernel
theorem dX4_opensIn_74 : decode cX4_opensIn 74 = .ok (.imul, 1) := by decide +kernel
theorem dX4_opensIn_75 : decode cX4_opensIn 75 = .ok (.if_icmp .le 7, 3) := by decide +kernel
theorem dX4_opensIn_78 : decode cX4_opensIn 78 = .ok (.iconst 1, 1) := by decide +kernel
theorem dX4_opensIn_79 : decode cX4_opensIn 79 = .ok (.goto 4, 3) := by decide +kernel
theorem dX4_opensIn_82 : decode cX4_opensIn 82 = .ok (.iconst 0, 1) := by decide +kernel
theorem dX4_opensIn_83 : decode cX4_opensIn 83 = .ok (.ireturn, 1) := by decide +kernel
theorem dX4_enterTrial_0 : decode cX4_enterTrial 0 = .ok (.aload_n 0, 1) := by decide +kernel
theorem dX4_enterTrial_1 : decode cX4_enterTrial 1 = .ok (.dup, 1) := by decide +kernel
theorem dX4_enterTrial_2 : decode cX4_enterTrial 2 = .ok (.getfield 31, 3) := by decide +kernel
theorem dX4_enterTrial_5 : decode cX4_enterTrial 5 = .ok (.iconst 1, 1) := by decide +kernel
theorem dX4_enterTrial_6 : decode cX4_enterTrial 6 = .ok (.iadd, 1) := by decide +kernel
theorem dX4_enterTrial_7 : decode cX4_enterTrial 7 = .ok (.putfield 31, 3) := by decide +kernel
theorem dX4_enterTrial_10 : decode cX4_enterTrial 10 = .ok (.aload_n 0, 1) := by decide +kernel
theorem dX4_enterTrial_11 : decode cX4_enterTrial 11 = .ok (.dup, 1) := by decide +kernel
theorem dX4_enterTrial_12 : decode cX4_enterTrial 12 = .ok (.getfield 37, 3) := by decide +kernel
theorem dX4_enterTrial_15 : decode cX4_enterTrial 15 = .ok (.iload_n 2, 1) := by decide +kernel
theorem dX4_enterTrial_16 : decode cX4_enterTrial 16 = .ok (.iadd, 1) := by decide +kernel
theorem dX4_enterTrial_17 : decode cX4_enterTrial 17 = .ok (.putfield 37, 3) := by decide +kernel
theorem dX4_enterTrial_20 : decode cX4_enterTrial 20 = .ok (.aload_n 0, 1) := by decide +kernel
theorem dX4_enterTrial_21 : decode cX4_enterTrial 21 = .ok (.dup, 1) := by decide +kernel
theorem dX4_enterTrial_22 : decode cX4_enterTrial 22 = .ok (.getfield 40, 3) := by decide +kernel
theorem dX4_enterTrial_25 : decode cX4_enterTrial 25 = .ok (.iload_n 2, 1) := by decide +kernel
theorem dX4_enterTrial_26 : decode cX4_enterTrial 26 = .ok (.iadd, 1) := by decide +kernel
theorem dX4_enterTrial_27 : decode cX4_enterTrial 27 = .ok (.putfield 40, 3) := by decide +kernel
theorem dX4_enterTrial_30 : decode cX4_enterTrial 30 = .ok (.aload_n 0, 1) := by decide +kernel
theorem dX4_enterTrial_31 : decode cX4_enterTrial 31 = .ok (.getfield 9, 3) := by decide +kernel
theorem dX4_enterTrial_34 : decode cX4_enterTrial 34 = .ok (.aload_n 0, 1) := by decide +kernel
theorem dX4_enterTrial_35 : decode cX4_enterTrial 35 = .ok (.getfield 34, 3) := by decide +kernel
theorem dX4_enterTrial_38 : decode cX4_enterTrial 38 = .ok (.iload_n 1, 1) := by decide +kernel
theorem dX4_enterTrial_39 : decode cX4_enterTrial 39 = .ok (.invokestatic 61, 3) := by decide +kernel
theorem dX4_enterTrial_42 : decode cX4_enterTrial 42 = .ok (.aload_n 0, 1) := by decide +kernel
theorem dX4_enterTrial_43 : decode cX4_enterTrial 43 = .ok (.getfield 15, 3) := by decide +kernel
theorem dX4_enterTrial_46 : decode cX4_enterTrial 46 = .ok (.aload_n 0, 1) := by decide +kernel
theorem dX4_enterTrial_47 : decode cX4_enterTrial 47 = .ok (.getfield 34, 3) := by decide +kernel
theorem dX4_enterTrial_50 : decode cX4_enterTrial 50 = .ok (.iload_n 2, 1) := by decide +kernel
theorem dX4_enterTrial_51 : decode cX4_enterTrial 51 = .ok (.invokestatic 61, 3) := by decide +kernel
theorem dX4_enterTrial_54 : decode cX4_enterTrial 54 = .ok (.aload_n 0, 1) := by decide +kernel
theorem dX4_enterTrial_55 : decode cX4_enterTrial 55 = .ok (.dup, 1) := by decide +kernel
theorem dX4_enterTrial_56 : decode cX4_enterTrial 56 = .ok (.getfield 34, 3) := by decide +kernel
theorem dX4_enterTrial_59 : decode cX4_enterTrial 59 = .ok (.iconst 1, 1) := by decide +kernel
theorem dX4_enterTrial_60 : decode cX4_enterTrial 60 = .ok (.iadd, 1) := by decide +kernel
theorem dX4_enterTrial_61 : decode cX4_enterTrial 61 = .ok (.putfield 34, 3) := by decide +kernel
theorem dX4_enterTrial_64 : decode cX4_enterTrial 64 = .ok (.aload_n 0, 1) := by decide +kernel
theorem dX4_enterTrial_65 : decode cX4_enterTrial 65 = .ok (.iload_n 1, 1) := by decide +kernel
theorem dX4_enterTrial_66 : decode cX4_enterTrial 66 = .ok (.iconst 1, 1) := by decide +kernel
theorem dX4_enterTrial_67 : decode cX4_enterTrial 67 = .ok (.iload_n 2, 1) := by decide +kernel
theorem dX4_enterTrial_68 : decode cX4_enterTrial 68 = .ok (.invokevirtual 65, 3) := by decide +kernel
theorem dX4_enterTrial_71 : decode cX4_enterTrial 71 = .ok (.return_, 1) := by decide +kernel
theorem dX4_makeRoom_0 : decode cX4_makeRoom 0 = .ok (.aload_n 0, 1) := by decide +kernel
theorem dX4_makeRoom_1 : decode cX4_makeRoom 1 = .ok (.getfield 34, 3) := by decide +kernel
theorem dX4_makeRoom_4 : decode cX4_makeRoom 4 = .ok (.aload_n 0, 1) := by decide +kernel
theorem dX4_makeRoom_5 : decode cX4_makeRoom 5 = .ok (.getfield 24, 3) := by decide +kernel
theorem dX4_makeRoom_8 : decode cX4_makeRoom 8 = .ok (.if_icmp .ge 4, 3) := by decide +kernel
theorem dX4_makeRoom_11 : decode cX4_makeRoom 11 = .ok (.return_, 1) := by decide +kernel
theorem dX4_makeRoom_12 : decode cX4_makeRoom 12 = .ok (.aload_n 0, 1) := by decide +kernel
theorem dX4_makeRoom_13 : decode cX4_makeRoom 13 = .ok (.aload_n 0, 1) := by decide +kernel
theorem dX4_makeRoom_14 : decode cX4_makeRoom 14 = .ok (.getfield 9, 3) := by decide +kernel
theorem dX4_makeRoom_17 : decode cX4_makeRoom 17 = .ok (.iconst 0, 1) := by decide +kernel
theorem dX4_makeRoom_18 : decode cX4_makeRoom 18 = .ok (.invokestatic 57, 3) := by decide +kernel
theorem dX4_makeRoom_21 : decode cX4_makeRoom 21 = .ok (.iconst (-1), 1) := by decide +kernel
theorem dX4_makeRoom_22 : decode cX4_makeRoom 22 = .ok (.aload_n 0, 1) := by decide +kernel
theorem dX4_makeRoom_23 : decode cX4_makeRoom 23 = .ok (.getfield 15, 3) := by decide +kernel
theorem dX4_makeRoom_26 : decode cX4_makeRoom 26 = .ok (.iconst 0, 1) := by decide +kernel
theorem dX4_makeRoom_27 : decode cX4_makeRoom 27 = .ok (.invokestatic 57, 3) := by decide +kernel
theorem dX4_makeRoom_30 : decode cX4_makeRoom 30 = .ok (.ineg, 1) := by decide +kernel
theorem dX4_makeRoom_31 : decode cX4_makeRoom 31 = .ok (.invokevirtual 65, 3) := by decide +kernel
theorem dX4_makeRoom_34 : decode cX4_makeRoom 34 = .ok (.iconst 1, 1) := by decide +kernel
theorem dX4_makeRoom_35 : decode cX4_makeRoom 35 = .ok (.istore_n 1, 1) := by decide +kernel
theorem dX4_makeRoom_36 : decode cX4_makeRoom 36 = .ok (.iload_n 1, 1) := by decide +kernel
theorem dX4_makeRoom_37 : decode cX4_makeRoom 37 = .ok (.aload_n 0, 1) := by decide +kernel
theorem dX4_makeRoom_38 : decode cX4_makeRoom 38 = .ok (.getfield 34, 3) := by decide +kernel
theorem dX4_makeRoom_41 : decode cX4_makeRoom 41 = .ok (.if_icmp .ge 45, 3) := by decide +kernel
theorem dX4_makeRoom_44 : decode cX4_makeRoom 44 = .ok (.aload_n 0, 1) := by decide +kernel
theorem dX4_makeRoom_45 : decode cX4_makeRoom 45 = .ok (.getfield 9, 3) := by decide +kernel
theorem dX4_makeRoom_48 : decode cX4_makeRoom 48 = .ok (.iload_n 1, 1) := by decide +kernel
theorem dX4_makeRoom_49 : decode cX4_makeRoom 49 = .ok (.iconst 1, 1) := by decide +kernel
theorem dX4_makeRoom_50 : decode cX4_makeRoom 50 = .ok (.isub, 1) := by decide +kernel
theorem dX4_makeRoom_51 : decode cX4_makeRoom 51 = .ok (.aload_n 0, 1) := by decide +kernel
theorem dX4_makeRoom_52 : decode cX4_makeRoom 52 = .ok (.getfield 9, 3) := by decide +kernel
theorem dX4_makeRoom_55 : decode cX4_makeRoom 55 = .ok (.iload_n 1, 1) := by decide +kernel
theorem dX4_makeRoom_56 : decode cX4_makeRoom 56 = .ok (.invokestatic 57, 3) := by decide +kernel
theorem dX4_makeRoom_59 : decode cX4_makeRoom 59 = .ok (.invokestatic 61, 3) := by decide +kernel
theorem dX4_makeRoom_62 : decode cX4_makeRoom 62 = .ok (.aload_n 0, 1) := by decide +kernel
theorem dX4_makeRoom_63 : decode cX4_makeRoom 63 = .ok (.getfield 15, 3) := by decide +kernel
theorem dX4_makeRoom_66 : decode cX4_makeRoom 66 = .ok (.iload_n 1, 1) := by decide +kernel
theorem dX4_makeRoom_67 : decode cX4_makeRoom 67 = .ok (.iconst 1, 1) := by decide +kernel
theorem dX4_makeRoom_68 : decode cX4_makeRoom 68 = .ok (.isub, 1) := by decide +kernel
theorem dX4_makeRoom_69 : decode cX4_makeRoom 69 = .ok (.aload_n 0, 1) := by decide +kernel
theorem dX4_makeRoom_70 : decode cX4_makeRoom 70 = .ok (.getfield 15, 3) := by decide +kernel
theorem dX4_makeRoom_73 : decode cX4_makeRoom 73 = .ok (.iload_n 1, 1) := by decide +kernel
theorem dX4_makeRoom_74 : decode cX4_makeRoom 74 = .ok (.invokestatic 57, 3) := by decide +kernel
theorem dX4_makeRoom_77 : decode cX4_makeRoom 77 = .ok (.invokestatic 61, 3) := by decide +kernel
theorem dX4_makeRoom_80 : decode cX4_makeRoom 80 = .ok (.iinc 1 1, 3) := by decide +kernel
theorem dX4_makeRoom_83 : decode cX4_makeRoom 83 = .ok (.goto (-47), 3) := by decide +kernel
theorem dX4_makeRoom_86 : decode cX4_makeRoom 86 = .ok (.aload_n 0, 1) := by decide +kernel
theorem dX4_makeRoom_87 : decode cX4_makeRoom 87 = .ok (.dup, 1) := by decide +kernel
theorem dX4_makeRoom_88 : decode cX4_makeRoom 88 = .ok (.getfield 34, 3) := by decide +kernel
theorem dX4_makeRoom_91 : decode cX4_makeRoom 91 = .ok (.iconst 1, 1) := by decide +kernel
theorem dX4_makeRoom_92 : decode cX4_makeRoom 92 = .ok (.isub, 1) := by decide +kernel
theorem dX4_makeRoom_93 : decode cX4_makeRoom 93 = .ok (.putfield 34, 3) := by decide +kernel
theorem dX4_makeRoom_96 : decode cX4_makeRoom 96 = .ok (.return_, 1) := by decide +kernel
theorem dX4_forgetTrialsIn_0 : decode cX4_forgetTrialsIn 0 = .ok (.iconst 0, 1) := by decide +kernel
theorem dX4_forgetTrialsIn_1 : decode cX4_forgetTrialsIn 1 = .ok (.istore_n 2, 1) := by decide +kernel
theorem dX4_forgetTrialsIn_2 : decode cX4_forgetTrialsIn 2 = .ok (.iconst 0, 1) := by decide +kernel
theorem dX4_forgetTrialsIn_3 : decode cX4_forgetTrialsIn 3 = .ok (.istore_n 3, 1) := by decide +kernel
theorem dX4_forgetTrialsIn_4 : decode cX4_forgetTrialsIn 4 = .ok (.iload_n 3, 1) := by decide +kernel
theorem dX4_forgetTrialsIn_5 : decode cX4_forgetTrialsIn 5 = .ok (.aload_n 0, 1) := by decide +kernel
theorem dX4_forgetTrialsIn_6 : decode cX4_forgetTrialsIn 6 = .ok (.getfield 34, 3) := by decide +kernel
theorem dX4_forgetTrialsIn_9 : decode cX4_forgetTrialsIn 9 = .ok (.if_icmp .ge 74, 3) := by decide +kernel
theorem dX4_forgetTrialsIn_12 : decode cX4_forgetTrialsIn 12 = .ok (.aload_n 0, 1) := by decide +kernel
theorem dX4_forgetTrialsIn_13 : decode cX4_forgetTrialsIn 13 = .ok (.getfield 9, 3) := by decide +kernel
theorem dX4_forgetTrialsIn_16 : decode cX4_forgetTrialsIn 16 = .ok (.iload_n 3, 1) := by decide +kernel
theorem dX4_forgetTrialsIn_17 : decode cX4_forgetTrialsIn 17 = .ok (.invokestatic 57, 3) := by decide +kernel
theorem dX4_forgetTrialsIn_20 : decode cX4_forgetTrialsIn 20 = .ok (.istore 4, 2) := by decide +kernel
theorem dX4_forgetTrialsIn_22 : decode cX4_forgetTrialsIn 22 = .ok (.aload_n 0, 1) := by decide +kernel
theorem dX4_forgetTrialsIn_23 : decode cX4_forgetTrialsIn 23 = .ok (.getfield 15, 3) := by decide +kernel
theorem dX4_forgetTrialsIn_26 : decode cX4_forgetTrialsIn 26 = .ok (.iload_n 3, 1) := by decide +kernel
theorem dX4_forgetTrialsIn_27 : decode cX4_forgetTrialsIn 27 = .ok (.invokestatic 57, 3) := by decide +kernel
theorem dX4_forgetTrialsIn_30 : decode cX4_forgetTrialsIn 30 = .ok (.istore 5, 2) := by decide +kernel
theorem dX4_forgetTrialsIn_32 : decode cX4_forgetTrialsIn 32 = .ok (.iload 4, 2) := by decide +kernel
theorem dX4_forgetTrialsIn_34 : decode cX4_forgetTrialsIn 34 = .ok (.invokestatic 69, 3) := by decide +kernel
theorem dX4_forgetTrialsIn_37 : decode cX4_forgetTrialsIn 37 = .ok (.iload_n 1, 1) := by decide +kernel
theorem dX4_forgetTrialsIn_38 : decode cX4_forgetTrialsIn 38 = .ok (.if_icmp .ne 16, 3) := by decide +kernel
theorem dX4_forgetTrialsIn_41 : decode cX4_forgetTrialsIn 41 = .ok (.aload_n 0, 1) := by decide +kernel
theorem dX4_forgetTrialsIn_42 : decode cX4_forgetTrialsIn 42 = .ok (.iload 4, 2) := by decide +kernel
theorem dX4_forgetTrialsIn_44 : decode cX4_forgetTrialsIn 44 = .ok (.iconst (-1), 1) := by decide +kernel
theorem dX4_forgetTrialsIn_45 : decode cX4_forgetTrialsIn 45 = .ok (.iload 5, 2) := by decide +kernel
theorem dX4_forgetTrialsIn_47 : decode cX4_forgetTrialsIn 47 = .ok (.ineg, 1) := by decide +kernel
theorem dX4_forgetTrialsIn_48 : decode cX4_forgetTrialsIn 48 = .ok (.invokevirtual 65, 3) := by decide +kernel
theorem dX4_forgetTrialsIn_51 : decode cX4_forgetTrialsIn 51 = .ok (.goto 26, 3) := by decide +kernel
theorem dX4_forgetTrialsIn_54 : decode cX4_forgetTrialsIn 54 = .ok (.aload_n 0, 1) := by decide +kernel
theorem dX4_forgetTrialsIn_55 : decode cX4_forgetTrialsIn 55 = .ok (.getfield 9, 3) := by decide +kernel
theorem dX4_forgetTrialsIn_58 : decode cX4_forgetTrialsIn 58 = .ok (.iload_n 2, 1) := by decide +kernel
theorem dX4_forgetTrialsIn_59 : decode cX4_forgetTrialsIn 59 = .ok (.iload 4, 2) := by decide +kernel
theorem dX4_forgetTrialsIn_61 : decode cX4_forgetTrialsIn 61 = .ok (.invokestatic 61, 3) := by decide +kernel
theorem dX4_forgetTrialsIn_64 : decode cX4_forgetTrialsIn 64 = .ok (.aload_n 0, 1) := by decide +kernel
theorem dX4_forgetTrialsIn_65 : decode cX4_forgetTrialsIn 65 = .ok (.getfield 15, 3) := by decide +kernel
theorem dX4_forgetTrialsIn_68 : decode cX4_forgetTrialsIn 68 = .ok (.iload_n 2, 1) := by decide +kernel
theorem dX4_forgetTrialsIn_69 : decode cX4_forgetTrialsIn 69 = .ok (.iload 5, 2) := by decide +kernel
theorem dX4_forgetTrialsIn_71 : decode cX4_forgetTrialsIn 71 = .ok (.invokestatic 61, 3) := by decide +kernel
theorem dX4_forgetTrialsIn_74 : decode cX4_forgetTrialsIn 74 = .ok (.iinc 2 1, 3) := by decide +kernel
theorem dX4_forgetTrialsIn_77 : decode cX4_forgetTrialsIn 77 = .ok (.iinc 3 1, 3) := by decide +kernel
theorem dX4_forgetTrialsIn_80 : decode cX4_forgetTrialsIn 80 = .ok (.goto (-76), 3) := by decide +kernel
theorem dX4_forgetTrialsIn_83 : decode cX4_forgetTrialsIn 83 = .ok (.aload_n 0, 1) := by decide +kernel
theorem dX4_forgetTrialsIn_84 : decode cX4_forgetTrialsIn 84 = .ok (.getfield 34, 3) := by decide +kernel
theorem dX4_forgetTrialsIn_87 : decode cX4_forgetTrialsIn 87 = .ok (.iload_n 2, 1) := by decide +kernel
theorem dX4_forgetTrialsIn_88 : decode cX4_forgetTrialsIn 88 = .ok (.isub, 1) := by decide +kernel
theorem dX4_forgetTrialsIn_89 : decode cX4_forgetTrialsIn 89 = .ok (.istore_n 3, 1) := by decide +kernel
theorem dX4_forgetTrialsIn_90 : decode cX4_forgetTrialsIn 90 = .ok (.aload_n 0, 1) := by decide +kernel
theorem dX4_forgetTrialsIn_91 : decode cX4_forgetTrialsIn 91 = .ok (.iload_n 2, 1) := by decide +kernel
theorem dX4_forgetTrialsIn_92 : decode cX4_forgetTrialsIn 92 = .ok (.putfield 34, 3) := by decide +kernel
theorem dX4_forgetTrialsIn_95 : decode cX4_forgetTrialsIn 95 = .ok (.iload_n 3, 1) := by decide +kernel
theorem dX4_forgetTrialsIn_96 : decode cX4_forgetTrialsIn 96 = .ok (.ireturn, 1) := by decide +kernel
theorem dX4_countCase_0 : decode cX4_countCase 0 = .ok (.aload_n 0, 1) := by decide +kernel
theorem dX4_countCase_1 : decode cX4_countCase 1 = .ok (.getfield 18, 3) := by decide +kernel
theorem dX4_countCase_4 : decode cX4_countCase 4 = .ok (.iload_n 1, 1) := by decide +kernel
theorem dX4_countCase_5 : decode cX4_countCase 5 = .ok (.iload_n 2, 1) := by decide +kernel
theorem dX4_countCase_6 : decode cX4_countCase 6 = .ok (.invokestatic 73, 3) := by decide +kernel
theorem dX4_countCase_9 : decode cX4_countCase 9 = .ok (.aload_n 0, 1) := by decide +kernel
theorem dX4_countCase_10 : decode cX4_countCase 10 = .ok (.getfield 21, 3) := by decide +kernel
theorem dX4_countCase_13 : decode cX4_countCase 13 = .ok (.iload_n 1, 1) := by decide +kernel
theorem dX4_countCase_14 : decode cX4_countCase 14 = .ok (.iload_n 3, 1) := by decide +kernel
theorem dX4_countCase_15 : decode cX4_countCase 15 = .ok (.invokestatic 73, 3) := by decide +kernel
theorem dX4_countCase_18 : decode cX4_countCase 18 = .ok (.return_, 1) := by decide +kernel
theorem dX4_addUpTrials_0 : decode cX4_addUpTrials 0 = .ok (.iconst 0, 1) := by decide +kernel
theorem dX4_addUpTrials_1 : decode cX4_addUpTrials 1 = .ok (.istore_n 2, 1) := by decide +kernel
theorem dX4_addUpTrials_2 : decode cX4_addUpTrials 2 = .ok (.iconst 0, 1) := by decide +kernel
theorem dX4_addUpTrials_3 : decode cX4_addUpTrials 3 = .ok (.istore_n 3, 1) := by decide +kernel
theorem dX4_addUpTrials_4 : decode cX4_addUpTrials 4 = .ok (.iload_n 3, 1) := by decide +kernel
theorem dX4_addUpTrials_5 : decode cX4_addUpTrials 5 = .ok (.aload_n 0, 1) := by decide +kernel
theorem dX4_addUpTrials_6 : decode cX4_addUpTrials 6 = .ok (.getfield 34, 3) := by decide +kernel
theorem dX4_addUpTrials_9 : decode cX4_addUpTrials 9 = .ok (.if_icmp .ge 32, 3) := by decide +kernel
theorem dX4_addUpTrials_12 : decode cX4_addUpTrials 12 = .ok (.aload_n 0, 1) := by decide +kernel
theorem dX4_addUpTrials_13 : decode cX4_addUpTrials 13 = .ok (.getfield 9, 3) := by decide +kernel
theorem dX4_addUpTrials_16 : decode cX4_addUpTrials 16 = .ok (.iload_n 3, 1) := by decide +kernel
theorem dX4_addUpTrials_17 : decode cX4_addUpTrials 17 = .ok (.invokestatic 57, 3) := by decide +kernel
theorem dX4_addUpTrials_20 : decode cX4_addUpTrials 20 = .ok (.iload_n 1, 1) := by decide +kernel
theorem dX4_addUpTrials_21 : decode cX4_addUpTrials 21 = .ok (.if_icmp .ne 14, 3) := by decide +kernel
theorem dX4_addUpTrials_24 : decode cX4_addUpTrials 24 = .ok (.iload_n 2, 1) := by decide +kernel
theorem dX4_addUpTrials_25 : decode cX4_addUpTrials 25 = .ok (.aload_n 0, 1) := by decide +kernel
theorem dX4_addUpTrials_26 : decode cX4_addUpTrials 26 = .ok (.getfield 15, 3) := by decide +kernel
theorem dX4_addUpTrials_29 : decode cX4_addUpTrials 29 = .ok (.iload_n 3, 1) := by decide +kernel
theorem dX4_addUpTrials_30 : decode cX4_addUpTrials 30 = .ok (.invokestatic 57, 3) := by decide +kernel
theorem dX4_addUpTrials_33 : decode cX4_addUpTrials 33 = .ok (.iadd, 1) := by decide +kernel
theorem dX4_addUpTrials_34 : decode cX4_addUpTrials 34 = .ok (.istore_n 2, 1) := by decide +kernel
theorem dX4_addUpTrials_35 : decode cX4_addUpTrials 35 = .ok (.iinc 3 1, 3) := by decide +kernel
theorem dX4_addUpTrials_38 : decode cX4_addUpTrials 38 = .ok (.goto (-34), 3) := by decide +kernel
theorem dX4_addUpTrials_41 : decode cX4_addUpTrials 41 = .ok (.iload_n 2, 1) := by decide +kernel
theorem dX4_addUpTrials_42 : decode cX4_addUpTrials 42 = .ok (.ireturn, 1) := by decide +kernel
theorem dX4_timesIn_0 : decode cX4_timesIn 0 = .ok (.aload_n 0, 1) := by decide +kernel
theorem dX4_timesIn_1 : decode cX4_timesIn 1 = .ok (.getfield 18, 3) := by decide +kernel
theorem dX4_timesIn_4 : decode cX4_timesIn 4 = .ok (.iload_n 1, 1) := by decide +kernel
theorem dX4_timesIn_5 : decode cX4_timesIn 5 = .ok (.iconst 1, 1) := by decide +kernel
theorem dX4_timesIn_6 : decode cX4_timesIn 6 = .ok (.invokestatic 53, 3) := by decide +kernel
theorem dX4_timesIn_9 : decode cX4_timesIn 9 = .ok (.invokestatic 57, 3) := by decide +kernel
theorem dX4_timesIn_12 : decode cX4_timesIn 12 = .ok (.aload_n 0, 1) := by decide +kernel
theorem dX4_timesIn_13 : decode cX4_timesIn 13 = .ok (.getfield 18, 3) := by decide +kernel
theorem dX4_timesIn_16 : decode cX4_timesIn 16 = .ok (.iload_n 1, 1) := by decide +kernel
theorem dX4_timesIn_17 : decode cX4_timesIn 17 = .ok (.iconst 0, 1) := by decide +kernel
theorem dX4_timesIn_18 : decode cX4_timesIn 18 = .ok (.invokestatic 53, 3) := by decide +kernel
theorem dX4_timesIn_21 : decode cX4_timesIn 21 = .ok (.invokestatic 57, 3) := by decide +kernel
theorem dX4_timesIn_24 : decode cX4_timesIn 24 = .ok (.iadd, 1) := by decide +kernel
theorem dX4_timesIn_25 : decode cX4_timesIn 25 = .ok (.ireturn, 1) := by decide +kernel
theorem dX4_countKnownSituations_0 : decode cX4_countKnownSituations 0 = .ok (.iconst 0, 1) := by decide +kernel
theorem dX4_countKnownSituations_1 : decode cX4_countKnownSituations 1 = .ok (.istore_n 1, 1) := by decide +kernel
theorem dX4_countKnownSituations_2 : decode cX4_countKnownSituations 2 = .ok (.iconst 0, 1) := by decide +kernel
theorem dX4_countKnownSituations_3 : decode cX4_countKnownSituations 3 = .ok (.istore_n 2, 1) := by decide +kernel
theorem dX4_countKnownSituations_4 : decode cX4_countKnownSituations 4 = .ok (.iload_n 2, 1) := by decide +kernel
theorem dX4_countKnownSituations_5 : decode cX4_countKnownSituations 5 = .ok (.bipush 16, 2) := by decide +kernel
theorem dX4_countKnownSituations_7 : decode cX4_countKnownSituations 7 = .ok (.if_icmp .ge 20, 3) := by decide +kernel
theorem dX4_countKnownSituations_10 : decode cX4_countKnownSituations 10 = .ok (.aload_n 0, 1) := by decide +kernel
theorem dX4_countKnownSituations_11 : decode cX4_countKnownSituations 11 = .ok (.iload_n 2, 1) := by decide +kernel
theorem dX4_countKnownSituations_12 : decode cX4_countKnownSituations 12 = .ok (.invokevirtual 76, 3) := by decide +kernel
theorem dX4_countKnownSituations_15 : decode cX4_countKnownSituations 15 = .ok (.ifCond .le 6, 3) := by decide +kernel
theorem dX4_countKnownSituations_18 : decode cX4_countKnownSituations 18 = .ok (.iinc 1 1, 3) := by decide +kernel
theorem dX4_countKnownSituations_21 : decode cX4_countKnownSituations 21 = .ok (.iinc 2 1, 3) := by decide +kernel
theorem dX4_countKnownSituations_24 : decode cX4_countKnownSituations 24 = .ok (.goto (-20), 3) := by decide +kernel
theorem dX4_countKnownSituations_27 : decode cX4_countKnownSituations 27 = .ok (.iload_n 1, 1) := by decide +kernel
theorem dX4_countKnownSituations_28 : decode cX4_countKnownSituations 28 = .ok (.ireturn, 1) := by decide +kernel
theorem dX4_situationAtRank_0 : decode cX4_situationAtRank 0 = .ok (.iconst 0, 1) := by decide +kernel
theorem dX4_situationAtRank_1 : decode cX4_situationAtRank 1 = .ok (.istore_n 2, 1) := by decide +kernel
theorem dX4_situationAtRank_2 : decode cX4_situationAtRank 2 = .ok (.iload_n 2, 1) := by decide +kernel
theorem dX4_situationAtRank_3 : decode cX4_situationAtRank 3 = .ok (.bipush 16, 2) := by decide +kernel
theorem dX4_situationAtRank_5 : decode cX4_situationAtRank 5 = .ok (.if_icmp .ge 28, 3) := by decide +kernel
theorem dX4_situationAtRank_8 : decode cX4_situationAtRank 8 = .ok (.aload_n 0, 1) := by decide +kernel
theorem dX4_situationAtRank_9 : decode cX4_situationAtRank 9 = .ok (.iload_n 2, 1) := by decide +kernel
theorem dX4_situationAtRank_10 : decode cX4_situationAtRank 10 = .ok (.invokevirtual 76, 3) := by decide +kernel
theorem dX4_situationAtRank_13 : decode cX4_situationAtRank 13 = .ok (.ifCond .le 14, 3) := by decide +kernel
theorem dX4_situationAtRank_16 : decode cX4_situationAtRank 16 = .ok (.aload_n 0, 1) := by decide +kernel
theorem dX4_situationAtRank_17 : decode cX4_situationAtRank 17 = .ok (.iload_n 2, 1) := by decide +kernel
theorem dX4_situationAtRank_18 : decode cX4_situationAtRank 18 = .ok (.invokevirtual 79, 3) := by decide +kernel
theorem dX4_situationAtRank_21 : decode cX4_situationAtRank 21 = .ok (.iload_n 1, 1) := by decide +kernel
theorem dX4_situationAtRank_22 : decode cX4_situationAtRank 22 = .ok (.if_icmp .ne 5, 3) := by decide +kernel
theorem dX4_situationAtRank_25 : decode cX4_situationAtRank 25 = .ok (.iload_n 2, 1) := by decide +kernel
theorem dX4_situationAtRank_26 : decode cX4_situationAtRank 26 = .ok (.ireturn, 1) := by decide +kernel
theorem dX4_situationAtRank_27 : decode cX4_situationAtRank 27 = .ok (.iinc 2 1, 3) := by decide +kernel
theorem dX4_situationAtRank_30 : decode cX4_situationAtRank 30 = .ok (.goto (-28), 3) := by decide +kernel
theorem dX4_situationAtRank_33 : decode cX4_situationAtRank 33 = .ok (.iconst (-1), 1) := by decide +kernel
theorem dX4_situationAtRank_34 : decode cX4_situationAtRank 34 = .ok (.ireturn, 1) := by decide +kernel
theorem dX4_situationsBefore_0 : decode cX4_situationsBefore 0 = .ok (.aload_n 0, 1) := by decide +kernel
theorem dX4_situationsBefore_1 : decode cX4_situationsBefore 1 = .ok (.iload_n 1, 1) := by decide +kernel
theorem dX4_situationsBefore_2 : decode cX4_situationsBefore 2 = .ok (.invokevirtual 76, 3) := by decide +kernel
theorem dX4_situationsBefore_5 : decode cX4_situationsBefore 5 = .ok (.istore_n 2, 1) := by decide +kernel
theorem dX4_situationsBefore_6 : decode cX4_situationsBefore 6 = .ok (.iconst 0, 1) := by decide +kernel
theorem dX4_situationsBefore_7 : decode cX4_situationsBefore 7 = .ok (.istore_n 3, 1) := by decide +kernel
theorem dX4_situationsBefore_8 : decode cX4_situationsBefore 8 = .ok (.iconst 0, 1) := by decide +kernel
theorem dX4_situationsBefore_9 : decode cX4_situationsBefore 9 = .ok (.istore 4, 2) := by decide +kernel
theorem dX4_situationsBefore_11 : decode cX4_situationsBefore 11 = .ok (.iload 4, 2) := by decide +kernel
theorem dX4_situationsBefore_13 : decode cX4_situationsBefore 13 = .ok (.bipush 16, 2) := by decide +kernel
theorem dX4_situationsBefore_15 : decode cX4_situationsBefore 15 = .ok (.if_icmp .ge 38, 3) := by decide +kernel
theorem dX4_situationsBefore_18 : decode cX4_situationsBefore 18 = .ok (.aload_n 0, 1) := by decide +kernel
theorem dX4_situationsBefore_19 : decode cX4_situationsBefore 19 = .ok (.iload 4, 2) := by decide +kernel
theorem dX4_situationsBefore_21 : decode cX4_situationsBefore 21 = .ok (.invokevirtual 76, 3) := by decide +kernel
theorem dX4_situationsBefore_24 : decode cX4_situationsBefore 24 = .ok (.istore 5, 2) := by decide +kernel
theorem dX4_situationsBefore_26 : decode cX4_situationsBefore 26 = .ok (.iload 5, 2) := by decide +kernel
theorem dX4_situationsBefore_28 : decode cX4_situationsBefore 28 = .ok (.iload_n 2, 1) := by decide +kernel
theorem dX4_situationsBefore_29 : decode cX4_situationsBefore 29 = .ok (.if_icmp .gt 15, 3) := by decide +kernel
theorem dX4_situationsBefore_32 : decode cX4_situationsBefore 32 = .ok (.iload 5, 2) := by decide +kernel
theorem dX4_situationsBefore_34 : decode cX4_situationsBefore 34 = .ok (.iload_n 2, 1) := by decide +kernel
theorem dX4_situationsBefore_35 : decode cX4_situationsBefore 35 = .ok (.if_icmp .ne 12, 3) := by decide +kernel
theorem dX4_situationsBefore_38 : decode cX4_situationsBefore 38 = .ok (.iload 4, 2) := by decide +kernel
theorem dX4_situationsBefore_40 : decode cX4_situationsBefore 40 = .ok (.iload_n 1, 1) := by decide +kernel
theorem dX4_situationsBefore_41 : decode cX4_situationsBefore 41 = .ok (.if_icmp .ge 6, 3) := by decide +kernel
theorem dX4_situationsBefore_44 : decode cX4_situationsBefore 44 = .ok (.iinc 3 1, 3) := by decide +kernel
theorem dX4_situationsBefore_47 : decode cX4_situationsBefore 47 = .ok (.iinc 4 1, 3) := by decide +kernel
theorem dX4_situationsBefore_50 : decode cX4_situationsBefore 50 = .ok (.goto (-39), 3) := by decide +kernel
theorem dX4_situationsBefore_53 : decode cX4_situationsBefore 53 = .ok (.iload_n 3, 1) := by decide +kernel
theorem dX4_situationsBefore_54 : decode cX4_situationsBefore 54 = .ok (.ireturn, 1) := by decide +kernel
theorem dX4_noteExam_0 : decode cX4_noteExam 0 = .ok (.iconst 1, 1) := by decide +kernel
theorem dX4_noteExam_1 : decode cX4_noteExam 1 = .ok (.iload_n 1, 1) := by decide +kernel
theorem dX4_noteExam_2 : decode cX4_noteExam 2 = .ok (.ishl, 1) := by decide +kernel
theorem dX4_noteExam_3 : decode cX4_noteExam 3 = .ok (.istore_n 3, 1) := by decide +kernel
theorem dX4_noteExam_4 : decode cX4_noteExam 4 = .ok (.aload_n 0, 1) := by decide +kernel
theorem dX4_noteExam_5 : decode cX4_noteExam 5 = .ok (.iload_n 2, 1) := by decide +kernel
theorem dX4_noteExam_6 : decode cX4_noteExam 6 = .ok (.ifCond .eq 12, 3) := by decide +kernel
theorem dX4_noteExam_9 : decode cX4_noteExam 9 = .ok (.aload_n 0, 1) := by decide +kernel
theorem dX4_noteExam_10 : decode cX4_noteExam 10 = .ok (.getfield 46, 3) := by decide +kernel
theorem dX4_noteExam_13 : decode cX4_noteExam 13 = .ok (.iload_n 3, 1) := by decide +kernel
theorem dX4_noteExam_14 : decode cX4_noteExam 14 = .ok (.ior, 1) := by decide +kernel
theorem dX4_noteExam_15 : decode cX4_noteExam 15 = .ok (.goto 11, 3) := by decide +kernel
theorem dX4_noteExam_18 : decode cX4_noteExam 18 = .ok (.aload_n 0, 1) := by decide +kernel
theorem dX4_noteExam_19 : decode cX4_noteExam 19 = .ok (.getfield 46, 3) := by decide +kernel
theorem dX4_noteExam_22 : decode cX4_noteExam 22 = .ok (.iload_n 3, 1) := by decide +kernel
theorem dX4_noteExam_23 : decode cX4_noteExam 23 = .ok (.iconst (-1), 1) := by decide +kernel
theorem dX4_noteExam_24 : decode cX4_noteExam 24 = .ok (.ixor, 1) := by decide +kernel
theorem dX4_noteExam_25 : decode cX4_noteExam 25 = .ok (.iand, 1) := by decide +kernel
theorem dX4_noteExam_26 : decode cX4_noteExam 26 = .ok (.putfield 46, 3) := by decide +kernel
theorem dX4_noteExam_29 : decode cX4_noteExam 29 = .ok (.return_, 1) := by decide +kernel
theorem dX4_hasPassed_0 : decode cX4_hasPassed 0 = .ok (.aload_n 0, 1) := by decide +kernel
theorem dX4_hasPassed_1 : decode cX4_hasPassed 1 = .ok (.getfield 46, 3) := by decide +kernel
theorem dX4_hasPassed_4 : decode cX4_hasPassed 4 = .ok (.iconst 1, 1) := by decide +kernel
theorem dX4_hasPassed_5 : decode cX4_hasPassed 5 = .ok (.iload_n 1, 1) := by decide +kernel
theorem dX4_hasPassed_6 : decode cX4_hasPassed 6 = .ok (.ishl, 1) := by decide +kernel
theorem dX4_hasPassed_7 : decode cX4_hasPassed 7 = .ok (.iand, 1) := by decide +kernel
theorem dX4_hasPassed_8 : decode cX4_hasPassed 8 = .ok (.ifCond .eq 7, 3) := by decide +kernel
theorem dX4_hasPassed_11 : decode cX4_hasPassed 11 = .ok (.iconst 1, 1) := by decide +kernel
theorem dX4_hasPassed_12 : decode cX4_hasPassed 12 = .ok (.goto 4, 3) := by decide +kernel
theorem dX4_hasPassed_15 : decode cX4_hasPassed 15 = .ok (.iconst 0, 1) := by decide +kernel
theorem dX4_hasPassed_16 : decode cX4_hasPassed 16 = .ok (.ireturn, 1) := by decide +kernel
theorem dX4_sumsAgree_0 : decode cX4_sumsAgree 0 = .ok (.iconst 0, 1) := by decide +kernel
theorem dX4_sumsAgree_1 : decode cX4_sumsAgree 1 = .ok (.istore_n 1, 1) := by decide +kernel
theorem dX4_sumsAgree_2 : decode cX4_sumsAgree 2 = .ok (.iload_n 1, 1) := by decide +kernel
theorem dX4_sumsAgree_3 : decode cX4_sumsAgree 3 = .ok (.bipush 32, 2) := by decide +kernel
theorem dX4_sumsAgree_5 : decode cX4_sumsAgree 5 = .ok (.if_icmp .ge 27, 3) := by decide +kernel
theorem dX4_sumsAgree_8 : decode cX4_sumsAgree 8 = .ok (.aload_n 0, 1) := by decide +kernel
theorem dX4_sumsAgree_9 : decode cX4_sumsAgree 9 = .ok (.getfield 21, 3) := by decide +kernel
theorem dX4_sumsAgree_12 : decode cX4_sumsAgree 12 = .ok (.iload_n 1, 1) := by decide +kernel
theorem dX4_sumsAgree_13 : decode cX4_sumsAgree 13 = .ok (.invokestatic 57, 3) := by decide +kernel
theorem dX4_sumsAgree_16 : decode cX4_sumsAgree 16 = .ok (.aload_n 0, 1) := by decide +kernel
theorem dX4_sumsAgree_17 : decode cX4_sumsAgree 17 = .ok (.iload_n 1, 1) := by decide +kernel
theorem dX4_sumsAgree_18 : decode cX4_sumsAgree 18 = .ok (.invokevirtual 82, 3) := by decide +kernel
theorem dX4_sumsAgree_21 : decode cX4_sumsAgree 21 = .ok (.if_icmp .eq 5, 3) := by decide +kernel
theorem dX4_sumsAgree_24 : decode cX4_sumsAgree 24 = .ok (.iconst 0, 1) := by decide +kernel
theorem dX4_sumsAgree_25 : decode cX4_sumsAgree 25 = .ok (.ireturn, 1) := by decide +kernel
theorem dX4_sumsAgree_26 : decode cX4_sumsAgree 26 = .ok (.iinc 1 1, 3) := by decide +kernel
theorem dX4_sumsAgree_29 : decode cX4_sumsAgree 29 = .ok (.goto (-27), 3) := by decide +kernel
theorem dX4_sumsAgree_32 : decode cX4_sumsAgree 32 = .ok (.iconst 1, 1) := by decide +kernel
theorem dX4_sumsAgree_33 : decode cX4_sumsAgree 33 = .ok (.ireturn, 1) := by decide +kernel
theorem dX4_ranksBefore_0 : decode cX4_ranksBefore 0 = .ok (.aload_n 0, 1) := by decide +kernel
theorem dX4_ranksBefore_1 : decode cX4_ranksBefore 1 = .ok (.getfield 43, 3) := by decide +kernel
theorem dX4_ranksBefore_4 : decode cX4_ranksBefore 4 = .ok (.aload_n 1, 1) := by decide +kernel
theorem dX4_ranksBefore_5 : decode cX4_ranksBefore 5 = .ok (.getfield 43, 3) := by decide +kernel
theorem dX4_ranksBefore_8 : decode cX4_ranksBefore 8 = .ok (.if_icmp .eq 20, 3) := by decide +kernel
theorem dX4_ranksBefore_11 : decode cX4_ranksBefore 11 = .ok (.aload_n 0, 1) := by decide +kernel
theorem dX4_ranksBefore_12 : decode cX4_ranksBefore 12 = .ok (.getfield 43, 3) := by decide +kernel
theorem dX4_ranksBefore_15 : decode cX4_ranksBefore 15 = .ok (.aload_n 1, 1) := by decide +kernel
theorem dX4_ranksBefore_16 : decode cX4_ranksBefore 16 = .ok (.getfield 43, 3) := by decide +kernel
theorem dX4_ranksBefore_19 : decode cX4_ranksBefore 19 = .ok (.if_icmp .le 7, 3) := by decide +kernel
theorem dX4_ranksBefore_22 : decode cX4_ranksBefore 22 = .ok (.iconst 1, 1) := by decide +kernel
theorem dX4_ranksBefore_23 : decode cX4_ranksBefore 23 = .ok (.goto 4, 3) := by decide +kernel
theorem dX4_ranksBefore_26 : decode cX4_ranksBefore 26 = .ok (.iconst 0, 1) := by decide +kernel
theorem dX4_ranksBefore_27 : decode cX4_ranksBefore 27 = .ok (.ireturn, 1) := by decide +kernel
theorem dX4_ranksBefore_28 : decode cX4_ranksBefore 28 = .ok (.aload_n 0, 1) := by decide +kernel
theorem dX4_ranksBefore_29 : decode cX4_ranksBefore 29 = .ok (.getfield 37, 3) := by decide +kernel
theorem dX4_ranksBefore_32 : decode cX4_ranksBefore 32 = .ok (.aload_n 1, 1) := by decide +kernel
theorem dX4_ranksBefore_33 : decode cX4_ranksBefore 33 = .ok (.getfield 37, 3) := by decide +kernel
theorem dX4_ranksBefore_36 : decode cX4_ranksBefore 36 = .ok (.if_icmp .le 7, 3) := by decide +kernel
theorem dX4_ranksBefore_39 : decode cX4_ranksBefore 39 = .ok (.iconst 1, 1) := by decide +kernel
theorem dX4_ranksBefore_40 : decode cX4_ranksBefore 40 = .ok (.goto 4, 3) := by decide +kernel
theorem dX4_ranksBefore_43 : decode cX4_ranksBefore 43 = .ok (.iconst 0, 1) := by decide +kernel
theorem dX4_ranksBefore_44 : decode cX4_ranksBefore 44 = .ok (.ireturn, 1) := by decide +kernel
theorem dX5_init_0 : decode cX5_init 0 = .ok (.aload_n 0, 1) := by decide +kernel
theorem dX5_init_1 : decode cX5_init 1 = .ok (.invokespecial 3, 3) := by decide +kernel
theorem dX5_init_4 : decode cX5_init 4 = .ok (.aload_n 0, 1) := by decide +kernel
theorem dX5_init_5 : decode cX5_init 5 = .ok (.new 9, 3) := by decide +kernel
theorem dX5_init_8 : decode cX5_init 8 = .ok (.dup, 1) := by decide +kernel
theorem dX5_init_9 : decode cX5_init 9 = .ok (.invokespecial 11, 3) := by decide +kernel
theorem dX5_init_12 : decode cX5_init 12 = .ok (.putfield 12, 3) := by decide +kernel
theorem dX5_init_15 : decode cX5_init 15 = .ok (.aload_n 0, 1) := by decide +kernel
theorem dX5_init_16 : decode cX5_init 16 = .ok (.new 9, 3) := by decide +kernel
theorem dX5_init_19 : decode cX5_init 19 = .ok (.dup, 1) := by decide +kernel
theorem dX5_init_20 : decode cX5_init 20 = .ok (.invokespecial 11, 3) := by decide +kernel
theorem dX5_init_23 : decode cX5_init 23 = .ok (.putfield 16, 3) := by decide +kernel
theorem dX5_init_26 : decode cX5_init 26 = .ok (.aload_n 0, 1) := by decide +kernel
theorem dX5_init_27 : decode cX5_init 27 = .ok (.bipush 9, 2) := by decide +kernel
theorem dX5_init_29 : decode cX5_init 29 = .ok (.anewarray 9, 3) := by decide +kernel
theorem dX5_init_32 : decode cX5_init 32 = .ok (.putfield 19, 3) := by decide +kernel
theorem dX5_init_35 : decode cX5_init 35 = .ok (.aload_n 0, 1) := by decide +kernel
theorem dX5_init_36 : decode cX5_init 36 = .ok (.new 23, 3) := by decide +kernel
theorem dX5_init_39 : decode cX5_init 39 = .ok (.dup, 1) := by decide +kernel
theorem dX5_init_40 : decode cX5_init 40 = .ok (.invokespecial 25, 3) := by decide +kernel
theorem dX5_init_43 : decode cX5_init 43 = .ok (.putfield 26, 3) := by decide +kernel
theorem dX5_init_46 : decode cX5_init 46 = .ok (.aload_n 0, 1) := by decide +kernel
theorem dX5_init_47 : decode cX5_init 47 = .ok (.new 23, 3) := by decide +kernel
theorem dX5_init_50 : decode cX5_init 50 = .ok (.dup, 1) := by decide +kernel
theorem dX5_init_51 : decode cX5_init 51 = .ok (.invokespecial 25, 3) := by decide +kernel
theorem dX5_init_54 : decode cX5_init 54 = .ok (.putfield 30, 3) := by decide +kernel
theorem dX5_init_57 : decode cX5_init 57 = .ok (.aload_n 0, 1) := by decide +kernel
theorem dX5_init_58 : decode cX5_init 58 = .ok (.iconst 0, 1) := by decide +kernel
theorem dX5_init_59 : decode cX5_init 59 = .ok (.putfield 33, 3) := by decide +kernel
theorem dX5_init_62 : decode cX5_init 62 = .ok (.aload_n 0, 1) := by decide +kernel
theorem dX5_init_63 : decode cX5_init 63 = .ok (.iconst 0, 1) := by decide +kernel
theorem dX5_init_64 : decode cX5_init 64 = .ok (.putfield 37, 3) := by decide +kernel
theorem dX5_init_67 : decode cX5_init 67 = .ok (.aload_n 0, 1) := by decide +kernel
theorem dX5_init_68 : decode cX5_init 68 = .ok (.iconst (-1), 1) := by decide +kernel
theorem dX5_init_69 : decode cX5_init 69 = .ok (.putfield 41, 3) := by decide +kernel
theorem dX5_init_72 : decode cX5_init 72 = .ok (.aload_n 0, 1) := by decide +kernel
theorem dX5_init_73 : decode cX5_init 73 = .ok (.iconst (-1), 1) := by decide +kernel
theorem dX5_init_74 : decode cX5_init 74 = .ok (.putfield 44, 3) := by decide +kernel
theorem dX5_init_77 : decode cX5_init 77 = .ok (.iconst 0, 1) := by decide +kernel
theorem dX5_init_78 : decode cX5_init 78 = .ok (.istore_n 1, 1) := by decide +kernel
theorem dX5_init_79 : decode cX5_init 79 = .ok (.iload_n 1, 1) := by decide +kernel
theorem dX5_init_80 : decode cX5_init 80 = .ok (.aload_n 0, 1) := by decide +kernel
theorem dX5_init_81 : decode cX5_init 81 = .ok (.getfield 19, 3) := by decide +kernel
theorem dX5_init_84 : decode cX5_init 84 = .ok (.arraylength, 1) := by decide +kernel
theorem dX5_init_85 : decode cX5_init 85 = .ok (.if_icmp .ge 22, 3) := by decide +kernel
theorem dX5_init_88 : decode cX5_init 88 = .ok (.aload_n 0, 1) := by decide +kernel
theorem dX5_init_89 : decode cX5_init 89 = .ok (.getfield 19, 3) := by decide +kernel
theorem dX5_init_92 : decode cX5_init 92 = .ok (.iload_n 1, 1) := by decide +kernel
theorem dX5_init_93 : decode cX5_init 93 = .ok (.new 9, 3) := by decide +kernel
theorem dX5_init_96 : decode cX5_init 96 = .ok (.dup, 1) := by decide +kernel
theorem dX5_init_97 : decode cX5_init 97 = .ok (.invokespecial 11, 3) := by decide +kernel
theorem dX5_init_100 : decode cX5_init 100 = .ok (.aastore, 1) := by decide +kernel
theorem dX5_init_101 : decode cX5_init 101 = .ok (.iinc 1 1, 3) := by decide +kernel
theorem dX5_init_104 : decode cX5_init 104 = .ok (.goto (-25), 3) := by decide +kernel
theorem dX5_init_107 : decode cX5_init 107 = .ok (.return_, 1) := by decide +kernel
theorem dX5_addUmbrella_0 : decode cX5_addUmbrella 0 = .ok (.aload_n 0, 1) := by decide +kernel
theorem dX5_addUmbrella_1 : decode cX5_addUmbrella 1 = .ok (.getstatic 47, 3) := by decide +kernel
theorem dX5_addUmbrella_4 : decode cX5_addUmbrella 4 = .ok (.iload_n 1, 1) := by decide +kernel
theorem dX5_addUmbrella_5 : decode cX5_addUmbrella 5 = .ok (.iconst 0, 1) := by decide +kernel
theorem dX5_addUmbrella_6 : decode cX5_addUmbrella 6 = .ok (.iconst 0, 1) := by decide +kernel
theorem dX5_addUmbrella_7 : decode cX5_addUmbrella 7 = .ok (.iconst 0, 1) := by decide +kernel
theorem dX5_addUmbrella_8 : decode cX5_addUmbrella 8 = .ok (.invokevirtual 53, 3) := by decide +kernel
theorem dX5_addUmbrella_11 : decode cX5_addUmbrella 11 = .ok (.ireturn, 1) := by decide +kernel
theorem dX5_train_0 : decode cX5_train 0 = .ok (.aload_n 0, 1) := by decide +kernel
theorem dX5_train_1 : decode cX5_train 1 = .ok (.getstatic 57, 3) := by decide +kernel
theorem dX5_train_4 : decode cX5_train 4 = .ok (.iload_n 1, 1) := by decide +kernel
theorem dX5_train_5 : decode cX5_train 5 = .ok (.iload_n 2, 1) := by decide +kernel
theorem dX5_train_6 : decode cX5_train 6 = .ok (.iload_n 3, 1) := by decide +kernel
theorem dX5_train_7 : decode cX5_train 7 = .ok (.iload 4, 2) := by decide +kernel
theorem dX5_train_9 : decode cX5_train 9 = .ok (.invokevirtual 53, 3) := by decide +kernel
theorem dX5_train_12 : decode cX5_train 12 = .ok (.ireturn, 1) := by decide +kernel
theorem dX5_setPeriod_0 : decode cX5_setPeriod 0 = .ok (.aload_n 0, 1) := by decide +kernel
theorem dX5_setPeriod_1 : decode cX5_setPeriod 1 = .ok (.getstatic 60, 3) := by decide +kernel
theorem dX5_setPeriod_4 : decode cX5_setPeriod 4 = .ok (.iload_n 1, 1) := by decide +kernel
theorem dX5_setPeriod_5 : decode cX5_setPeriod 5 = .ok (.iload_n 2, 1) := by decide +kernel
theorem dX5_setPeriod_6 : decode cX5_setPeriod 6 = .ok (.iconst 0, 1) := by decide +kernel
theorem dX5_setPeriod_7 : decode cX5_setPeriod 7 = .ok (.iconst 0, 1) := by decide +kernel
theorem dX5_setPeriod_8 : decode cX5_setPeriod 8 = .ok (.invokevirtual 53, 3) := by decide +kernel
theorem dX5_setPeriod_11 : decode cX5_setPeriod 11 = .ok (.ireturn, 1) := by decide +kernel
theorem dX5_setWetPenalty_0 : decode cX5_setWetPenalty 0 = .ok (.aload_n 0, 1) := by decide +kernel
theorem dX5_setWetPenalty_1 : decode cX5_setWetPenalty 1 = .ok (.getstatic 63, 3) := by decide +kernel
theorem dX5_setWetPenalty_4 : decode cX5_setWetPenalty 4 = .ok (.iload_n 1, 1) := by decide +kernel
theorem dX5_setWetPenalty_5 : decode cX5_setWetPenalty 5 = .ok (.iconst 0, 1) := by decide +kernel
theorem dX5_setWetPenalty_6 : decode cX5_setWetPenalty 6 = .ok (.iconst 0, 1) := by decide +kernel
theorem dX5_setWetPenalty_7 : decode cX5_setWetPenalty 7 = .ok (.iconst 0, 1) := by decide +kernel
theorem dX5_setWetPenalty_8 : decode cX5_setWetPenalty 8 = .ok (.invokevirtual 53, 3) := by decide +kernel
theorem dX5_setWetPenalty_11 : decode cX5_setWetPenalty 11 = .ok (.ireturn, 1) := by decide +kernel
theorem dX5_setGalePenalty_0 : decode cX5_setGalePenalty 0 = .ok (.aload_n 0, 1) := by decide +kernel
theorem dX5_setGalePenalty_1 : decode cX5_setGalePenalty 1 = .ok (.getstatic 66, 3) := by decide +kernel
theorem dX5_setGalePenalty_4 : decode cX5_setGalePenalty 4 = .ok (.iload_n 1, 1) := by decide +kernel
theorem dX5_setGalePenalty_5 : decode cX5_setGalePenalty 5 = .ok (.iconst 0, 1) := by decide +kernel
theorem dX5_setGalePenalty_6 : decode cX5_setGalePenalty 6 = .ok (.iconst 0, 1) := by decide +kernel
theorem dX5_setGalePenalty_7 : decode cX5_setGalePenalty 7 = .ok (.iconst 0, 1) := by decide +kernel
theorem dX5_setGalePenalty_8 : decode cX5_setGalePenalty 8 = .ok (.invokevirtual 53, 3) := by decide +kernel
theorem dX5_setGalePenalty_11 : decode cX5_setGalePenalty 11 = .ok (.ireturn, 1) := by decide +kernel
theorem dX5_forgetRain_0 : decode cX5_forgetRain 0 = .ok (.aload_n 0, 1) := by decide +kernel
theorem dX5_forgetRain_1 : decode cX5_forgetRain 1 = .ok (.getstatic 69, 3) := by decide +kernel
theorem dX5_forgetRain_4 : decode cX5_forgetRain 4 = .ok (.iload_n 1, 1) := by decide +kernel
theorem dX5_forgetRain_5 : decode cX5_forgetRain 5 = .ok (.iload_n 2, 1) := by decide +kernel
theorem dX5_forgetRain_6 : decode cX5_forgetRain 6 = .ok (.iconst 0, 1) := by decide +kernel
theorem dX5_forgetRain_7 : decode cX5_forgetRain 7 = .ok (.iconst 0, 1) := by decide +kernel
theorem dX5_forgetRain_8 : decode cX5_forgetRain 8 = .ok (.invokevirtual 53, 3) := by decide +kernel
theorem dX5_forgetRain_11 : decode cX5_forgetRain 11 = .ok (.ireturn, 1) := by decide +kernel
theorem dX5_examine_0 : decode cX5_examine 0 = .ok (.aload_n 0, 1) := by decide +kernel
theorem dX5_examine_1 : decode cX5_examine 1 = .ok (.getstatic 72, 3) := by decide +kernel
theorem dX5_examine_4 : decode cX5_examine 4 = .ok (.iload_n 1, 1) := by decide +kernel
theorem dX5_examine_5 : decode cX5_examine 5 = .ok (.iload_n 2, 1) := by decide +kernel
theorem dX5_examine_6 : decode cX5_examine 6 = .ok (.iconst 0, 1) := by decide +kernel
theorem dX5_examine_7 : decode cX5_examine 7 = .ok (.iconst 0, 1) := by decide +kernel
theorem dX5_examine_8 : decode cX5_examine 8 = .ok (.invokevirtual 53, 3) := by decide +kernel
theorem dX5_examine_11 : decode cX5_examine 11 = .ok (.ireturn, 1) := by decide +kernel
theorem dX5_endTerm_0 : decode cX5_endTerm 0 = .ok (.aload_n 0, 1) := by decide +kernel
theorem dX5_endTerm_1 : decode cX5_endTerm 1 = .ok (.getstatic 75, 3) := by decide +kernel
theorem dX5_endTerm_4 : decode cX5_endTerm 4 = .ok (.iconst 0, 1) := by decide +kernel
theorem dX5_endTerm_5 : decode cX5_endTerm 5 = .ok (.iconst 0, 1) := by decide +kernel
theorem dX5_endTerm_6 : decode cX5_endTerm 6 = .ok (.iconst 0, 1) := by decide +kernel
theorem dX5_endTerm_7 : decode cX5_endTerm 7 = .ok (.iconst 0, 1) := by decide +kernel
theorem dX5_endTerm_8 : decode cX5_endTerm 8 = .ok (.invokevirtual 53, 3) := by decide +kernel
theorem dX5_endTerm_11 : decode cX5_endTerm 11 = .ok (.ireturn, 1) := by decide +kernel
theorem dX5_umbrellaCount_0 : decode cX5_umbrellaCount 0 = .ok (.aload_n 0, 1) := by decide +kernel
theorem dX5_umbrellaCount_1 : decode cX5_umbrellaCount 1 = .ok (.getfield 12, 3) := by decide +kernel
theorem dX5_umbrellaCount_4 : decode cX5_umbrellaCount 4 = .ok (.getfield 78, 3) := by decide +kernel
theorem dX5_umbrellaCount_7 : decode cX5_umbrellaCount 7 = .ok (.ireturn, 1) := by decide +kernel
theorem dX5_memory_0 : decode cX5_memory 0 = .ok (.aload_n 0, 1) := by decide +kernel
theorem dX5_memory_1 : decode cX5_memory 1 = .ok (.getfield 12, 3) := by decide +kernel
theorem dX5_memory_4 : decode cX5_memory 4 = .ok (.iload_n 1, 1) := by decide +kernel
theorem dX5_memory_5 : decode cX5_memory 5 = .ok (.invokevirtual 81, 3) := by decide +kernel
theorem dX5_memory_8 : decode cX5_memory 8 = .ok (.getfield 85, 3) := by decide +kernel
theorem dX5_memory_11 : decode cX5_memory 11 = .ok (.ireturn, 1) := by decide +kernel
theorem dX5_period_0 : decode cX5_period 0 = .ok (.aload_n 0, 1) := by decide +kernel
theorem dX5_period_1 : decode cX5_period 1 = .ok (.getfield 12, 3) := by decide +kernel
theorem dX5_period_4 : decode cX5_period 4 = .ok (.iload_n 1, 1) := by decide +kernel
theorem dX5_period_5 : decode cX5_period 5 = .ok (.invokevirtual 81, 3) := by decide +kernel
theorem dX5_period_8 : decode cX5_period 8 = .ok (.getfield 90, 3) := by decide +kernel
theorem dX5_period_11 : decode cX5_period 11 = .ok (.ireturn, 1) := by decide +kernel
theorem dX5_trials_0 : decode cX5_trials 0 = .ok (.aload_n 0, 1) := by decide +kernel
theorem dX5_trials_1 : decode cX5_trials 1 = .ok (.getfield 12, 3) := by decide +kernel
theorem dX5_trials_4 : decode cX5_trials 4 = .ok (.iload_n 1, 1) := by decide +kernel
theorem dX5_trials_5 : decode cX5_trials 5 = .ok (.invokevirtual 81, 3) := by decide +kernel
theorem dX5_trials_8 : decode cX5_trials 8 = .ok (.getfield 93, 3) := by decide +kernel
theorem dX5_trials_11 : decode cX5_trials 11 = .ok (.ireturn, 1) := by decide +kernel
theorem dX5_rememberedTrials_0 : decode cX5_rememberedTrials 0 = .ok (.aload_n 0, 1) := by decide +kernel
theorem dX5_rememberedTrials_1 : decode cX5_rememberedTrials 1 = .ok (.getfield 12, 3) := by decide +kernel
theorem dX5_rememberedTrials_4 : decode cX5_rememberedTrials 4 = .ok (.iload_n 1, 1) := by decide +kernel
theorem dX5_rememberedTrials_5 : decode cX5_rememberedTrials 5 = .ok (.invokevirtual 81, 3) := by decide +kernel
theorem dX5_rememberedTrials_8 : decode cX5_rememberedTrials 8 = .ok (.getfield 96, 3) := by decide +kernel
theorem dX5_rememberedTrials_11 : decode cX5_rememberedTrials 11 = .ok (.ireturn, 1) := by decide +kernel
theorem dX5_trialRain_0 : decode cX5_trialRain 0 = .ok (.aload_n 0, 1) := by decide +kernel
theorem dX5_trialRain_1 : decode cX5_trialRain 1 = .ok (.getfield 12, 3) := by decide +kernel
theorem dX5_trialRain_4 : decode cX5_trialRain 4 = .ok (.iload_n 1, 1) := by decide +kernel
theorem dX5_trialRain_5 : decode cX5_trialRain 5 = .ok (.invokevirtual 81, 3) := by decide +kernel
theorem dX5_trialRain_8 : decode cX5_trialRain 8 = .ok (.astore_n 3, 1) := by decide +kernel
theorem dX5_trialRain_9 : decode cX5_trialRain 9 = .ok (.aload_n 3, 1) := by decide +kernel
theorem dX5_trialRain_10 : decode cX5_trialRain 10 = .ok (.getfield 99, 3) := by decide +kernel
theorem dX5_trialRain_13 : decode cX5_trialRain 13 = .ok (.aload_n 3, 1) := by decide +kernel
theorem dX5_trialRain_14 : decode cX5_trialRain 14 = .ok (.iload_n 2, 1) := by decide +kernel
theorem dX5_trialRain_15 : decode cX5_trialRain 15 = .ok (.invokestatic 103, 3) := by decide +kernel
theorem dX5_trialRain_18 : decode cX5_trialRain 18 = .ok (.invokestatic 107, 3) := by decide +kernel
theorem dX5_trialRain_21 : decode cX5_trialRain 21 = .ok (.invokestatic 111, 3) := by decide +kernel
theorem dX5_trialRain_24 : decode cX5_trialRain 24 = .ok (.ireturn, 1) := by decide +kernel
theorem dX5_trialOpened_0 : decode cX5_trialOpened 0 = .ok (.aload_n 0, 1) := by decide +kernel
theorem dX5_trialOpened_1 : decode cX5_trialOpened 1 = .ok (.getfield 12, 3) := by decide +kernel
theorem dX5_trialOpened_4 : decode cX5_trialOpened 4 = .ok (.iload_n 1, 1) := by decide +kernel
theorem dX5_trialOpened_5 : decode cX5_trialOpened 5 = .ok (.invokevirtual 81, 3) := by decide +kernel
theorem dX5_trialOpened_8 : decode cX5_trialOpened 8 = .ok (.astore_n 3, 1) := by decide +kernel
theorem dX5_trialOpened_9 : decode cX5_trialOpened 9 = .ok (.aload_n 3, 1) := by decide +kernel
theorem dX5_trialOpened_10 : decode cX5_trialOpened 10 = .ok (.getfield 99, 3) := by decide +kernel
theorem dX5_trialOpened_13 : decode cX5_trialOpened 13 = .ok (.aload_n 3, 1) := by decide +kernel
theorem dX5_trialOpened_14 : decode cX5_trialOpened 14 = .ok (.iload_n 2, 1) := by decide +kernel
theorem dX5_trialOpened_15 : decode cX5_trialOpened 15 = .ok (.invokestatic 103, 3) := by decide +kernel
theorem dX5_trialOpened_18 : decode cX5_trialOpened 18 = .ok (.invokestatic 107, 3) := by decide +kernel
theorem dX5_trialOpened_21 : decode cX5_trialOpened 21 = .ok (.invokestatic 115, 3) := by decide +kernel
theorem dX5_trialOpened_24 : decode cX5_trialOpened 24 = .ok (.ireturn, 1) := by decide +kernel
theorem dX5_trialReward_0 : decode cX5_trialReward 0 = .ok (.aload_n 0, 1) := by decide +kernel
theorem dX5_trialReward_1 : decode cX5_trialReward 1 = .ok (.getfield 12, 3) := by decide +kernel
theorem dX5_trialReward_4 : decode cX5_trialReward 4 = .ok (.iload_n 1, 1) := by decide +kernel
theorem dX5_trialReward_5 : decode cX5_trialReward 5 = .ok (.invokevirtual 81, 3) := by decide +kernel
theorem dX5_trialReward_8 : decode cX5_trialReward 8 = .ok (.astore_n 3, 1) := by decide +kernel
theorem dX5_trialReward_9 : decode cX5_trialReward 9 = .ok (.aload_n 3, 1) := by decide +kernel
theorem dX5_trialReward_10 : decode cX5_trialReward 10 = .ok (.getfield 119, 3) := by decide +kernel
theorem dX5_trialReward_13 : decode cX5_trialReward 13 = .ok (.aload_n 3, 1) := by decide +kernel
theorem dX5_trialReward_14 : decode cX5_trialReward 14 = .ok (.iload_n 2, 1) := by decide +kernel
theorem dX5_trialReward_15 : decode cX5_trialReward 15 = .ok (.invokestatic 103, 3) := by decide +kernel
theorem dX5_trialReward_18 : decode cX5_trialReward 18 = .ok (.invokestatic 107, 3) := by decide +kernel
theorem dX5_trialReward_21 : decode cX5_trialReward 21 = .ok (.ireturn, 1) := by decide +kernel
theorem dX5_reward_0 : decode cX5_reward 0 = .ok (.iload_n 1, 1) := by decide +kernel
theorem dX5_reward_1 : decode cX5_reward 1 = .ok (.iload_n 2, 1) := by decide +kernel
theorem dX5_reward_2 : decode cX5_reward 2 = .ok (.invokestatic 122, 3) := by decide +kernel
theorem dX5_reward_5 : decode cX5_reward 5 = .ok (.aload_n 0, 1) := by decide +kernel
theorem dX5_reward_6 : decode cX5_reward 6 = .ok (.getfield 12, 3) := by decide +kernel
theorem dX5_reward_9 : decode cX5_reward 9 = .ok (.iload_n 1, 1) := by decide +kernel
theorem dX5_reward_10 : decode cX5_reward 10 = .ok (.iload_n 2, 1) := by decide +kernel
theorem dX5_reward_11 : decode cX5_reward 11 = .ok (.iload_n 3, 1) := by decide +kernel
theorem dX5_reward_12 : decode cX5_reward 12 = .ok (.invokevirtual 126, 3) := by decide +kernel
theorem dX5_reward_15 : decode cX5_reward 15 = .ok (.ireturn, 1) := by decide +kernel
theorem dX5_shouldOpen_0 : decode cX5_shouldOpen 0 = .ok (.iload_n 1, 1) := by decide +kernel
theorem dX5_shouldOpen_1 : decode cX5_shouldOpen 1 = .ok (.iload_n 2, 1) := by decide +kernel
theorem dX5_shouldOpen_2 : decode cX5_shouldOpen 2 = .ok (.invokestatic 122, 3) := by decide +kernel
theorem dX5_shouldOpen_5 : decode cX5_shouldOpen 5 = .ok (.aload_n 0, 1) := by decide +kernel
theorem dX5_shouldOpen_6 : decode cX5_shouldOpen 6 = .ok (.getfield 12, 3) := by decide +kernel
theorem dX5_shouldOpen_9 : decode cX5_shouldOpen 9 = .ok (.iload_n 1, 1) := by decide +kernel
theorem dX5_shouldOpen_10 : decode cX5_shouldOpen 10 = .ok (.iload_n 2, 1) := by decide +kernel
theorem dX5_shouldOpen_11 : decode cX5_shouldOpen 11 = .ok (.invokevirtual 130, 3) := by decide +kernel
theorem dX5_shouldOpen_14 : decode cX5_shouldOpen 14 = .ok (.ireturn, 1) := by decide +kernel
theorem dX5_wouldOpen_0 : decode cX5_wouldOpen 0 = .ok (.aload_n 0, 1) := by decide +kernel
theorem dX5_wouldOpen_1 : decode cX5_wouldOpen 1 = .ok (.getfield 12, 3) := by decide +kernel
theorem dX5_wouldOpen_4 : decode cX5_wouldOpen 4 = .ok (.iload_n 1, 1) := by decide +kernel
theorem dX5_wouldOpen_5 : decode cX5_wouldOpen 5 = .ok (.invokevirtual 81, 3) := by decide +kernel
theorem dX5_wouldOpen_8 : decode cX5_wouldOpen 8 = .ok (.astore 4, 2) := by decide +kernel
theorem dX5_wouldOpen_10 : decode cX5_wouldOpen 10 = .ok (.iload_n 2, 1) := by decide +kernel
theorem dX5_wouldOpen_11 : decode cX5_wouldOpen 11 = .ok (.iload_n 3, 1) := by decide +kernel
theorem dX5_wouldOpen_12 : decode cX5_wouldOpen 12 = .ok (.invokestatic 122, 3) := by decide +kernel
theorem dX5_wouldOpen_15 : decode cX5_wouldOpen 15 = .ok (.aload 4, 2) := by decide +kernel
theorem dX5_wouldOpen_17 : decode cX5_wouldOpen 17 = .ok (.iload_n 2, 1) := by decide +kernel
theorem dX5_wouldOpen_18 : decode cX5_wouldOpen 18 = .ok (.iload_n 3, 1) := by decide +kernel
theorem dX5_wouldOpen_19 : decode cX5_wouldOpen 19 = .ok (.invokestatic 134, 3) := by decide +kernel
theorem dX5_wouldOpen_22 : decode cX5_wouldOpen 22 = .ok (.invokevirtual 138, 3) := by decide +kernel
theorem dX5_wouldOpen_25 : decode cX5_wouldOpen 25 = .ok (.ireturn, 1) := by decide +kernel
theorem dX5_exploresNext_0 : decode cX5_exploresNext 0 = .ok (.aload_n 0, 1) := by decide +kernel
theorem dX5_exploresNext_1 : decode cX5_exploresNext 1 = .ok (.getfield 12, 3) := by decide +kernel
theorem dX5_exploresNext_4 : decode cX5_exploresNext 4 = .ok (.iload_n 1, 1) := by decide +kernel
theorem dX5_exploresNext_5 : decode cX5_exploresNext 5 = .ok (.invokevirtual 81, 3) := by decide +kernel
theorem dX5_exploresNext_8 : decode cX5_exploresNext 8 = .ok (.invokevirtual 141, 3) := by decide +kernel
theorem dX5_exploresNext_11 : decode cX5_exploresNext 11 = .ok (.ireturn, 1) := by decide +kernel
theorem dX5_timesTried_0 : decode cX5_timesTried 0 = .ok (.aload_n 0, 1) := by decide +kernel
theorem dX5_timesTried_1 : decode cX5_timesTried 1 = .ok (.getfield 12, 3) := by decide +kernel
theorem dX5_timesTried_4 : decode cX5_timesTried 4 = .ok (.iload_n 1, 1) := by decide +kernel
theorem dX5_timesTried_5 : decode cX5_timesTried 5 = .ok (.invokevirtual 81, 3) := by decide +kernel
theorem dX5_timesTried_8 : decode cX5_timesTried 8 = .ok (.astore 5, 2) := by decide +kernel
theorem dX5_timesTried_10 : decode cX5_timesTried 10 = .ok (.iload_n 2, 1) := by decide +kernel
theorem dX5_timesTried_11 : decode cX5_timesTried 11 = .ok (.iload_n 3, 1) := by decide +kernel
theorem dX5_timesTried_12 : decode cX5_timesTried 12 = .ok (.invokestatic 122, 3) := by decide +kernel
theorem dX5_timesTried_15 : decode cX5_timesTried 15 = .ok (.aload 5, 2) := by decide +kernel
theorem dX5_timesTried_17 : decode cX5_timesTried 17 = .ok (.getfield 145, 3) := by decide +kernel
theorem dX5_timesTried_20 : decode cX5_timesTried 20 = .ok (.iload_n 2, 1) := by decide +kernel
theorem dX5_timesTried_21 : decode cX5_timesTried 21 = .ok (.iload_n 3, 1) := by decide +kernel
theorem dX5_timesTried_22 : decode cX5_timesTried 22 = .ok (.iload 4, 2) := by decide +kernel
theorem dX5_timesTried_24 : decode cX5_timesTried 24 = .ok (.invokestatic 148, 3) := by decide +kernel
theorem dX5_timesTried_27 : decode cX5_timesTried 27 = .ok (.invokestatic 107, 3) := by decide +kernel
theorem dX5_timesTried_30 : decode cX5_timesTried 30 = .ok (.ireturn, 1) := by decide +kernel
theorem dX5_rewardSum_0 : decode cX5_rewardSum 0 = .ok (.aload_n 0, 1) := by decide +kernel
theorem dX5_rewardSum_1 : decode cX5_rewardSum 1 = .ok (.getfield 12, 3) := by decide +kernel
theorem dX5_rewardSum_4 : decode cX5_rewardSum 4 = .ok (.iload_n 1, 1) := by decide +kernel
theorem dX5_rewardSum_5 : decode cX5_rewardSum 5 = .ok (.invokevirtual 81, 3) := by decide +kernel
theorem dX5_rewardSum_8 : decode cX5_rewardSum 8 = .ok (.astore 5, 2) := by decide +kernel
theorem dX5_rewardSum_10 : decode cX5_rewardSum 10 = .ok (.iload_n 2, 1) := by decide +kernel
theorem dX5_rewardSum_11 : decode cX5_rewardSum 11 = .ok (.iload_n 3, 1) := by decide +kernel
theorem dX5_rewardSum_12 : decode cX5_rewardSum 12 = .ok (.invokestatic 122, 3) := by decide +kernel
theorem dX5_rewardSum_15 : decode cX5_rewardSum 15 = .ok (.aload 5, 2) := by decide +kernel
theorem dX5_rewardSum_17 : decode cX5_rewardSum 17 = .ok (.getfield 151, 3) := by decide +kernel
theorem dX5_rewardSum_20 : decode cX5_rewardSum 20 = .ok (.iload_n 2, 1) := by decide +kernel
theorem dX5_rewardSum_21 : decode cX5_rewardSum 21 = .ok (.iload_n 3, 1) := by decide +kernel
theorem dX5_rewardSum_22 : decode cX5_rewardSum 22 = .ok (.iload 4, 2) := by decide +kernel
theorem dX5_rewardSum_24 : decode cX5_rewardSum 24 = .ok (.invokestatic 148, 3) := by decide +kernel
theorem dX5_rewardSum_27 : decode cX5_rewardSum 27 = .ok (.invokestatic 107, 3) := by decide +kernel
theorem dX5_rewardSum_30 : decode cX5_rewardSum 30 = .ok (.ireturn, 1) := by decide +kernel
theorem dX5_rewardSumByTrials_0 : decode cX5_rewardSumByTrials 0 = .ok (.aload_n 0, 1) := by decide +kernel
theorem dX5_rewardSumByTrials_1 : decode cX5_rewardSumByTrials 1 = .ok (.getfield 12, 3) := by decide +kernel
theorem dX5_rewardSumByTrials_4 : decode cX5_rewardSumByTrials 4 = .ok (.iload_n 1, 1) := by decide +kernel
theorem dX5_rewardSumByTrials_5 : decode cX5_rewardSumByTrials 5 = .ok (.invokevirtual 81, 3) := by decide +kernel
theorem dX5_rewardSumByTrials_8 : decode cX5_rewardSumByTrials 8 = .ok (.astore 5, 2) := by decide +kernel
theorem dX5_rewardSumByTrials_10 : decode cX5_rewardSumByTrials 10 = .ok (.iload_n 2, 1) := by decide +kernel
theorem dX5_rewardSumByTrials_11 : decode cX5_rewardSumByTrials 11 = .ok (.iload_n 3, 1) := by decide +kernel
theorem dX5_rewardSumByTrials_12 : decode cX5_rewardSumByTrials 12 = .ok (.invokestatic 122, 3) := by decide +kernel
theorem dX5_rewardSumByTrials_15 : decode cX5_rewardSumByTrials 15 = .ok (.aload 5, 2) := by decide +kernel
theorem dX5_rewardSumByTrials_17 : decode cX5_rewardSumByTrials 17 = .ok (.iload_n 2, 1) := by decide +kernel
theorem dX5_rewardSumByTrials_18 : decode cX5_rewardSumByTrials 18 = .ok (.iload_n 3, 1) := by decide +kernel
theorem dX5_rewardSumByTrials_19 : decode cX5_rewardSumByTrials 19 = .ok (.iload 4, 2) := by decide +kernel
theorem dX5_rewardSumByTrials_21 : decode cX5_rewardSumByTrials 21 = .ok (.invokestatic 148, 3) := by decide +kernel
theorem dX5_rewardSumByTrials_24 : decode cX5_rewardSumByTrials 24 = .ok (.invokevirtual 154, 3) := by decide +kernel
theorem dX5_rewardSumByTrials_27 : decode cX5_rewardSumByTrials 27 = .ok (.ireturn, 1) := by decide +kernel
theorem dX5_meanReward_0 : decode cX5_meanReward 0 = .ok (.aload_n 0, 1) := by decide +kernel
theorem dX5_meanReward_1 : decode cX5_meanReward 1 = .ok (.getfield 12, 3) := by decide +kernel
theorem dX5_meanReward_4 : decode cX5_meanReward 4 = .ok (.iload_n 1, 1) := by decide +kernel
theorem dX5_meanReward_5 : decode cX5_meanReward 5 = .ok (.invokevirtual 81, 3) := by decide +kernel
theorem dX5_meanReward_8 : decode cX5_meanReward 8 = .ok (.astore 5, 2) := by decide +kernel
theorem dX5_meanReward_10 : decode cX5_meanReward 10 = .ok (.iload_n 2, 1) := by decide +kernel
theorem dX5_meanReward_11 : decode cX5_meanReward 11 = .ok (.iload_n 3, 1) := by decide +kernel
theorem dX5_meanReward_12 : decode cX5_meanReward 12 = .ok (.invokestatic 122, 3) := by decide +kernel
theorem dX5_meanReward_15 : decode cX5_meanReward 15 = .ok (.iload_n 2, 1) := by decide +kernel
theorem dX5_meanReward_16 : decode cX5_meanReward 16 = .ok (.iload_n 3, 1) := by decide +kernel
theorem dX5_meanReward_17 : decode cX5_meanReward 17 = .ok (.iload 4, 2) := by decide +kernel
theorem dX5_meanReward_19 : decode cX5_meanReward 19 = .ok (.invokestatic 148, 3) := by decide +kernel
theorem dX5_meanReward_22 : decode cX5_meanReward 22 = .ok (.istore 6, 2) := by decide +kernel
theorem dX5_meanReward_24 : decode cX5_meanReward 24 = .ok (.aload 5, 2) := by decide +kernel
theorem dX5_meanReward_26 : decode cX5_meanReward 26 = .ok (.getfield 145, 3) := by decide +kernel
theorem dX5_meanReward_29 : decode cX5_meanReward 29 = .ok (.iload 6, 2) := by decide +kernel
theorem dX5_meanReward_31 : decode cX5_meanReward 31 = .ok (.invokestatic 107, 3) := by decide +kernel
theorem dX5_meanReward_34 : decode cX5_meanReward 34 = .ok (.istore 7, 2) := by decide +kernel
theorem dX5_meanReward_36 : decode cX5_meanReward 36 = .ok (.iload 7, 2) := by decide +kernel
theorem dX5_meanReward_38 : decode cX5_meanReward 38 = .ok (.ifCond .ne 13, 3) := by decide +kernel
theorem dX5_meanReward_41 : decode cX5_meanReward 41 = .ok (.new 157, 3) := by decide +kernel
theorem dX5_meanReward_44 : decode cX5_meanReward 44 = .ok (.dup, 1) := by decide +kernel
theorem dX5_meanReward_45 : decode cX5_meanReward 45 = .ok (.ldc 159, 2) := by decide +kernel
theorem dX5_meanReward_47 : decode cX5_meanReward 47 = .ok (.invokespecial 161, 3) := by decide +kernel
theorem dX5_meanReward_50 : decode cX5_meanReward 50 = .ok (.athrow, 1) := by decide +kernel
theorem dX5_meanReward_51 : decode cX5_meanReward 51 = .ok (.aload 5, 2) := by decide +kernel
theorem dX5_meanReward_53 : decode cX5_meanReward 53 = .ok (.getfield 151, 3) := by decide +kernel
theorem dX5_meanReward_56 : decode cX5_meanReward 56 = .ok (.iload 6, 2) := by decide +kernel
theorem dX5_meanReward_58 : decode cX5_meanReward 58 = .ok (.invokestatic 107, 3) := by decide +kernel
theorem dX5_meanReward_61 : decode cX5_meanReward 61 = .ok (.i2d, 1) := by decide +kernel
theorem dX5_meanReward_62 : decode cX5_meanReward 62 = .ok (.iload 7, 2) := by decide +kernel
theorem dX5_meanReward_64 : decode cX5_meanReward 64 = .ok (.i2d, 1) := by decide +kernel
theorem dX5_meanReward_65 : decode cX5_meanReward 65 = .ok (.ddiv, 1) := by decide +kernel
theorem dX5_meanReward_66 : decode cX5_meanReward 66 = .ok (.dreturn, 1) := by decide +kernel
theorem dX5_rightHabits_0 : decode cX5_rightHabits 0 = .ok (.aload_n 0, 1) := by decide +kernel
theorem dX5_rightHabits_1 : decode cX5_rightHabits 1 = .ok (.getfield 12, 3) := by decide +kernel
theorem dX5_rightHabits_4 : decode cX5_rightHabits 4 = .ok (.iload_n 1, 1) := by decide +kernel
theorem dX5_rightHabits_5 : decode cX5_rightHabits 5 = .ok (.invokevirtual 81, 3) := by decide +kernel
theorem dX5_rightHabits_8 : decode cX5_rightHabits 8 = .ok (.astore_n 2, 1) := by decide +kernel
theorem dX5_rightHabits_9 : decode cX5_rightHabits 9 = .ok (.iconst 0, 1) := by decide +kernel
theorem dX5_rightHabits_10 : decode cX5_rightHabits 10 = .ok (.istore_n 3, 1) := by decide +kernel
theorem dX5_rightHabits_11 : decode cX5_rightHabits 11 = .ok (.iconst 0, 1) := by decide +kernel
theorem dX5_rightHabits_12 : decode cX5_rightHabits 12 = .ok (.istore 4, 2) := by decide +kernel
theorem dX5_rightHabits_14 : decode cX5_rightHabits 14 = .ok (.iload 4, 2) := by decide +kernel
theorem dX5_rightHabits_16 : decode cX5_rightHabits 16 = .ok (.iconst 4, 1) := by decide +kernel
theorem dX5_rightHabits_17 : decode cX5_rightHabits 17 = .ok (.if_icmp .ge 22, 3) := by decide +kernel
theorem dX5_rightHabits_20 : decode cX5_rightHabits 20 = .ok (.iload_n 3, 1) := by decide +kernel
theorem dX5_rightHabits_21 : decode cX5_rightHabits 21 = .ok (.aload_n 0, 1) := by decide +kernel
theorem dX5_rightHabits_22 : decode cX5_rightHabits 22 = .ok (.getfield 12, 3) := by decide +kernel
theorem dX5_rightHabits_25 : decode cX5_rightHabits 25 = .ok (.aload_n 2, 1) := by decide +kernel
theorem dX5_rightHabits_26 : decode cX5_rightHabits 26 = .ok (.iload 4, 2) := by decide +kernel
theorem dX5_rightHabits_28 : decode cX5_rightHabits 28 = .ok (.invokevirtual 164, 3) := by decide +kernel
theorem dX5_rightHabits_31 : decode cX5_rightHabits 31 = .ok (.iadd, 1) := by decide +kernel
theorem dX5_rightHabits_32 : decode cX5_rightHabits 32 = .ok (.istore_n 3, 1) := by decide +kernel
theorem dX5_rightHabits_33 : decode cX5_rightHabits 33 = .ok (.iinc 4 1, 3) := by decide +kernel
theorem dX5_rightHabits_36 : decode cX5_rightHabits 36 = .ok (.goto (-22), 3) := by decide +kernel
theorem dX5_rightHabits_39 : decode cX5_rightHabits 39 = .ok (.iload_n 3, 1) := by decide +kernel
theorem dX5_rightHabits_40 : decode cX5_rightHabits 40 = .ok (.ireturn, 1) := by decide +kernel
theorem dX5_knownSituations_0 : decode cX5_knownSituations 0 = .ok (.aload_n 0, 1) := by decide +kernel
theorem dX5_knownSituations_1 : decode cX5_knownSituations 1 = .ok (.getfield 12, 3) := by decide +kernel
theorem dX5_knownSituations_4 : decode cX5_knownSituations 4 = .ok (.iload_n 1, 1) := by decide +kernel
theorem dX5_knownSituations_5 : decode cX5_knownSituations 5 = .ok (.invokevirtual 81, 3) := by decide +kernel
theorem dX5_knownSituations_8 : decode cX5_knownSituations 8 = .ok (.invokevirtual 167, 3) := by decide +kernel
theorem dX5_knownSituations_11 : decode cX5_knownSituations 11 = .ok (.ireturn, 1) := by decide +kernel
theorem dX5_situationRain_0 : decode cX5_situationRain 0 = .ok (.aload_n 0, 1) := by decide +kernel
theorem dX5_situationRain_1 : decode cX5_situationRain 1 = .ok (.iload_n 1, 1) := by decide +kernel
theorem dX5_situationRain_2 : decode cX5_situationRain 2 = .ok (.iload_n 2, 1) := by decide +kernel
theorem dX5_situationRain_3 : decode cX5_situationRain 3 = .ok (.invokevirtual 171, 3) := by decide +kernel
theorem dX5_situationRain_6 : decode cX5_situationRain 6 = .ok (.invokestatic 174, 3) := by decide +kernel
theorem dX5_situationRain_9 : decode cX5_situationRain 9 = .ok (.ireturn, 1) := by decide +kernel
theorem dX5_situationWind_0 : decode cX5_situationWind 0 = .ok (.aload_n 0, 1) := by decide +kernel
theorem dX5_situationWind_1 : decode cX5_situationWind 1 = .ok (.iload_n 1, 1) := by decide +kernel
theorem dX5_situationWind_2 : decode cX5_situationWind 2 = .ok (.iload_n 2, 1) := by decide +kernel
theorem dX5_situationWind_3 : decode cX5_situationWind 3 = .ok (.invokevirtual 171, 3) := by decide +kernel
theorem dX5_situationWind_6 : decode cX5_situationWind 6 = .ok (.invokestatic 177, 3) := by decide +kernel
theorem dX5_situationWind_9 : decode cX5_situationWind 9 = .ok (.ireturn, 1) := by decide +kernel
theorem dX5_hasExam_0 : decode cX5_hasExam 0 = .ok (.aload_n 0, 1) := by decide +kernel
theorem dX5_hasExam_1 : decode cX5_hasExam 1 = .ok (.getfield 12, 3) := by decide +kernel
theorem dX5_hasExam_4 : decode cX5_hasExam 4 = .ok (.iload_n 1, 1) := by decide +kernel
theorem dX5_hasExam_5 : decode cX5_hasExam 5 = .ok (.invokevirtual 81, 3) := by decide +kernel
theorem dX5_hasExam_8 : decode cX5_hasExam 8 = .ok (.astore_n 3, 1) := by decide +kernel
theorem dX5_hasExam_9 : decode cX5_hasExam 9 = .ok (.iload_n 2, 1) := by decide +kernel
theorem dX5_hasExam_10 : decode cX5_hasExam 10 = .ok (.invokestatic 180, 3) := by decide +kernel
theorem dX5_hasExam_13 : decode cX5_hasExam 13 = .ok (.ifCond .ne 13, 3) := by decide +kernel
theorem dX5_hasExam_16 : decode cX5_hasExam 16 = .ok (.new 183, 3) := by decide +kernel
theorem dX5_hasExam_19 : decode cX5_hasExam 19 = .ok (.dup, 1) := by decide +kernel
theorem dX5_hasExam_20 : decode cX5_hasExam 20 = .ok (.ldc 185, 2) := by decide +kernel
theorem dX5_hasExam_22 : decode cX5_hasExam 22 = .ok (.invokespecial 187, 3) := by decide +kernel
theorem dX5_hasExam_25 : decode cX5_hasExam 25 = .ok (.athrow, 1) := by decide +kernel
theorem dX5_hasExam_26 : decode cX5_hasExam 26 = .ok (.aload_n 3, 1) := by decide +kernel
theorem dX5_hasExam_27 : decode cX5_hasExam 27 = .ok (.iload_n 2, 1) := by decide +kernel
theorem dX5_hasExam_28 : decode cX5_hasExam 28 = .ok (.invokevirtual 188, 3) := by decide +kernel
theorem dX5_hasExam_31 : decode cX5_hasExam 31 = .ok (.ireturn, 1) := by decide +kernel
theorem dX5_isGraduate_0 : decode cX5_isGraduate 0 = .ok (.aload_n 0, 1) := by decide +kernel
theorem dX5_isGraduate_1 : decode cX5_isGraduate 1 = .ok (.getfield 12, 3) := by decide +kernel
theorem dX5_isGraduate_4 : decode cX5_isGraduate 4 = .ok (.iload_n 1, 1) := by decide +kernel
theorem dX5_isGraduate_5 : decode cX5_isGraduate 5 = .ok (.invokevirtual 81, 3) := by decide +kernel
theorem dX5_isGraduate_8 : decode cX5_isGraduate 8 = .ok (.getfield 191, 3) := by decide +kernel
theorem dX5_isGraduate_11 : decode cX5_isGraduate 11 = .ok (.bipush 15, 2) := by decide +kernel
theorem dX5_isGraduate_13 : decode cX5_isGraduate 13 = .ok (.if_icmp .ne 7, 3) := by decide +kernel
theorem dX5_isGraduate_16 : decode cX5_isGraduate 16 = .ok (.iconst 1, 1) := by decide +kernel
theorem dX5_isGraduate_17 : decode cX5_isGraduate 17 = .ok (.goto 4, 3) := by decide +kernel
theorem dX5_isGraduate_20 : decode cX5_isGraduate 20 = .ok (.iconst 0, 1) := by decide +kernel
theorem dX5_isGraduate_21 : decode cX5_isGraduate 21 = .ok (.ireturn, 1) := by decide +kernel
theorem dX5_totalReward_0 : decode cX5_totalReward 0 = .ok (.aload_n 0, 1) := by decide +kernel
theorem dX5_totalReward_1 : decode cX5_totalReward 1 = .ok (.getfield 12, 3) := by decide +kernel
theorem dX5_totalReward_4 : decode cX5_totalReward 4 = .ok (.iload_n 1, 1) := by decide +kernel
theorem dX5_totalReward_5 : decode cX5_totalReward 5 = .ok (.invokevirtual 81, 3) := by decide +kernel
theorem dX5_totalReward_8 : decode cX5_totalReward 8 = .ok (.getfield 194, 3) := by decide +kernel
theorem dX5_totalReward_11 : decode cX5_totalReward 11 = .ok (.ireturn, 1) := by decide +kernel
theorem dX5_termReward_0 : decode cX5_termReward 0 = .ok (.aload_n 0, 1) := by decide +kernel
theorem dX5_termReward_1 : decode cX5_termReward 1 = .ok (.getfield 12, 3) := by decide +kernel
theorem dX5_termReward_4 : decode cX5_termReward 4 = .ok (.iload_n 1, 1) := by decide +kernel
theorem dX5_termReward_5 : decode cX5_termReward 5 = .ok (.invokevirtual 81, 3) := by decide +kernel
theorem dX5_termReward_8 : decode cX5_termReward 8 = .ok (.getfield 197, 3) := by decide +kernel
theorem dX5_termReward_11 : decode cX5_termReward 11 = .ok (.ireturn, 1) := by decide +kernel
theorem dX5_stars_0 : decode cX5_stars 0 = .ok (.aload_n 0, 1) := by decide +kernel
theorem dX5_stars_1 : decode cX5_stars 1 = .ok (.getfield 12, 3) := by decide +kernel
theorem dX5_stars_4 : decode cX5_stars 4 = .ok (.iload_n 1, 1) := by decide +kernel
theorem dX5_stars_5 : decode cX5_stars 5 = .ok (.invokevirtual 81, 3) := by decide +kernel
theorem dX5_stars_8 : decode cX5_stars 8 = .ok (.getfield 200, 3) := by decide +kernel
theorem dX5_stars_11 : decode cX5_stars 11 = .ok (.ireturn, 1) := by decide +kernel
theorem dX5_umbrellaByStars_0 : decode cX5_umbrellaByStars 0 = .ok (.aload_n 0, 1) := by decide +kernel
theorem dX5_umbrellaByStars_1 : decode cX5_umbrellaByStars 1 = .ok (.getfield 12, 3) := by decide +kernel
theorem dX5_umbrellaByStars_4 : decode cX5_umbrellaByStars 4 = .ok (.iload_n 1, 1) := by decide +kernel
theorem dX5_umbrellaByStars_5 : decode cX5_umbrellaByStars 5 = .ok (.invokevirtual 203, 3) := by decide +kernel
theorem dX5_umbrellaByStars_8 : decode cX5_umbrellaByStars 8 = .ok (.istore_n 2, 1) := by decide +kernel
theorem dX5_umbrellaByStars_9 : decode cX5_umbrellaByStars 9 = .ok (.iload_n 2, 1) := by decide +kernel
theorem dX5_umbrellaByStars_10 : decode cX5_umbrellaByStars 10 = .ok (.iconst (-1), 1) := by decide +kernel
theorem dX5_umbrellaByStars_11 : decode cX5_umbrellaByStars 11 = .ok (.if_icmp .ne 13, 3) := by decide +kernel
theorem dX5_umbrellaByStars_14 : decode cX5_umbrellaByStars 14 = .ok (.new 157, 3) := by decide +kernel
theorem dX5_umbrellaByStars_17 : decode cX5_umbrellaByStars 17 = .ok (.dup, 1) := by decide +kernel
theorem dX5_umbrellaByStars_18 : decode cX5_umbrellaByStars 18 = .ok (.ldc 206, 2) := by decide +kernel
theorem dX5_umbrellaByStars_20 : decode cX5_umbrellaByStars 20 = .ok (.invokespecial 161, 3) := by decide +kernel
theorem dX5_umbrellaByStars_23 : decode cX5_umbrellaByStars 23 = .ok (.athrow, 1) := by decide +kernel
theorem dX5_umbrellaByStars_24 : decode cX5_umbrellaByStars 24 = .ok (.iload_n 2, 1) := by decide +kernel
theorem dX5_umbrellaByStars_25 : decode cX5_umbrellaByStars 25 = .ok (.ireturn, 1) := by decide +kernel
theorem dX5_wetPenalty_0 : decode cX5_wetPenalty 0 = .ok (.aload_n 0, 1) := by decide +kernel
theorem dX5_wetPenalty_1 : decode cX5_wetPenalty 1 = .ok (.getfield 12, 3) := by decide +kernel
theorem dX5_wetPenalty_4 : decode cX5_wetPenalty 4 = .ok (.getfield 208, 3) := by decide +kernel
theorem dX5_wetPenalty_7 : decode cX5_wetPenalty 7 = .ok (.ireturn, 1) := by decide +kernel
theorem dX5_galePenalty_0 : decode cX5_galePenalty 0 = .ok (.aload_n 0, 1) := by decide +kernel
theorem dX5_galePenalty_1 : decode cX5_galePenalty 1 = .ok (.getfield 12, 3) := by decide +kernel
theorem dX5_galePenalty_4 : decode cX5_galePenalty 4 = .ok (.getfield 211, 3) := by decide +kernel
theorem dX5_galePenalty_7 : decode cX5_galePenalty 7 = .ok (.ireturn, 1) := by decide +kernel
theorem dX5_term_0 : decode cX5_term 0 = .ok (.aload_n 0, 1) := by decide +kernel
theorem dX5_term_1 : decode cX5_term 1 = .ok (.getfield 12, 3) := by decide +kernel
theorem dX5_term_4 : decode cX5_term 4 = .ok (.getfield 214, 3) := by decide +kernel
theorem dX5_term_7 : decode cX5_term 7 = .ok (.ireturn, 1) := by decide +kernel
theorem dX5_schoolReward_0 : decode cX5_schoolReward 0 = .ok (.aload_n 0, 1) := by decide +kernel
theorem dX5_schoolReward_1 : decode cX5_schoolReward 1 = .ok (.getfield 12, 3) := by decide +kernel
theorem dX5_schoolReward_4 : decode cX5_schoolReward 4 = .ok (.invokevirtual 217, 3) := by decide +kernel
theorem dX5_schoolReward_7 : decode cX5_schoolReward 7 = .ok (.ireturn, 1) := by decide +kernel
theorem dX5_schoolRewardByActions_0 : decode cX5_schoolRewardByActions 0 = .ok (.aload_n 0, 1) := by decide +kernel
theorem dX5_schoolRewardByActions_1 : decode cX5_schoolRewardByActions 1 = .ok (.getfield 12, 3) := by decide +kernel
theorem dX5_schoolRewardByActions_4 : decode cX5_schoolRewardByActions 4 = .ok (.invokevirtual 220, 3) := by decide +kernel
theorem dX5_schoolRewardByActions_7 : decode cX5_schoolRewardByActions 7 = .ok (.ireturn, 1) := by decide +kernel
theorem dX5_meanSchoolReward_0 : decode cX5_meanSchoolReward 0 = .ok (.aload_n 0, 1) := by decide +kernel
theorem dX5_meanSchoolReward_1 : decode cX5_meanSchoolReward 1 = .ok (.getfield 12, 3) := by decide +kernel
theorem dX5_meanSchoolReward_4 : decode cX5_meanSchoolReward 4 = .ok (.invokevirtual 223, 3) := by decide +kernel
theorem dX5_meanSchoolReward_7 : decode cX5_meanSchoolReward 7 = .ok (.istore_n 1, 1) := by decide +kernel
theorem dX5_meanSchoolReward_8 : decode cX5_meanSchoolReward 8 = .ok (.iload_n 1, 1) := by decide +kernel
theorem dX5_meanSchoolReward_9 : decode cX5_meanSchoolReward 9 = .ok (.ifCond .ne 13, 3) := by decide +kernel
theorem dX5_meanSchoolReward_12 : decode cX5_meanSchoolReward 12 = .ok (.new 226, 3) := by decide +kernel
theorem dX5_meanSchoolReward_15 : decode cX5_meanSchoolReward 15 = .ok (.dup, 1) := by decide +kernel
theorem dX5_meanSchoolReward_16 : decode cX5_meanSchoolReward 16 = .ok (.ldc 228, 2) := by decide +kernel
theorem dX5_meanSchoolReward_18 : decode cX5_meanSchoolReward 18 = .ok (.invokespecial 230, 3) := by decide +kernel
theorem dX5_meanSchoolReward_21 : decode cX5_meanSchoolReward 21 = .ok (.athrow, 1) := by decide +kernel
theorem dX5_meanSchoolReward_22 : decode cX5_meanSchoolReward 22 = .ok (.aload_n 0, 1) := by decide +kernel
theorem dX5_meanSchoolReward_23 : decode cX5_meanSchoolReward 23 = .ok (.getfield 12, 3) := by decide +kernel
theorem dX5_meanSchoolReward_26 : decode cX5_meanSchoolReward 26 = .ok (.invokevirtual 217, 3) := by decide +kernel
theorem dX5_meanSchoolReward_29 : decode cX5_meanSchoolReward 29 = .ok (.i2d, 1) := by decide +kernel
theorem dX5_meanSchoolReward_30 : decode cX5_meanSchoolReward 30 = .ok (.iload_n 1, 1) := by decide +kernel
theorem dX5_meanSchoolReward_31 : decode cX5_meanSchoolReward 31 = .ok (.i2d, 1) := by decide +kernel
theorem dX5_meanSchoolReward_32 : decode cX5_meanSchoolReward 32 = .ok (.ddiv, 1) := by decide +kernel
theorem dX5_meanSchoolReward_33 : decode cX5_meanSchoolReward 33 = .ok (.dreturn, 1) := by decide +kernel
theorem dX5_openShare_0 : decode cX5_openShare 0 = .ok (.aload_n 0, 1) := by decide +kernel
theorem dX5_openShare_1 : decode cX5_openShare 1 = .ok (.getfield 12, 3) := by decide +kernel
theorem dX5_openShare_4 : decode cX5_openShare 4 = .ok (.invokevirtual 223, 3) := by decide +kernel
theorem dX5_openShare_7 : decode cX5_openShare 7 = .ok (.istore_n 1, 1) := by decide +kernel
theorem dX5_openShare_8 : decode cX5_openShare 8 = .ok (.iload_n 1, 1) := by decide +kernel
theorem dX5_openShare_9 : decode cX5_openShare 9 = .ok (.ifCond .ne 13, 3) := by decide +kernel
theorem dX5_openShare_12 : decode cX5_openShare 12 = .ok (.new 226, 3) := by decide +kernel
theorem dX5_openShare_15 : decode cX5_openShare 15 = .ok (.dup, 1) := by decide +kernel
theorem dX5_openShare_16 : decode cX5_openShare 16 = .ok (.ldc 228, 2) := by decide +kernel
theorem dX5_openShare_18 : decode cX5_openShare 18 = .ok (.invokespecial 230, 3) := by decide +kernel
theorem dX5_openShare_21 : decode cX5_openShare 21 = .ok (.athrow, 1) := by decide +kernel
theorem dX5_openShare_22 : decode cX5_openShare 22 = .ok (.aload_n 0, 1) := by decide +kernel
theorem dX5_openShare_23 : decode cX5_openShare 23 = .ok (.getfield 12, 3) := by decide +kernel
theorem dX5_openShare_26 : decode cX5_openShare 26 = .ok (.getfield 231, 3) := by decide +kernel
theorem dX5_openShare_29 : decode cX5_openShare 29 = .ok (.i2f, 1) := by decide +kernel
theorem dX5_openShare_30 : decode cX5_openShare 30 = .ok (.iload_n 1, 1) := by decide +kernel
theorem dX5_openShare_31 : decode cX5_openShare 31 = .ok (.i2f, 1) := by decide +kernel
theorem dX5_openShare_32 : decode cX5_openShare 32 = .ok (.fdiv, 1) := by decide +kernel
theorem dX5_openShare_33 : decode cX5_openShare 33 = .ok (.freturn, 1) := by decide +kernel
theorem dX5_isConsistent_0 : decode cX5_isConsistent 0 = .ok (.aload_n 0, 1) := by decide +kernel
theorem dX5_isConsistent_1 : decode cX5_isConsistent 1 = .ok (.getfield 12, 3) := by decide +kernel
theorem dX5_isConsistent_4 : decode cX5_isConsistent 4 = .ok (.invokevirtual 234, 3) := by decide +kernel
theorem dX5_isConsistent_7 : decode cX5_isConsistent 7 = .ok (.ireturn, 1) := by decide +kernel
theorem dX5_renderHabits_0 : decode cX5_renderHabits 0 = .ok (.aload_n 0, 1) := by decide +kernel
theorem dX5_renderHabits_1 : decode cX5_renderHabits 1 = .ok (.getfield 12, 3) := by decide +kernel
theorem dX5_renderHabits_4 : decode cX5_renderHabits 4 = .ok (.iload_n 1, 1) := by decide +kernel
theorem dX5_renderHabits_5 : decode cX5_renderHabits 5 = .ok (.invokevirtual 81, 3) := by decide +kernel
theorem dX5_renderHabits_8 : decode cX5_renderHabits 8 = .ok (.astore_n 2, 1) := by decide +kernel
theorem dX5_renderHabits_9 : decode cX5_renderHabits 9 = .ok (.aload_n 0, 1) := by decide +kernel
theorem dX5_renderHabits_10 : decode cX5_renderHabits 10 = .ok (.getfield 30, 3) := by decide +kernel
theorem dX5_renderHabits_13 : decode cX5_renderHabits 13 = .ok (.iconst 0, 1) := by decide +kernel
theorem dX5_renderHabits_14 : decode cX5_renderHabits 14 = .ok (.invokevirtual 237, 3) := by decide +kernel
theorem dX5_renderHabits_17 : decode cX5_renderHabits 17 = .ok (.iconst 0, 1) := by decide +kernel
theorem dX5_renderHabits_18 : decode cX5_renderHabits 18 = .ok (.istore_n 3, 1) := by decide +kernel
theorem dX5_renderHabits_19 : decode cX5_renderHabits 19 = .ok (.iload_n 3, 1) := by decide +kernel
theorem dX5_renderHabits_20 : decode cX5_renderHabits 20 = .ok (.bipush 16, 2) := by decide +kernel
theorem dX5_renderHabits_22 : decode cX5_renderHabits 22 = .ok (.if_icmp .ge 53, 3) := by decide +kernel
theorem dX5_renderHabits_25 : decode cX5_renderHabits 25 = .ok (.iload_n 3, 1) := by decide +kernel
theorem dX5_renderHabits_26 : decode cX5_renderHabits 26 = .ok (.ifCond .le 20, 3) := by decide +kernel
theorem dX5_renderHabits_29 : decode cX5_renderHabits 29 = .ok (.iload_n 3, 1) := by decide +kernel
theorem dX5_renderHabits_30 : decode cX5_renderHabits 30 = .ok (.invokestatic 177, 3) := by decide +kernel
theorem dX5_renderHabits_33 : decode cX5_renderHabits 33 = .ok (.ifCond .ne 13, 3) := by decide +kernel
theorem dX5_renderHabits_36 : decode cX5_renderHabits 36 = .ok (.aload_n 0, 1) := by decide +kernel
theorem dX5_renderHabits_37 : decode cX5_renderHabits 37 = .ok (.getfield 30, 3) := by decide +kernel
theorem dX5_renderHabits_40 : decode cX5_renderHabits 40 = .ok (.bipush 47, 2) := by decide +kernel
theorem dX5_renderHabits_42 : decode cX5_renderHabits 42 = .ok (.invokevirtual 241, 3) := by decide +kernel
theorem dX5_renderHabits_45 : decode cX5_renderHabits 45 = .ok (.pop, 1) := by decide +kernel
theorem dX5_renderHabits_46 : decode cX5_renderHabits 46 = .ok (.aload_n 0, 1) := by decide +kernel
theorem dX5_renderHabits_47 : decode cX5_renderHabits 47 = .ok (.getfield 30, 3) := by decide +kernel
theorem dX5_renderHabits_50 : decode cX5_renderHabits 50 = .ok (.aload_n 2, 1) := by decide +kernel
theorem dX5_renderHabits_51 : decode cX5_renderHabits 51 = .ok (.iload_n 3, 1) := by decide +kernel
theorem dX5_renderHabits_52 : decode cX5_renderHabits 52 = .ok (.invokevirtual 138, 3) := by decide +kernel
theorem dX5_renderHabits_55 : decode cX5_renderHabits 55 = .ok (.ifCond .eq 8, 3) := by decide +kernel
theorem dX5_renderHabits_58 : decode cX5_renderHabits 58 = .ok (.bipush 111, 2) := by decide +kernel
theorem dX5_renderHabits_60 : decode cX5_renderHabits 60 = .ok (.goto 5, 3) := by decide +kernel
theorem dX5_renderHabits_63 : decode cX5_renderHabits 63 = .ok (.bipush 99, 2) := by decide +kernel
theorem dX5_renderHabits_65 : decode cX5_renderHabits 65 = .ok (.invokevirtual 241, 3) := by decide +kernel
theorem dX5_renderHabits_68 : decode cX5_renderHabits 68 = .ok (.pop, 1) := by decide +kernel
theorem dX5_renderHabits_69 : decode cX5_renderHabits 69 = .ok (.iinc 3 1, 3) := by decide +kernel
theorem dX5_renderHabits_72 : decode cX5_renderHabits 72 = .ok (.goto (-53), 3) := by decide +kernel
theorem dX5_renderHabits_75 : decode cX5_renderHabits 75 = .ok (.aload_n 0, 1) := by decide +kernel
theorem dX5_renderHabits_76 : decode cX5_renderHabits 76 = .ok (.getfield 30, 3) := by decide +kernel
theorem dX5_renderHabits_79 : decode cX5_renderHabits 79 = .ok (.invokevirtual 245, 3) := by decide +kernel
theorem dX5_renderHabits_82 : decode cX5_renderHabits 82 = .ok (.ireturn, 1) := by decide +kernel
theorem dX5_renderUmbrella_0 : decode cX5_renderUmbrella 0 = .ok (.aload_n 0, 1) := by decide +kernel
theorem dX5_renderUmbrella_1 : decode cX5_renderUmbrella 1 = .ok (.getfield 12, 3) := by decide +kernel
theorem dX5_renderUmbrella_4 : decode cX5_renderUmbrella 4 = .ok (.iload_n 1, 1) := by decide +kernel
theorem dX5_renderUmbrella_5 : decode cX5_renderUmbrella 5 = .ok (.invokevirtual 81, 3) := by decide +kernel
theorem dX5_renderUmbrella_8 : decode cX5_renderUmbrella 8 = .ok (.astore_n 2, 1) := by decide +kernel
theorem dX5_renderUmbrella_9 : decode cX5_renderUmbrella 9 = .ok (.aload_n 0, 1) := by decide +kernel
theorem dX5_renderUmbrella_10 : decode cX5_renderUmbrella 10 = .ok (.getfield 30, 3) := by decide +kernel
theorem dX5_renderUmbrella_13 : decode cX5_renderUmbrella 13 = .ok (.iconst 0, 1) := by decide +kernel
theorem dX5_renderUmbrella_14 : decode cX5_renderUmbrella 14 = .ok (.invokevirtual 237, 3) := by decide +kernel
theorem dX5_renderUmbrella_17 : decode cX5_renderUmbrella 17 = .ok (.aload_n 0, 1) := by decide +kernel
theorem dX5_renderUmbrella_18 : decode cX5_renderUmbrella 18 = .ok (.getfield 30, 3) := by decide +kernel
theorem dX5_renderUmbrella_21 : decode cX5_renderUmbrella 21 = .ok (.aload_n 2, 1) := by decide +kernel
theorem dX5_renderUmbrella_22 : decode cX5_renderUmbrella 22 = .ok (.getfield 96, 3) := by decide +kernel
theorem dX5_renderUmbrella_25 : decode cX5_renderUmbrella 25 = .ok (.invokevirtual 248, 3) := by decide +kernel
theorem dX5_renderUmbrella_28 : decode cX5_renderUmbrella 28 = .ok (.pop, 1) := by decide +kernel
theorem dX5_renderUmbrella_29 : decode cX5_renderUmbrella 29 = .ok (.aload_n 0, 1) := by decide +kernel
theorem dX5_renderUmbrella_30 : decode cX5_renderUmbrella 30 = .ok (.getfield 30, 3) := by decide +kernel
theorem dX5_renderUmbrella_33 : decode cX5_renderUmbrella 33 = .ok (.bipush 47, 2) := by decide +kernel
theorem dX5_renderUmbrella_35 : decode cX5_renderUmbrella 35 = .ok (.invokevirtual 241, 3) := by decide +kernel
theorem dX5_renderUmbrella_38 : decode cX5_renderUmbrella 38 = .ok (.pop, 1) := by decide +kernel
theorem dX5_renderUmbrella_39 : decode cX5_renderUmbrella 39 = .ok (.aload_n 0, 1) := by decide +kernel
theorem dX5_renderUmbrella_40 : decode cX5_renderUmbrella 40 = .ok (.getfield 30, 3) := by decide +kernel
theorem dX5_renderUmbrella_43 : decode cX5_renderUmbrella 43 = .ok (.aload_n 2, 1) := by decide +kernel
theorem dX5_renderUmbrella_44 : decode cX5_renderUmbrella 44 = .ok (.getfield 85, 3) := by decide +kernel
theorem dX5_renderUmbrella_47 : decode cX5_renderUmbrella 47 = .ok (.invokevirtual 248, 3) := by decide +kernel
theorem dX5_renderUmbrella_50 : decode cX5_renderUmbrella 50 = .ok (.pop, 1) := by decide +kernel
theorem dX5_renderUmbrella_51 : decode cX5_renderUmbrella 51 = .ok (.aload_n 0, 1) := by decide +kernel
theorem dX5_renderUmbrella_52 : decode cX5_renderUmbrella 52 = .ok (.getfield 30, 3) := by decide +kernel
theorem dX5_renderUmbrella_55 : decode cX5_renderUmbrella 55 = .ok (.bipush 112, 2) := by decide +kernel
theorem dX5_renderUmbrella_57 : decode cX5_renderUmbrella 57 = .ok (.invokevirtual 241, 3) := by decide +kernel
theorem dX5_renderUmbrella_60 : decode cX5_renderUmbrella 60 = .ok (.pop, 1) := by decide +kernel
theorem dX5_renderUmbrella_61 : decode cX5_renderUmbrella 61 = .ok (.aload_n 0, 1) := by decide +kernel
theorem dX5_renderUmbrella_62 : decode cX5_renderUmbrella 62 = .ok (.getfield 30, 3) := by decide +kernel
theorem dX5_renderUmbrella_65 : decode cX5_renderUmbrella 65 = .ok (.aload_n 2, 1) := by decide +kernel
theorem dX5_renderUmbrella_66 : decode cX5_renderUmbrella 66 = .ok (.getfield 90, 3) := by decide +kernel
theorem dX5_renderUmbrella_69 : decode cX5_renderUmbrella 69 = .ok (.invokevirtual 248, 3) := by decide +kernel
theorem dX5_renderUmbrella_72 : decode cX5_renderUmbrella 72 = .ok (.pop, 1) := by decide +kernel
theorem dX5_renderUmbrella_73 : decode cX5_renderUmbrella 73 = .ok (.aload_n 0, 1) := by decide +kernel
theorem dX5_renderUmbrella_74 : decode cX5_renderUmbrella 74 = .ok (.getfield 30, 3) := by decide +kernel
theorem dX5_renderUmbrella_77 : decode cX5_renderUmbrella 77 = .ok (.bipush 42, 2) := by decide +kernel
theorem dX5_renderUmbrella_79 : decode cX5_renderUmbrella 79 = .ok (.invokevirtual 241, 3) := by decide +kernel
theorem dX5_renderUmbrella_82 : decode cX5_renderUmbrella 82 = .ok (.pop, 1) := by decide +kernel
theorem dX5_renderUmbrella_83 : decode cX5_renderUmbrella 83 = .ok (.aload_n 0, 1) := by decide +kernel
theorem dX5_renderUmbrella_84 : decode cX5_renderUmbrella 84 = .ok (.getfield 30, 3) := by decide +kernel
theorem dX5_renderUmbrella_87 : decode cX5_renderUmbrella 87 = .ok (.aload_n 2, 1) := by decide +kernel
theorem dX5_renderUmbrella_88 : decode cX5_renderUmbrella 88 = .ok (.getfield 200, 3) := by decide +kernel
theorem dX5_renderUmbrella_91 : decode cX5_renderUmbrella 91 = .ok (.invokevirtual 248, 3) := by decide +kernel
theorem dX5_renderUmbrella_94 : decode cX5_renderUmbrella 94 = .ok (.pop, 1) := by decide +kernel
theorem dX5_renderUmbrella_95 : decode cX5_renderUmbrella 95 = .ok (.aload_n 0, 1) := by decide +kernel
theorem dX5_renderUmbrella_96 : decode cX5_renderUmbrella 96 = .ok (.getfield 30, 3) := by decide +kernel
theorem dX5_renderUmbrella_99 : decode cX5_renderUmbrella 99 = .ok (.bipush 58, 2) := by decide +kernel
theorem dX5_renderUmbrella_101 : decode cX5_renderUmbrella 101 = .ok (.invokevirtual 241, 3) := by decide +kernel
theorem dX5_renderUmbrella_104 : decode cX5_renderUmbrella 104 = .ok (.pop, 1) := by decide +kernel
theorem dX5_renderUmbrella_105 : decode cX5_renderUmbrella 105 = .ok (.iconst 0, 1) := by decide +kernel
theorem dX5_renderUmbrella_106 : decode cX5_renderUmbrella 106 = .ok (.istore_n 3, 1) := by decide +kernel
theorem dX5_renderUmbrella_107 : decode cX5_renderUmbrella 107 = .ok (.iload_n 3, 1) := by decide +kernel
theorem dX5_renderUmbrella_108 : decode cX5_renderUmbrella 108 = .ok (.iconst 4, 1) := by decide +kernel
theorem dX5_renderUmbrella_109 : decode cX5_renderUmbrella 109 = .ok (.if_icmp .ge 26, 3) := by decide +kernel
theorem dX5_renderUmbrella_112 : decode cX5_renderUmbrella 112 = .ok (.aload_n 2, 1) := by decide +kernel
theorem dX5_renderUmbrella_113 : decode cX5_renderUmbrella 113 = .ok (.iload_n 3, 1) := by decide +kernel
theorem dX5_renderUmbrella_114 : decode cX5_renderUmbrella 114 = .ok (.invokevirtual 188, 3) := by decide +kernel
theorem dX5_renderUmbrella_117 : decode cX5_renderUmbrella 117 = .ok (.ifCond .eq 12, 3) := by decide +kernel
theorem dX5_renderUmbrella_120 : decode cX5_renderUmbrella 120 = .ok (.aload_n 0, 1) := by decide +kernel
theorem dX5_renderUmbrella_121 : decode cX5_renderUmbrella 121 = .ok (.getfield 30, 3) := by decide +kernel
theorem dX5_renderUmbrella_124 : decode cX5_renderUmbrella 124 = .ok (.iload_n 3, 1) := by decide +kernel
theorem dX5_renderUmbrella_125 : decode cX5_renderUmbrella 125 = .ok (.invokevirtual 248, 3) := by decide +kernel
theorem dX5_renderUmbrella_128 : decode cX5_renderUmbrella 128 = .ok (.pop, 1) := by decide +kernel
theorem dX5_renderUmbrella_129 : decode cX5_renderUmbrella 129 = .ok (.iinc 3 1, 3) := by decide +kernel
theorem dX5_renderUmbrella_132 : decode cX5_renderUmbrella 132 = .ok (.goto (-25), 3) := by decide +kernel
theorem dX5_renderUmbrella_135 : decode cX5_renderUmbrella 135 = .ok (.aload_n 0, 1) := by decide +kernel
theorem dX5_renderUmbrella_136 : decode cX5_renderUmbrella 136 = .ok (.getfield 30, 3) := by decide +kernel
theorem dX5_renderUmbrella_139 : decode cX5_renderUmbrella 139 = .ok (.invokevirtual 245, 3) := by decide +kernel
theorem dX5_renderUmbrella_142 : decode cX5_renderUmbrella 142 = .ok (.ireturn, 1) := by decide +kernel
theorem dX5_outputAt_0 : decode cX5_outputAt 0 = .ok (.iload_n 1, 1) := by decide +kernel
theorem dX5_outputAt_1 : decode cX5_outputAt 1 = .ok (.ifCond .lt 14, 3) := by decide +kernel
theorem dX5_outputAt_4 : decode cX5_outputAt 4 = .ok (.iload_n 1, 1) := by decide +kernel
theorem dX5_outputAt_5 : decode cX5_outputAt 5 = .ok (.aload_n 0, 1) := by decide +kernel
theorem dX5_outputAt_6 : decode cX5_outputAt 6 = .ok (.getfield 30, 3) := by decide +kernel
theorem dX5_outputAt_9 : decode cX5_outputAt 9 = .ok (.invokevirtual 245, 3) := by decide +kernel
theorem dX5_outputAt_12 : decode cX5_outputAt 12 = .ok (.if_icmp .lt 13, 3) := by decide +kernel
theorem dX5_outputAt_15 : decode cX5_outputAt 15 = .ok (.new 251, 3) := by decide +kernel
theorem dX5_outputAt_18 : decode cX5_outputAt 18 = .ok (.dup, 1) := by decide +kernel
theorem dX5_outputAt_19 : decode cX5_outputAt 19 = .ok (.ldc 253, 2) := by decide +kernel
theorem dX5_outputAt_21 : decode cX5_outputAt 21 = .ok (.invokespecial 255, 3) := by decide +kernel
theorem dX5_outputAt_24 : decode cX5_outputAt 24 = .ok (.athrow, 1) := by decide +kernel
theorem dX5_outputAt_25 : decode cX5_outputAt 25 = .ok (.aload_n 0, 1) := by decide +kernel
theorem dX5_outputAt_26 : decode cX5_outputAt 26 = .ok (.getfield 30, 3) := by decide +kernel
theorem dX5_outputAt_29 : decode cX5_outputAt 29 = .ok (.iload_n 1, 1) := by decide +kernel
theorem dX5_outputAt_30 : decode cX5_outputAt 30 = .ok (.invokevirtual 256, 3) := by decide +kernel
theorem dX5_outputAt_33 : decode cX5_outputAt 33 = .ok (.ireturn, 1) := by decide +kernel
theorem dX5_type_0 : decode cX5_type 0 = .ok (.iload_n 1, 1) := by decide +kernel
theorem dX5_type_1 : decode cX5_type 1 = .ok (.bipush 32, 2) := by decide +kernel
theorem dX5_type_3 : decode cX5_type 3 = .ok (.bipush 126, 2) := by decide +kernel
theorem dX5_type_5 : decode cX5_type 5 = .ok (.invokestatic 260, 3) := by decide +kernel
theorem dX5_type_8 : decode cX5_type 8 = .ok (.ifCond .ne 14, 3) := by decide +kernel
theorem dX5_type_11 : decode cX5_type 11 = .ok (.new 183, 3) := by decide +kernel
theorem dX5_type_14 : decode cX5_type 14 = .ok (.dup, 1) := by decide +kernel
theorem dX5_type_15 : decode cX5_type 15 = .ok (.ldc_w 264, 3) := by decide +kernel
theorem dX5_type_18 : decode cX5_type 18 = .ok (.invokespecial 187, 3) := by decide +kernel
theorem dX5_type_21 : decode cX5_type 21 = .ok (.athrow, 1) := by decide +kernel
theorem dX5_type_22 : decode cX5_type 22 = .ok (.aload_n 0, 1) := by decide +kernel
theorem dX5_type_23 : decode cX5_type 23 = .ok (.getfield 26, 3) := by decide +kernel
theorem dX5_type_26 : decode cX5_type 26 = .ok (.invokevirtual 245, 3) := by decide +kernel
theorem dX5_type_29 : decode cX5_type 29 = .ok (.bipush 60, 2) := by decide +kernel
theorem dX5_type_31 : decode cX5_type 31 = .ok (.if_icmp .lt 14, 3) := by decide +kernel
theorem dX5_type_34 : decode cX5_type 34 = .ok (.new 266, 3) := by decide +kernel
theorem dX5_type_37 : decode cX5_type 37 = .ok (.dup, 1) := by decide +kernel
theorem dX5_type_38 : decode cX5_type 38 = .ok (.ldc_w 268, 3) := by decide +kernel
theorem dX5_type_41 : decode cX5_type 41 = .ok (.invokespecial 270, 3) := by decide +kernel
theorem dX5_type_44 : decode cX5_type 44 = .ok (.athrow, 1) := by decide +kernel
theorem dX5_type_45 : decode cX5_type 45 = .ok (.aload_n 0, 1) := by decide +kernel
theorem dX5_type_46 : decode cX5_type 46 = .ok (.getfield 26, 3) := by decide +kernel
theorem dX5_type_49 : decode cX5_type 49 = .ok (.iload_n 1, 1) := by decide +kernel
theorem dX5_type_50 : decode cX5_type 50 = .ok (.invokevirtual 241, 3) := by decide +kernel
theorem dX5_type_53 : decode cX5_type 53 = .ok (.pop, 1) := by decide +kernel
theorem dX5_type_54 : decode cX5_type 54 = .ok (.aload_n 0, 1) := by decide +kernel
theorem dX5_type_55 : decode cX5_type 55 = .ok (.getfield 26, 3) := by decide +kernel
theorem dX5_type_58 : decode cX5_type 58 = .ok (.invokevirtual 245, 3) := by decide +kernel
theorem dX5_type_61 : decode cX5_type 61 = .ok (.ireturn, 1) := by decide +kernel
theorem dX5_runScript_0 : decode cX5_runScript 0 = .ok (.aload_n 0, 1) := by decide +kernel
theorem dX5_runScript_1 : decode cX5_runScript 1 = .ok (.invokevirtual 271, 3) := by decide +kernel
theorem dX5_runScript_4 : decode cX5_runScript 4 = .ok (.istore_n 1, 1) := by decide +kernel
theorem dX5_runScript_5 : decode cX5_runScript 5 = .ok (.iload_n 1, 1) := by decide +kernel
theorem dX5_runScript_6 : decode cX5_runScript 6 = .ok (.iconst (-1), 1) := by decide +kernel
theorem dX5_runScript_7 : decode cX5_runScript 7 = .ok (.if_icmp .eq 27, 3) := by decide +kernel
theorem dX5_runScript_10 : decode cX5_runScript 10 = .ok (.aload_n 0, 1) := by decide +kernel
theorem dX5_runScript_11 : decode cX5_runScript 11 = .ok (.getfield 26, 3) := by decide +kernel
theorem dX5_runScript_14 : decode cX5_runScript 14 = .ok (.iconst 0, 1) := by decide +kernel
theorem dX5_runScript_15 : decode cX5_runScript 15 = .ok (.invokevirtual 237, 3) := by decide +kernel
theorem dX5_runScript_18 : decode cX5_runScript 18 = .ok (.aload_n 0, 1) := by decide +kernel
theorem dX5_runScript_19 : decode cX5_runScript 19 = .ok (.iload_n 1, 1) := by decide +kernel
theorem dX5_runScript_20 : decode cX5_runScript 20 = .ok (.putfield 41, 3) := by decide +kernel
theorem dX5_runScript_23 : decode cX5_runScript 23 = .ok (.new 183, 3) := by decide +kernel
theorem dX5_runScript_26 : decode cX5_runScript 26 = .ok (.dup, 1) := by decide +kernel
theorem dX5_runScript_27 : decode cX5_runScript 27 = .ok (.ldc_w 274, 3) := by decide +kernel
theorem dX5_runScript_30 : decode cX5_runScript 30 = .ok (.invokespecial 187, 3) := by decide +kernel
theorem dX5_runScript_33 : decode cX5_runScript 33 = .ok (.athrow, 1) := by decide +kernel
theorem dX5_runScript_34 : decode cX5_runScript 34 = .ok (.aload_n 0, 1) := by decide +kernel
theorem dX5_runScript_35 : decode cX5_runScript 35 = .ok (.invokevirtual 276, 3) := by decide +kernel
theorem dX5_runScript_38 : decode cX5_runScript 38 = .ok (.aload_n 0, 1) := by decide +kernel
theorem dX5_runScript_39 : decode cX5_runScript 39 = .ok (.invokevirtual 279, 3) := by decide +kernel
theorem dX5_runScript_42 : decode cX5_runScript 42 = .ok (.istore_n 2, 1) := by decide +kernel
theorem dX5_runScript_43 : decode cX5_runScript 43 = .ok (.iconst 0, 1) := by decide +kernel
theorem dX5_runScript_44 : decode cX5_runScript 44 = .ok (.istore_n 3, 1) := by decide +kernel
theorem dX5_runScript_45 : decode cX5_runScript 45 = .ok (.iconst 0, 1) := by decide +kernel
theorem dX5_runScript_46 : decode cX5_runScript 46 = .ok (.istore 4, 2) := by decide +kernel
theorem dX5_runScript_48 : decode cX5_runScript 48 = .ok (.iload_n 3, 1) := by decide +kernel
theorem dX5_runScript_49 : decode cX5_runScript 49 = .ok (.iload_n 2, 1) := by decide +kernel
theorem dX5_runScript_50 : decode cX5_runScript 50 = .ok (.if_icmp .ge 28, 3) := by decide +kernel
theorem dX5_runScript_53 : decode cX5_runScript 53 = .ok (.aload_n 0, 1) := by decide +kernel
theorem dX5_runScript_54 : decode cX5_runScript 54 = .ok (.iload 4, 2) := by decide +kernel
theorem dX5_runScript_56 : decode cX5_runScript 56 = .ok (.invokevirtual 282, 3) := by decide +kernel
theorem dX5_runScript_59 : decode cX5_runScript 59 = .ok (.ifCond .eq 19, 3) := by decide +kernel
theorem dX5_runScript_62 : decode cX5_runScript 62 = .ok (.aload_n 0, 1) := by decide +kernel
theorem dX5_runScript_63 : decode cX5_runScript 63 = .ok (.iload 4, 2) := by decide +kernel
theorem dX5_runScript_65 : decode cX5_runScript 65 = .ok (.invokevirtual 285, 3) := by decide +kernel
theorem dX5_runScript_68 : decode cX5_runScript 68 = .ok (.iconst 1, 1) := by decide +kernel
theorem dX5_runScript_69 : decode cX5_runScript 69 = .ok (.iadd, 1) := by decide +kernel
theorem dX5_runScript_70 : decode cX5_runScript 70 = .ok (.istore 4, 2) := by decide +kernel
theorem dX5_runScript_72 : decode cX5_runScript 72 = .ok (.iinc 3 1, 3) := by decide +kernel
theorem dX5_runScript_75 : decode cX5_runScript 75 = .ok (.goto (-27), 3) := by decide +kernel
theorem dX5_runScript_78 : decode cX5_runScript 78 = .ok (.aload_n 0, 1) := by decide +kernel
theorem dX5_runScript_79 : decode cX5_runScript 79 = .ok (.getfield 26, 3) := by decide +kernel
theorem dX5_runScript_82 : decode cX5_runScript 82 = .ok (.iconst 0, 1) := by decide +kernel
theorem dX5_runScript_83 : decode cX5_runScript 83 = .ok (.invokevirtual 237, 3) := by decide +kernel
theorem dX5_runScript_86 : decode cX5_runScript 86 = .ok (.iload_n 3, 1) := by decide +kernel
theorem dX5_runScript_87 : decode cX5_runScript 87 = .ok (.iload_n 2, 1) := by decide +kernel
theorem dX5_runScript_88 : decode cX5_runScript 88 = .ok (.if_icmp .ge 23, 3) := by decide +kernel
theorem dX5_runScript_91 : decode cX5_runScript 91 = .ok (.aload_n 0, 1) := by decide +kernel
theorem dX5_runScript_92 : decode cX5_runScript 92 = .ok (.invokevirtual 288, 3) := by decide +kernel
theorem dX5_runScript_95 : decode cX5_runScript 95 = .ok (.aload_n 0, 1) := by decide +kernel
theorem dX5_runScript_96 : decode cX5_runScript 96 = .ok (.iload_n 3, 1) := by decide +kernel
theorem dX5_runScript_97 : decode cX5_runScript 97 = .ok (.putfield 44, 3) := by decide +kernel
theorem dX5_runScript_100 : decode cX5_runScript 100 = .ok (.new 266, 3) := by decide +kernel
theorem dX5_runScript_103 : decode cX5_runScript 103 = .ok (.dup, 1) := by decide +kernel
theorem dX5_runScript_104 : decode cX5_runScript 104 = .ok (.ldc_w 291, 3) := by decide +kernel
theorem dX5_runScript_107 : decode cX5_runScript 107 = .ok (.invokespecial 270, 3) := by decide +kernel
theorem dX5_runScript_110 : decode cX5_runScript 110 = .ok (.athrow, 1) := by decide +kernel
theorem dX5_runScript_111 : decode cX5_runScript 111 = .ok (.aload_n 0, 1) := by decide +kernel
theorem dX5_runScript_112 : decode cX5_runScript 112 = .ok (.invokevirtual 293, 3) := by decide +kernel
theorem dX5_runScript_115 : decode cX5_runScript 115 = .ok (.iload_n 2, 1) := by decide +kernel
theorem dX5_runScript_116 : decode cX5_runScript 116 = .ok (.ireturn, 1) := by decide +kernel
theorem dX5_errorPosition_0 : decode cX5_errorPosition 0 = .ok (.aload_n 0, 1) := by decide +kernel
theorem dX5_errorPosition_1 : decode cX5_errorPosition 1 = .ok (.getfield 41, 3) := by decide +kernel
theorem dX5_errorPosition_4 : decode cX5_errorPosition 4 = .ok (.iconst (-1), 1) := by decide +kernel
theorem dX5_errorPosition_5 : decode cX5_errorPosition 5 = .ok (.if_icmp .ne 14, 3) := by decide +kernel
theorem dX5_errorPosition_8 : decode cX5_errorPosition 8 = .ok (.new 157, 3) := by decide +kernel
theorem dX5_errorPosition_11 : decode cX5_errorPosition 11 = .ok (.dup, 1) := by decide +kernel
theorem dX5_errorPosition_12 : decode cX5_errorPosition 12 = .ok (.ldc_w 296, 3) := by decide +kernel
theorem dX5_errorPosition_15 : decode cX5_errorPosition 15 = .ok (.invokespecial 161, 3) := by decide +kernel
theorem dX5_errorPosition_18 : decode cX5_errorPosition 18 = .ok (.athrow, 1) := by decide +kernel
theorem dX5_errorPosition_19 : decode cX5_errorPosition 19 = .ok (.aload_n 0, 1) := by decide +kernel
theorem dX5_errorPosition_20 : decode cX5_errorPosition 20 = .ok (.getfield 41, 3) := by decide +kernel
theorem dX5_errorPosition_23 : decode cX5_errorPosition 23 = .ok (.ireturn, 1) := by decide +kernel
theorem dX5_failedCommand_0 : decode cX5_failedCommand 0 = .ok (.aload_n 0, 1) := by decide +kernel
theorem dX5_failedCommand_1 : decode cX5_failedCommand 1 = .ok (.getfield 44, 3) := by decide +kernel
theorem dX5_failedCommand_4 : decode cX5_failedCommand 4 = .ok (.iconst (-1), 1) := by decide +kernel
theorem dX5_failedCommand_5 : decode cX5_failedCommand 5 = .ok (.if_icmp .ne 14, 3) := by decide +kernel
theorem dX5_failedCommand_8 : decode cX5_failedCommand 8 = .ok (.new 157, 3) := by decide +kernel
theorem dX5_failedCommand_11 : decode cX5_failedCommand 11 = .ok (.dup, 1) := by decide +kernel
theorem dX5_failedCommand_12 : decode cX5_failedCommand 12 = .ok (.ldc_w 298, 3) := by decide +kernel
theorem dX5_failedCommand_15 : decode cX5_failedCommand 15 = .ok (.invokespecial 161, 3) := by decide +kernel
theorem dX5_failedCommand_18 : decode cX5_failedCommand 18 = .ok (.athrow, 1) := by decide +kernel
theorem dX5_failedCommand_19 : decode cX5_failedCommand 19 = .ok (.aload_n 0, 1) := by decide +kernel
theorem dX5_failedCommand_20 : decode cX5_failedCommand 20 = .ok (.getfield 44, 3) := by decide +kernel
theorem dX5_failedCommand_23 : decode cX5_failedCommand 23 = .ok (.ireturn, 1) := by decide +kernel
theorem dX5_undo_0 : decode cX5_undo 0 = .ok (.aload_n 0, 1) := by decide +kernel
theorem dX5_undo_1 : decode cX5_undo 1 = .ok (.getfield 33, 3) := by decide +kernel
theorem dX5_undo_4 : decode cX5_undo 4 = .ok (.ifCond .gt 14, 3) := by decide +kernel
theorem dX5_undo_7 : decode cX5_undo 7 = .ok (.new 266, 3) := by decide +kernel
theorem dX5_undo_10 : decode cX5_undo 10 = .ok (.dup, 1) := by decide +kernel
theorem dX5_undo_11 : decode cX5_undo 11 = .ok (.ldc_w 300, 3) := by decide +kernel
theorem dX5_undo_14 : decode cX5_undo 14 = .ok (.invokespecial 270, 3) := by decide +kernel
theorem dX5_undo_17 : decode cX5_undo 17 = .ok (.athrow, 1) := by decide +kernel
theorem dX5_undo_18 : decode cX5_undo 18 = .ok (.aload_n 0, 1) := by decide +kernel
theorem dX5_undo_19 : decode cX5_undo 19 = .ok (.dup, 1) := by decide +kernel
theorem dX5_undo_20 : decode cX5_undo 20 = .ok (.getfield 33, 3) := by decide +kernel
theorem dX5_undo_23 : decode cX5_undo 23 = .ok (.iconst 1, 1) := by decide +kernel
theorem dX5_undo_24 : decode cX5_undo 24 = .ok (.isub, 1) := by decide +kernel
theorem dX5_undo_25 : decode cX5_undo 25 = .ok (.putfield 33, 3) := by decide +kernel
theorem dX5_undo_28 : decode cX5_undo 28 = .ok (.aload_n 0, 1) := by decide +kernel
theorem dX5_undo_29 : decode cX5_undo 29 = .ok (.invokevirtual 288, 3) := by decide +kernel
theorem dX5_undo_32 : decode cX5_undo 32 = .ok (.aload_n 0, 1) := by decide +kernel
theorem dX5_undo_33 : decode cX5_undo 33 = .ok (.getfield 33, 3) := by decide +kernel
theorem dX5_undo_36 : decode cX5_undo 36 = .ok (.ireturn, 1) := by decide +kernel
theorem dX5_save_0 : decode cX5_save 0 = .ok (.aload_n 0, 1) := by decide +kernel
theorem dX5_save_1 : decode cX5_save 1 = .ok (.getfield 16, 3) := by decide +kernel
theorem dX5_save_4 : decode cX5_save 4 = .ok (.aload_n 0, 1) := by decide +kernel
theorem dX5_save_5 : decode cX5_save 5 = .ok (.getfield 12, 3) := by decide +kernel
theorem dX5_save_8 : decode cX5_save 8 = .ok (.invokevirtual 302, 3) := by decide +kernel
theorem dX5_save_11 : decode cX5_save 11 = .ok (.aload_n 0, 1) := by decide +kernel
theorem dX5_save_12 : decode cX5_save 12 = .ok (.iconst 1, 1) := by decide +kernel
theorem dX5_save_13 : decode cX5_save 13 = .ok (.putfield 37, 3) := by decide +kernel
theorem dX5_save_16 : decode cX5_save 16 = .ok (.aload_n 0, 1) := by decide +kernel
theorem dX5_save_17 : decode cX5_save 17 = .ok (.getfield 12, 3) := by decide +kernel
theorem dX5_save_20 : decode cX5_save 20 = .ok (.getfield 78, 3) := by decide +kernel
theorem dX5_save_23 : decode cX5_save 23 = .ok (.ireturn, 1) := by decide +kernel
theorem dX5_restore_0 : decode cX5_restore 0 = .ok (.aload_n 0, 1) := by decide +kernel
theorem dX5_restore_1 : decode cX5_restore 1 = .ok (.getfield 37, 3) := by decide +kernel
theorem dX5_restore_4 : decode cX5_restore 4 = .ok (.ifCond .ne 14, 3) := by decide +kernel
theorem dX5_restore_7 : decode cX5_restore 7 = .ok (.new 266, 3) := by decide +kernel
theorem dX5_restore_10 : decode cX5_restore 10 = .ok (.dup, 1) := by decide +kernel
theorem dX5_restore_11 : decode cX5_restore 11 = .ok (.ldc_w 306, 3) := by decide +kernel
theorem dX5_restore_14 : decode cX5_restore 14 = .ok (.invokespecial 270, 3) := by decide +kernel
theorem dX5_restore_17 : decode cX5_restore 17 = .ok (.athrow, 1) := by decide +kernel
theorem dX5_restore_18 : decode cX5_restore 18 = .ok (.aload_n 0, 1) := by decide +kernel
theorem dX5_restore_19 : decode cX5_restore 19 = .ok (.getfield 12, 3) := by decide +kernel
theorem dX5_restore_22 : decode cX5_restore 22 = .ok (.aload_n 0, 1) := by decide +kernel
theorem dX5_restore_23 : decode cX5_restore 23 = .ok (.getfield 16, 3) := by decide +kernel
theorem dX5_restore_26 : decode cX5_restore 26 = .ok (.invokevirtual 302, 3) := by decide +kernel
theorem dX5_restore_29 : decode cX5_restore 29 = .ok (.aload_n 0, 1) := by decide +kernel
theorem dX5_restore_30 : decode cX5_restore 30 = .ok (.iconst 0, 1) := by decide +kernel
theorem dX5_restore_31 : decode cX5_restore 31 = .ok (.putfield 33, 3) := by decide +kernel
theorem dX5_restore_34 : decode cX5_restore 34 = .ok (.aload_n 0, 1) := by decide +kernel
theorem dX5_restore_35 : decode cX5_restore 35 = .ok (.getfield 12, 3) := by decide +kernel
theorem dX5_restore_38 : decode cX5_restore 38 = .ok (.getfield 78, 3) := by decide +kernel
theorem dX5_restore_41 : decode cX5_restore 41 = .ok (.ireturn, 1) := by decide +kernel
theorem dX5_change_0 : decode cX5_change 0 = .ok (.aload_n 0, 1) := by decide +kernel
theorem dX5_change_1 : decode cX5_change 1 = .ok (.aload_n 1, 1) := by decide +kernel
theorem dX5_change_2 : decode cX5_change 2 = .ok (.iload_n 2, 1) := by decide +kernel
theorem dX5_change_3 : decode cX5_change 3 = .ok (.iload_n 3, 1) := by decide +kernel
theorem dX5_change_4 : decode cX5_change 4 = .ok (.iload 4, 2) := by decide +kernel
theorem dX5_change_6 : decode cX5_change 6 = .ok (.iload 5, 2) := by decide +kernel
theorem dX5_change_8 : decode cX5_change 8 = .ok (.invokevirtual 308, 3) := by decide +kernel
theorem dX5_change_11 : decode cX5_change 11 = .ok (.invokestatic 312, 3) := by decide +kernel
theorem dX5_change_14 : decode cX5_change 14 = .ok (.aload_n 0, 1) := by decide +kernel
theorem dX5_change_15 : decode cX5_change 15 = .ok (.invokevirtual 276, 3) := by decide +kernel
theorem dX5_change_18 : decode cX5_change 18 = .ok (.aload_n 0, 1) := by decide +kernel
theorem dX5_change_19 : decode cX5_change 19 = .ok (.aload_n 1, 1) := by decide +kernel
theorem dX5_change_20 : decode cX5_change 20 = .ok (.iload_n 2, 1) := by decide +kernel
theorem dX5_change_21 : decode cX5_change 21 = .ok (.iload_n 3, 1) := by decide +kernel
theorem dX5_change_22 : decode cX5_change 22 = .ok (.iload 4, 2) := by decide +kernel
theorem dX5_change_24 : decode cX5_change 24 = .ok (.iload 5, 2) := by decide +kernel
theorem dX5_change_26 : decode cX5_change 26 = .ok (.invokevirtual 316, 3) := by decide +kernel
theorem dX5_change_29 : decode cX5_change 29 = .ok (.istore 6, 2) := by decide +kernel
theorem dX5_change_31 : decode cX5_change 31 = .ok (.aload_n 0, 1) := by decide +kernel
theorem dX5_change_32 : decode cX5_change 32 = .ok (.invokevirtual 293, 3) := by decide +kernel
theorem dX5_change_35 : decode cX5_change 35 = .ok (.iload 6, 2) := by decide +kernel
theorem dX5_change_37 : decode cX5_change 37 = .ok (.ireturn, 1) := by decide +kernel
theorem dX5_refusalOf_0 : decode cX5_refusalOf 0 = .ok (.getstatic 319, 3) := by decide +kernel
theorem dX5_refusalOf_3 : decode cX5_refusalOf 3 = .ok (.aload_n 1, 1) := by decide +kernel
theorem dX5_refusalOf_4 : decode cX5_refusalOf 4 = .ok (.invokevirtual 324, 3) := by decide +kernel
theorem dX5_refusalOf_7 : decode cX5_refusalOf 7 = .ok (.iaload, 1) := by decide +kernel
theorem dX5_refusalOf_8 : decode cX5_refusalOf 8 = .ok (.tableswitch 160 1 7 #[44, 80, 117, 130, 130, 150, 150], 44) := by decide +kernel
theorem dX5_refusalOf_52 : decode cX5_refusalOf 52 = .ok (.iload_n 2, 1) := by decide +kernel
theorem dX5_refusalOf_53 : decode cX5_refusalOf 53 = .ok (.iconst 3, 1) := by decide +kernel
theorem dX5_refusalOf_54 : decode cX5_refusalOf 54 = .ok (.bipush 20, 2) := by decide +kernel
theorem dX5_refusalOf_56 : decode cX5_refusalOf 56 = .ok (.invokestatic 260, 3) := by decide +kernel
theorem dX5_refusalOf_59 : decode cX5_refusalOf 59 = .ok (.ifCond .ne 7, 3) := by decide +kernel
theorem dX5_refusalOf_62 : decode cX5_refusalOf 62 = .ok (.getstatic 327, 3) := by decide +kernel
theorem dX5_refusalOf_65 : decode cX5_refusalOf 65 = .ok (.areturn, 1) := by decide +kernel
theorem dX5_refusalOf_66 : decode cX5_refusalOf 66 = .ok (.aload_n 0, 1) := by decide +kernel
theorem dX5_refusalOf_67 : decode cX5_refusalOf 67 = .ok (.getfield 12, 3) := by decide +kernel
theorem dX5_refusalOf_70 : decode cX5_refusalOf 70 = .ok (.getfield 78, 3) := by decide +kernel
theorem dX5_refusalOf_73 : decode cX5_refusalOf 73 = .ok (.bipush 6, 2) := by decide +kernel
theorem dX5_refusalOf_75 : decode cX5_refusalOf 75 = .ok (.if_icmp .ge 9, 3) := by decide +kernel
theorem dX5_refusalOf_78 : decode cX5_refusalOf 78 = .ok (.getstatic 333, 3) := by decide +kernel
theorem dX5_refusalOf_81 : decode cX5_refusalOf 81 = .ok (.goto 6, 3) := by decide +kernel
theorem dX5_refusalOf_84 : decode cX5_refusalOf 84 = .ok (.getstatic 336, 3) := by decide +kernel
theorem dX5_refusalOf_87 : decode cX5_refusalOf 87 = .ok (.areturn, 1) := by decide +kernel
theorem dX5_refusalOf_88 : decode cX5_refusalOf 88 = .ok (.aload_n 0, 1) := by decide +kernel
theorem dX5_refusalOf_89 : decode cX5_refusalOf 89 = .ok (.iload_n 2, 1) := by decide +kernel
theorem dX5_refusalOf_90 : decode cX5_refusalOf 90 = .ok (.iload_n 3, 1) := by decide +kernel
theorem dX5_refusalOf_91 : decode cX5_refusalOf 91 = .ok (.invokestatic 180, 3) := by decide +kernel
theorem dX5_refusalOf_94 : decode cX5_refusalOf 94 = .ok (.ifCond .eq 26, 3) := by decide +kernel
theorem dX5_refusalOf_97 : decode cX5_refusalOf 97 = .ok (.iload 4, 2) := by decide +kernel
theorem dX5_refusalOf_99 : decode cX5_refusalOf 99 = .ok (.invokestatic 180, 3) := by decide +kernel
theorem dX5_refusalOf_102 : decode cX5_refusalOf 102 = .ok (.ifCond .eq 18, 3) := by decide +kernel
theorem dX5_refusalOf_105 : decode cX5_refusalOf 105 = .ok (.iload 5, 2) := by decide +kernel
theorem dX5_refusalOf_107 : decode cX5_refusalOf 107 = .ok (.iconst 1, 1) := by decide +kernel
theorem dX5_refusalOf_108 : decode cX5_refusalOf 108 = .ok (.bipush 9, 2) := by decide +kernel
theorem dX5_refusalOf_110 : decode cX5_refusalOf 110 = .ok (.invokestatic 260, 3) := by decide +kernel
theorem dX5_refusalOf_113 : decode cX5_refusalOf 113 = .ok (.ifCond .eq 7, 3) := by decide +kernel
theorem dX5_refusalOf_116 : decode cX5_refusalOf 116 = .ok (.iconst 1, 1) := by decide +kernel
theorem dX5_refusalOf_117 : decode cX5_refusalOf 117 = .ok (.goto 4, 3) := by decide +kernel
theorem dX5_refusalOf_120 : decode cX5_refusalOf 120 = .ok (.iconst 0, 1) := by decide +kernel
theorem dX5_refusalOf_121 : decode cX5_refusalOf 121 = .ok (.invokevirtual 339, 3) := by decide +kernel
theorem dX5_refusalOf_124 : decode cX5_refusalOf 124 = .ok (.areturn, 1) := by decide +kernel
theorem dX5_refusalOf_125 : decode cX5_refusalOf 125 = .ok (.aload_n 0, 1) := by decide +kernel
theorem dX5_refusalOf_126 : decode cX5_refusalOf 126 = .ok (.iload_n 2, 1) := by decide +kernel
theorem dX5_refusalOf_127 : decode cX5_refusalOf 127 = .ok (.iload_n 3, 1) := by decide +kernel
theorem dX5_refusalOf_128 : decode cX5_refusalOf 128 = .ok (.iconst 0, 1) := by decide +kernel
theorem dX5_refusalOf_129 : decode cX5_refusalOf 129 = .ok (.bipush 9, 2) := by decide +kernel
theorem dX5_refusalOf_131 : decode cX5_refusalOf 131 = .ok (.invokestatic 260, 3) := by decide +kernel
theorem dX5_refusalOf_134 : decode cX5_refusalOf 134 = .ok (.invokevirtual 339, 3) := by decide +kernel
theorem dX5_refusalOf_137 : decode cX5_refusalOf 137 = .ok (.areturn, 1) := by decide +kernel
theorem dX5_refusalOf_138 : decode cX5_refusalOf 138 = .ok (.iload_n 2, 1) := by decide +kernel
theorem dX5_refusalOf_139 : decode cX5_refusalOf 139 = .ok (.iconst 0, 1) := by decide +kernel
theorem dX5_refusalOf_140 : decode cX5_refusalOf 140 = .ok (.bipush 9, 2) := by decide +kernel
theorem dX5_refusalOf_142 : decode cX5_refusalOf 142 = .ok (.invokestatic 260, 3) := by decide +kernel
theorem dX5_refusalOf_145 : decode cX5_refusalOf 145 = .ok (.ifCond .eq 9, 3) := by decide +kernel
theorem dX5_refusalOf_148 : decode cX5_refusalOf 148 = .ok (.getstatic 333, 3) := by decide +kernel
theorem dX5_refusalOf_151 : decode cX5_refusalOf 151 = .ok (.goto 6, 3) := by decide +kernel
theorem dX5_refusalOf_154 : decode cX5_refusalOf 154 = .ok (.getstatic 327, 3) := by decide +kernel
theorem dX5_refusalOf_157 : decode cX5_refusalOf 157 = .ok (.areturn, 1) := by decide +kernel
theorem dX5_refusalOf_158 : decode cX5_refusalOf 158 = .ok (.aload_n 0, 1) := by decide +kernel
theorem dX5_refusalOf_159 : decode cX5_refusalOf 159 = .ok (.iload_n 2, 1) := by decide +kernel
theorem dX5_refusalOf_160 : decode cX5_refusalOf 160 = .ok (.iload_n 3, 1) := by decide +kernel
theorem dX5_refusalOf_161 : decode cX5_refusalOf 161 = .ok (.invokestatic 180, 3) := by decide +kernel
theorem dX5_refusalOf_164 : decode cX5_refusalOf 164 = .ok (.invokevirtual 339, 3) := by decide +kernel
theorem dX5_refusalOf_167 : decode cX5_refusalOf 167 = .ok (.areturn, 1) := by decide +kernel
theorem dX5_refusalOf_168 : decode cX5_refusalOf 168 = .ok (.aload_n 0, 1) := by decide +kernel
theorem dX5_refusalOf_169 : decode cX5_refusalOf 169 = .ok (.getfield 12, 3) := by decide +kernel
theorem dX5_refusalOf_172 : decode cX5_refusalOf 172 = .ok (.getfield 78, 3) := by decide +kernel
theorem dX5_refusalOf_175 : decode cX5_refusalOf 175 = .ok (.ifCond .le 9, 3) := by decide +kernel
theorem dX5_refusalOf_178 : decode cX5_refusalOf 178 = .ok (.getstatic 333, 3) := by decide +kernel
theorem dX5_refusalOf_181 : decode cX5_refusalOf 181 = .ok (.goto 6, 3) := by decide +kernel
theorem dX5_refusalOf_184 : decode cX5_refusalOf 184 = .ok (.getstatic 336, 3) := by decide +kernel
theorem dX5_refusalOf_187 : decode cX5_refusalOf 187 = .ok (.areturn, 1) := by decide +kernel
theorem dX5_refusalFor_0 : decode cX5_refusalFor 0 = .ok (.iload_n 1, 1) := by decide +kernel
theorem dX5_refusalFor_1 : decode cX5_refusalFor 1 = .ok (.iconst 0, 1) := by decide +kernel
theorem dX5_refusalFor_2 : decode cX5_refusalFor 2 = .ok (.aload_n 0, 1) := by decide +kernel
theorem dX5_refusalFor_3 : decode cX5_refusalFor 3 = .ok (.getfield 12, 3) := by decide +kernel
theorem dX5_refusalFor_6 : decode cX5_refusalFor 6 = .ok (.getfield 78, 3) := by decide +kernel
theorem dX5_refusalFor_9 : decode cX5_refusalFor 9 = .ok (.iconst 1, 1) := by decide +kernel
theorem dX5_refusalFor_10 : decode cX5_refusalFor 10 = .ok (.isub, 1) := by decide +kernel
theorem dX5_refusalFor_11 : decode cX5_refusalFor 11 = .ok (.invokestatic 260, 3) := by decide +kernel
theorem dX5_refusalFor_14 : decode cX5_refusalFor 14 = .ok (.ifCond .ne 7, 3) := by decide +kernel
theorem dX5_refusalFor_17 : decode cX5_refusalFor 17 = .ok (.getstatic 343, 3) := by decide +kernel
theorem dX5_refusalFor_20 : decode cX5_refusalFor 20 = .ok (.areturn, 1) := by decide +kernel
theorem dX5_refusalFor_21 : decode cX5_refusalFor 21 = .ok (.iload_n 2, 1) := by decide +kernel
theorem dX5_refusalFor_22 : decode cX5_refusalFor 22 = .ok (.ifCond .eq 9, 3) := by decide +kernel
theorem dX5_refusalFor_25 : decode cX5_refusalFor 25 = .ok (.getstatic 333, 3) := by decide +kernel
theorem dX5_refusalFor_28 : decode cX5_refusalFor 28 = .ok (.goto 6, 3) := by decide +kernel
theorem dX5_refusalFor_31 : decode cX5_refusalFor 31 = .ok (.getstatic 327, 3) := by decide +kernel
theorem dX5_refusalFor_34 : decode cX5_refusalFor 34 = .ok (.areturn, 1) := by decide +kernel
theorem dX5_raise_0 : decode cX5_raise 0 = .ok (.aload_n 0, 1) := by decide +kernel
theorem dX5_raise_1 : decode cX5_raise 1 = .ok (.getstatic 343, 3) := by decide +kernel
theorem dX5_raise_4 : decode cX5_raise 4 = .ok (.if_acmp .ne 14, 3) := by decide +kernel
theorem dX5_raise_7 : decode cX5_raise 7 = .ok (.new 251, 3) := by decide +kernel
theorem dX5_raise_10 : decode cX5_raise 10 = .ok (.dup, 1) := by decide +kernel
theorem dX5_raise_11 : decode cX5_raise 11 = .ok (.ldc_w 346, 3) := by decide +kernel
theorem dX5_raise_14 : decode cX5_raise 14 = .ok (.invokespecial 255, 3) := by decide +kernel
theorem dX5_raise_17 : decode cX5_raise 17 = .ok (.athrow, 1) := by decide +kernel
theorem dX5_raise_18 : decode cX5_raise 18 = .ok (.aload_n 0, 1) := by decide +kernel
theorem dX5_raise_19 : decode cX5_raise 19 = .ok (.getstatic 327, 3) := by decide +kernel
theorem dX5_raise_22 : decode cX5_raise 22 = .ok (.if_acmp .ne 14, 3) := by decide +kernel
theorem dX5_raise_25 : decode cX5_raise 25 = .ok (.new 183, 3) := by decide +kernel
theorem dX5_raise_28 : decode cX5_raise 28 = .ok (.dup, 1) := by decide +kernel
theorem dX5_raise_29 : decode cX5_raise 29 = .ok (.ldc_w 348, 3) := by decide +kernel
theorem dX5_raise_32 : decode cX5_raise 32 = .ok (.invokespecial 187, 3) := by decide +kernel
theorem dX5_raise_35 : decode cX5_raise 35 = .ok (.athrow, 1) := by decide +kernel
theorem dX5_raise_36 : decode cX5_raise 36 = .ok (.aload_n 0, 1) := by decide +kernel
theorem dX5_raise_37 : decode cX5_raise 37 = .ok (.getstatic 336, 3) := by decide +kernel
theorem dX5_raise_40 : decode cX5_raise 40 = .ok (.if_acmp .ne 14, 3) := by decide +kernel
theorem dX5_raise_43 : decode cX5_raise 43 = .ok (.new 266, 3) := by decide +kernel
theorem dX5_raise_46 : decode cX5_raise 46 = .ok (.dup, 1) := by decide +kernel
theorem dX5_raise_47 : decode cX5_raise 47 = .ok (.ldc_w 350, 3) := by decide +kernel
theorem dX5_raise_50 : decode cX5_raise 50 = .ok (.invokespecial 270, 3) := by decide +kernel
theorem dX5_raise_53 : decode cX5_raise 53 = .ok (.athrow, 1) := by decide +kernel
theorem dX5_raise_54 : decode cX5_raise 54 = .ok (.return_, 1) := by decide +kernel
theorem dX5_perform_0 : decode cX5_perform 0 = .ok (.getstatic 319, 3) := by decide +kernel
theorem dX5_perform_3 : decode cX5_perform 3 = .ok (.aload_n 1, 1) := by decide +kernel
theorem dX5_perform_4 : decode cX5_perform 4 = .ok (.invokevirtual 324, 3) := by decide +kernel
theorem dX5_perform_7 : decode cX5_perform 7 = .ok (.iaload, 1) := by decide +kernel
theorem dX5_perform_8 : decode cX5_perform 8 = .ok (.tableswitch 135 1 7 #[44, 53, 74, 87, 96, 105, 118], 44) := by decide +kernel
theorem dX5_perform_52 : decode cX5_perform 52 = .ok (.aload_n 0, 1) := by decide +kernel
theorem dX5_perform_53 : decode cX5_perform 53 = .ok (.getfield 12, 3) := by decide +kernel
theorem dX5_perform_56 : decode cX5_perform 56 = .ok (.iload_n 2, 1) := by decide +kernel
theorem dX5_perform_57 : decode cX5_perform 57 = .ok (.invokevirtual 352, 3) := by decide +kernel
theorem dX5_perform_60 : decode cX5_perform 60 = .ok (.ireturn, 1) := by decide +kernel
theorem dX5_perform_61 : decode cX5_perform 61 = .ok (.aload_n 0, 1) := by decide +kernel
theorem dX5_perform_62 : decode cX5_perform 62 = .ok (.getfield 12, 3) := by decide +kernel
theorem dX5_perform_65 : decode cX5_perform 65 = .ok (.aload_n 0, 1) := by decide +kernel
theorem dX5_perform_66 : decode cX5_perform 66 = .ok (.getfield 12, 3) := by decide +kernel
theorem dX5_perform_69 : decode cX5_perform 69 = .ok (.iload_n 2, 1) := by decide +kernel
theorem dX5_perform_70 : decode cX5_perform 70 = .ok (.invokevirtual 81, 3) := by decide +kernel
theorem dX5_perform_73 : decode cX5_perform 73 = .ok (.iload_n 3, 1) := by decide +kernel
theorem dX5_perform_74 : decode cX5_perform 74 = .ok (.iload 4, 2) := by decide +kernel
theorem dX5_perform_76 : decode cX5_perform 76 = .ok (.iload 5, 2) := by decide +kernel
theorem dX5_perform_78 : decode cX5_perform 78 = .ok (.invokevirtual 355, 3) := by decide +kernel
theorem dX5_perform_81 : decode cX5_perform 81 = .ok (.ireturn, 1) := by decide +kernel
theorem dX5_perform_82 : decode cX5_perform 82 = .ok (.aload_n 0, 1) := by decide +kernel
theorem dX5_perform_83 : decode cX5_perform 83 = .ok (.getfield 12, 3) := by decide +kernel
theorem dX5_perform_86 : decode cX5_perform 86 = .ok (.iload_n 2, 1) := by decide +kernel
theorem dX5_perform_87 : decode cX5_perform 87 = .ok (.invokevirtual 81, 3) := by decide +kernel
theorem dX5_perform_90 : decode cX5_perform 90 = .ok (.iload_n 3, 1) := by decide +kernel
theorem dX5_perform_91 : decode cX5_perform 91 = .ok (.invokevirtual 359, 3) := by decide +kernel
theorem dX5_perform_94 : decode cX5_perform 94 = .ok (.ireturn, 1) := by decide +kernel
theorem dX5_perform_95 : decode cX5_perform 95 = .ok (.aload_n 0, 1) := by decide +kernel
theorem dX5_perform_96 : decode cX5_perform 96 = .ok (.getfield 12, 3) := by decide +kernel
theorem dX5_perform_99 : decode cX5_perform 99 = .ok (.iload_n 2, 1) := by decide +kernel
theorem dX5_perform_100 : decode cX5_perform 100 = .ok (.invokevirtual 362, 3) := by decide +kernel
theorem dX5_perform_103 : decode cX5_perform 103 = .ok (.ireturn, 1) := by decide +kernel
theorem dX5_perform_104 : decode cX5_perform 104 = .ok (.aload_n 0, 1) := by decide +kernel
theorem dX5_perform_105 : decode cX5_perform 105 = .ok (.getfield 12, 3) := by decide +kernel
theorem dX5_perform_108 : decode cX5_perform 108 = .ok (.iload_n 2, 1) := by decide +kernel
theorem dX5_perform_109 : decode cX5_perform 109 = .ok (.invokevirtual 365, 3) := by decide +kernel
theorem dX5_perform_112 : decode cX5_perform 112 = .ok (.ireturn, 1) := by decide +kernel
theorem dX5_perform_113 : decode cX5_perform 113 = .ok (.aload_n 0, 1) := by decide +kernel
theorem dX5_perform_114 : decode cX5_perform 114 = .ok (.getfield 12, 3) := by decide +kernel
theorem dX5_perform_117 : decode cX5_perform 117 = .ok (.iload_n 2, 1) := by decide +kernel
theorem dX5_perform_118 : decode cX5_perform 118 = .ok (.invokevirtual 81, 3) := by decide +kernel
theorem dX5_perform_121 : decode cX5_perform 121 = .ok (.iload_n 3, 1) := by decide +kernel
theorem dX5_perform_122 : decode cX5_perform 122 = .ok (.invokevirtual 368, 3) := by decide +kernel
theorem dX5_perform_125 : decode cX5_perform 125 = .ok (.ireturn, 1) := by decide +kernel
theorem dX5_perform_126 : decode cX5_perform 126 = .ok (.aload_n 0, 1) := by decide +kernel
theorem dX5_perform_127 : decode cX5_perform 127 = .ok (.getfield 12, 3) := by decide +kernel
theorem dX5_perform_130 : decode cX5_perform 130 = .ok (.aload_n 0, 1) := by decide +kernel
theorem dX5_perform_131 : decode cX5_perform 131 = .ok (.getfield 12, 3) := by decide +kernel
theorem dX5_perform_134 : decode cX5_perform 134 = .ok (.iload_n 2, 1) := by decide +kernel
theorem dX5_perform_135 : decode cX5_perform 135 = .ok (.invokevirtual 81, 3) := by decide +kernel
theorem dX5_perform_138 : decode cX5_perform 138 = .ok (.iload_n 3, 1) := by decide +kernel
theorem dX5_perform_139 : decode cX5_perform 139 = .ok (.invokevirtual 371, 3) := by decide +kernel
theorem dX5_perform_142 : decode cX5_perform 142 = .ok (.ireturn, 1) := by decide +kernel
theorem dX5_perform_143 : decode cX5_perform 143 = .ok (.aload_n 0, 1) := by decide +kernel
theorem dX5_perform_144 : decode cX5_perform 144 = .ok (.getfield 12, 3) := by decide +kernel
theorem dX5_perform_147 : decode cX5_perform 147 = .ok (.invokevirtual 374, 3) := by decide +kernel
theorem dX5_perform_150 : decode cX5_perform 150 = .ok (.ireturn, 1) := by decide +kernel
theorem dX5_keepForUndo_0 : decode cX5_keepForUndo 0 = .ok (.aload_n 0, 1) := by decide +kernel
theorem dX5_keepForUndo_1 : decode cX5_keepForUndo 1 = .ok (.getfield 33, 3) := by decide +kernel
theorem dX5_keepForUndo_4 : decode cX5_keepForUndo 4 = .ok (.ifCond .lt 31, 3) := by decide +kernel
theorem dX5_keepForUndo_7 : decode cX5_keepForUndo 7 = .ok (.aload_n 0, 1) := by decide +kernel
theorem dX5_keepForUndo_8 : decode cX5_keepForUndo 8 = .ok (.getfield 33, 3) := by decide +kernel
theorem dX5_keepForUndo_11 : decode cX5_keepForUndo 11 = .ok (.aload_n 0, 1) := by decide +kernel
theorem dX5_keepForUndo_12 : decode cX5_keepForUndo 12 = .ok (.getfield 19, 3) := by decide +kernel
theorem dX5_keepForUndo_15 : decode cX5_keepForUndo 15 = .ok (.arraylength, 1) := by decide +kernel
theorem dX5_keepForUndo_16 : decode cX5_keepForUndo 16 = .ok (.if_icmp .ge 19, 3) := by decide +kernel
theorem dX5_keepForUndo_19 : decode cX5_keepForUndo 19 = .ok (.aload_n 0, 1) := by decide +kernel
theorem dX5_keepForUndo_20 : decode cX5_keepForUndo 20 = .ok (.getfield 19, 3) := by decide +kernel
theorem dX5_keepForUndo_23 : decode cX5_keepForUndo 23 = .ok (.aload_n 0, 1) := by decide +kernel
theorem dX5_keepForUndo_24 : decode cX5_keepForUndo 24 = .ok (.getfield 33, 3) := by decide +kernel
theorem dX5_keepForUndo_27 : decode cX5_keepForUndo 27 = .ok (.aaload, 1) := by decide +kernel
theorem dX5_keepForUndo_28 : decode cX5_keepForUndo 28 = .ok (.aload_n 0, 1) := by decide +kernel
theorem dX5_keepForUndo_29 : decode cX5_keepForUndo 29 = .ok (.getfield 12, 3) := by decide +kernel
theorem dX5_keepForUndo_32 : decode cX5_keepForUndo 32 = .ok (.invokevirtual 302, 3) := by decide +kernel
theorem dX5_keepForUndo_35 : decode cX5_keepForUndo 35 = .ok (.return_, 1) := by decide +kernel
theorem dX5_takeBack_0 : decode cX5_takeBack 0 = .ok (.aload_n 0, 1) := by decide +kernel
theorem dX5_takeBack_1 : decode cX5_takeBack 1 = .ok (.getfield 33, 3) := by decide +kernel
theorem dX5_takeBack_4 : decode cX5_takeBack 4 = .ok (.ifCond .lt 31, 3) := by decide +kernel
theorem dX5_takeBack_7 : decode cX5_takeBack 7 = .ok (.aload_n 0, 1) := by decide +kernel
theorem dX5_takeBack_8 : decode cX5_takeBack 8 = .ok (.getfield 33, 3) := by decide +kernel
theorem dX5_takeBack_11 : decode cX5_takeBack 11 = .ok (.aload_n 0, 1) := by decide +kernel
theorem dX5_takeBack_12 : decode cX5_takeBack 12 = .ok (.getfield 19, 3) := by decide +kernel
theorem dX5_takeBack_15 : decode cX5_takeBack 15 = .ok (.arraylength, 1) := by decide +kernel
theorem dX5_takeBack_16 : decode cX5_takeBack 16 = .ok (.if_icmp .ge 19, 3) := by decide +kernel
theorem dX5_takeBack_19 : decode cX5_takeBack 19 = .ok (.aload_n 0, 1) := by decide +kernel
theorem dX5_takeBack_20 : decode cX5_takeBack 20 = .ok (.getfield 12, 3) := by decide +kernel
theorem dX5_takeBack_23 : decode cX5_takeBack 23 = .ok (.aload_n 0, 1) := by decide +kernel
theorem dX5_takeBack_24 : decode cX5_takeBack 24 = .ok (.getfield 19, 3) := by decide +kernel
theorem dX5_takeBack_27 : decode cX5_takeBack 27 = .ok (.aload_n 0, 1) := by decide +kernel
theorem dX5_takeBack_28 : decode cX5_takeBack 28 = .ok (.getfield 33, 3) := by decide +kernel
theorem dX5_takeBack_31 : decode cX5_takeBack 31 = .ok (.aaload, 1) := by decide +kernel
theorem dX5_takeBack_32 : decode cX5_takeBack 32 = .ok (.invokevirtual 302, 3) := by decide +kernel
theorem dX5_takeBack_35 : decode cX5_takeBack 35 = .ok (.return_, 1) := by decide +kernel
theorem dX5_countChange_0 : decode cX5_countChange 0 = .ok (.aload_n 0, 1) := by decide +kernel
theorem dX5_countChange_1 : decode cX5_countChange 1 = .ok (.getfield 33, 3) := by decide +kernel
theorem dX5_countChange_4 : decode cX5_countChange 4 = .ok (.bipush 8, 2) := by decide +kernel
theorem dX5_countChange_6 : decode cX5_countChange 6 = .ok (.if_icmp .ge 16, 3) := by decide +kernel
theorem dX5_countChange_9 : decode cX5_countChange 9 = .ok (.aload_n 0, 1) := by decide +kernel
theorem dX5_countChange_10 : decode cX5_countChange 10 = .ok (.dup, 1) := by decide +kernel
theorem dX5_countChange_11 : decode cX5_countChange 11 = .ok (.getfield 33, 3) := by decide +kernel
theorem dX5_countChange_14 : decode cX5_countChange 14 = .ok (.iconst 1, 1) := by decide +kernel
theorem dX5_countChange_15 : decode cX5_countChange 15 = .ok (.iadd, 1) := by decide +kernel
theorem dX5_countChange_16 : decode cX5_countChange 16 = .ok (.putfield 33, 3) := by decide +kernel
theorem dX5_countChange_19 : decode cX5_countChange 19 = .ok (.goto 7, 3) := by decide +kernel
theorem dX5_countChange_22 : decode cX5_countChange 22 = .ok (.aload_n 0, 1) := by decide +kernel
theorem dX5_countChange_23 : decode cX5_countChange 23 = .ok (.invokevirtual 377, 3) := by decide +kernel
theorem dX5_countChange_26 : decode cX5_countChange 26 = .ok (.return_, 1) := by decide +kernel
theorem dX5_moveOldestToEnd_0 : decode cX5_moveOldestToEnd 0 = .ok (.iconst 1, 1) := by decide +kernel
theorem dX5_moveOldestToEnd_1 : decode cX5_moveOldestToEnd 1 = .ok (.istore_n 1, 1) := by decide +kernel
theorem dX5_moveOldestToEnd_2 : decode cX5_moveOldestToEnd 2 = .ok (.iload_n 1, 1) := by decide +kernel
theorem dX5_moveOldestToEnd_3 : decode cX5_moveOldestToEnd 3 = .ok (.aload_n 0, 1) := by decide +kernel
theorem dX5_moveOldestToEnd_4 : decode cX5_moveOldestToEnd 4 = .ok (.getfield 19, 3) := by decide +kernel
theorem dX5_moveOldestToEnd_7 : decode cX5_moveOldestToEnd 7 = .ok (.arraylength, 1) := by decide +kernel
theorem dX5_moveOldestToEnd_8 : decode cX5_moveOldestToEnd 8 = .ok (.if_icmp .ge 39, 3) := by decide +kernel
theorem dX5_moveOldestToEnd_11 : decode cX5_moveOldestToEnd 11 = .ok (.aload_n 0, 1) := by decide +kernel
theorem dX5_moveOldestToEnd_12 : decode cX5_moveOldestToEnd 12 = .ok (.getfield 19, 3) := by decide +kernel
theorem dX5_moveOldestToEnd_15 : decode cX5_moveOldestToEnd 15 = .ok (.iload_n 1, 1) := by decide +kernel
theorem dX5_moveOldestToEnd_16 : decode cX5_moveOldestToEnd 16 = .ok (.iconst 1, 1) := by decide +kernel
theorem dX5_moveOldestToEnd_17 : decode cX5_moveOldestToEnd 17 = .ok (.isub, 1) := by decide +kernel
theorem dX5_moveOldestToEnd_18 : decode cX5_moveOldestToEnd 18 = .ok (.aaload, 1) := by decide +kernel
theorem dX5_moveOldestToEnd_19 : decode cX5_moveOldestToEnd 19 = .ok (.astore_n 2, 1) := by decide +kernel
theorem dX5_moveOldestToEnd_20 : decode cX5_moveOldestToEnd 20 = .ok (.aload_n 0, 1) := by decide +kernel
theorem dX5_moveOldestToEnd_21 : decode cX5_moveOldestToEnd 21 = .ok (.getfield 19, 3) := by decide +kernel
theorem dX5_moveOldestToEnd_24 : decode cX5_moveOldestToEnd 24 = .ok (.iload_n 1, 1) := by decide +kernel
theorem dX5_moveOldestToEnd_25 : decode cX5_moveOldestToEnd 25 = .ok (.iconst 1, 1) := by decide +kernel
theorem dX5_moveOldestToEnd_26 : decode cX5_moveOldestToEnd 26 = .ok (.isub, 1) := by decide +kernel
theorem dX5_moveOldestToEnd_27 : decode cX5_moveOldestToEnd 27 = .ok (.aload_n 0, 1) := by decide +kernel
theorem dX5_moveOldestToEnd_28 : decode cX5_moveOldestToEnd 28 = .ok (.getfield 19, 3) := by decide +kernel
theorem dX5_moveOldestToEnd_31 : decode cX5_moveOldestToEnd 31 = .ok (.iload_n 1, 1) := by decide +kernel
theorem dX5_moveOldestToEnd_32 : decode cX5_moveOldestToEnd 32 = .ok (.aaload, 1) := by decide +kernel
theorem dX5_moveOldestToEnd_33 : decode cX5_moveOldestToEnd 33 = .ok (.aastore, 1) := by decide +kernel
theorem dX5_moveOldestToEnd_34 : decode cX5_moveOldestToEnd 34 = .ok (.aload_n 0, 1) := by decide +kernel
theorem dX5_moveOldestToEnd_35 : decode cX5_moveOldestToEnd 35 = .ok (.getfield 19, 3) := by decide +kernel
theorem dX5_moveOldestToEnd_38 : decode cX5_moveOldestToEnd 38 = .ok (.iload_n 1, 1) := by decide +kernel
theorem dX5_moveOldestToEnd_39 : decode cX5_moveOldestToEnd 39 = .ok (.aload_n 2, 1) := by decide +kernel
theorem dX5_moveOldestToEnd_40 : decode cX5_moveOldestToEnd 40 = .ok (.aastore, 1) := by decide +kernel
theorem dX5_moveOldestToEnd_41 : decode cX5_moveOldestToEnd 41 = .ok (.iinc 1 1, 3) := by decide +kernel
theorem dX5_moveOldestToEnd_44 : decode cX5_moveOldestToEnd 44 = .ok (.goto (-42), 3) := by decide +kernel
theorem dX5_moveOldestToEnd_47 : decode cX5_moveOldestToEnd 47 = .ok (.return_, 1) := by decide +kernel
theorem dX5_findFormError_0 : decode cX5_findFormError 0 = .ok (.iconst 0, 1) := by decide +kernel
theorem dX5_findFormError_1 : decode cX5_findFormError 1 = .ok (.istore_n 1, 1) := by decide +kernel
theorem dX5_findFormError_2 : decode cX5_findFormError 2 = .ok (.iconst 0, 1) := by decide +kernel
theorem dX5_findFormError_3 : decode cX5_findFormError 3 = .ok (.istore_n 2, 1) := by decide +kernel
theorem dX5_findFormError_4 : decode cX5_findFormError 4 = .ok (.iload_n 2, 1) := by decide +kernel
theorem dX5_findFormError_5 : decode cX5_findFormError 5 = .ok (.aload_n 0, 1) := by decide +kernel
theorem dX5_findFormError_6 : decode cX5_findFormError 6 = .ok (.getfield 26, 3) := by decide +kernel
theorem dX5_findFormError_9 : decode cX5_findFormError 9 = .ok (.invokevirtual 245, 3) := by decide +kernel
theorem dX5_findFormError_12 : decode cX5_findFormError 12 = .ok (.if_icmp .gt 49, 3) := by decide +kernel
theorem dX5_findFormError_15 : decode cX5_findFormError 15 = .ok (.aload_n 0, 1) := by decide +kernel
theorem dX5_findFormError_16 : decode cX5_findFormError 16 = .ok (.iload_n 1, 1) := by decide +kernel
theorem dX5_findFormError_17 : decode cX5_findFormError 17 = .ok (.invokevirtual 285, 3) := by decide +kernel
theorem dX5_findFormError_20 : decode cX5_findFormError 20 = .ok (.istore_n 3, 1) := by decide +kernel
theorem dX5_findFormError_21 : decode cX5_findFormError 21 = .ok (.aload_n 0, 1) := by decide +kernel
theorem dX5_findFormError_22 : decode cX5_findFormError 22 = .ok (.iload_n 1, 1) := by decide +kernel
theorem dX5_findFormError_23 : decode cX5_findFormError 23 = .ok (.iload_n 3, 1) := by decide +kernel
theorem dX5_findFormError_24 : decode cX5_findFormError 24 = .ok (.invokevirtual 380, 3) := by decide +kernel
theorem dX5_findFormError_27 : decode cX5_findFormError 27 = .ok (.ifnonnull 11, 3) := by decide +kernel
theorem dX5_findFormError_30 : decode cX5_findFormError 30 = .ok (.iload_n 1, 1) := by decide +kernel
theorem dX5_findFormError_31 : decode cX5_findFormError 31 = .ok (.aload_n 0, 1) := by decide +kernel
theorem dX5_findFormError_32 : decode cX5_findFormError 32 = .ok (.iload_n 1, 1) := by decide +kernel
theorem dX5_findFormError_33 : decode cX5_findFormError 33 = .ok (.invokevirtual 384, 3) := by decide +kernel
theorem dX5_findFormError_36 : decode cX5_findFormError 36 = .ok (.iadd, 1) := by decide +kernel
theorem dX5_findFormError_37 : decode cX5_findFormError 37 = .ok (.ireturn, 1) := by decide +kernel
theorem dX5_findFormError_38 : decode cX5_findFormError 38 = .ok (.iload_n 3, 1) := by decide +kernel
theorem dX5_findFormError_39 : decode cX5_findFormError 39 = .ok (.aload_n 0, 1) := by decide +kernel
theorem dX5_findFormError_40 : decode cX5_findFormError 40 = .ok (.getfield 26, 3) := by decide +kernel
theorem dX5_findFormError_43 : decode cX5_findFormError 43 = .ok (.invokevirtual 245, 3) := by decide +kernel
theorem dX5_findFormError_46 : decode cX5_findFormError 46 = .ok (.if_icmp .lt 5, 3) := by decide +kernel
theorem dX5_findFormError_49 : decode cX5_findFormError 49 = .ok (.iconst (-1), 1) := by decide +kernel
theorem dX5_findFormError_50 : decode cX5_findFormError 50 = .ok (.ireturn, 1) := by decide +kernel
theorem dX5_findFormError_51 : decode cX5_findFormError 51 = .ok (.iload_n 3, 1) := by decide +kernel
theorem dX5_findFormError_52 : decode cX5_findFormError 52 = .ok (.iconst 1, 1) := by decide +kernel
theorem dX5_findFormError_53 : decode cX5_findFormError 53 = .ok (.iadd, 1) := by decide +kernel
theorem dX5_findFormError_54 : decode cX5_findFormError 54 = .ok (.istore_n 1, 1) := by decide +kernel
theorem dX5_findFormError_55 : decode cX5_findFormError 55 = .ok (.iinc 2 1, 3) := by decide +kernel
theorem dX5_findFormError_58 : decode cX5_findFormError 58 = .ok (.goto (-54), 3) := by decide +kernel
theorem dX5_findFormError_61 : decode cX5_findFormError 61 = .ok (.iconst (-1), 1) := by decide +kernel
theorem dX5_findFormError_62 : decode cX5_findFormError 62 = .ok (.ireturn, 1) := by decide +kernel
theorem dX5_countCommands_0 : decode cX5_countCommands 0 = .ok (.iconst 1, 1) := by decide +kernel
theorem dX5_countCommands_1 : decode cX5_countCommands 1 = .ok (.istore_n 1, 1) := by decide +kernel
theorem dX5_countCommands_2 : decode cX5_countCommands 2 = .ok (.iconst 0, 1) := by decide +kernel
theorem dX5_countCommands_3 : decode cX5_countCommands 3 = .ok (.istore_n 2, 1) := by decide +kernel
theorem dX5_countCommands_4 : decode cX5_countCommands 4 = .ok (.iload_n 2, 1) := by decide +kernel
theorem dX5_countCommands_5 : decode cX5_countCommands 5 = .ok (.aload_n 0, 1) := by decide +kernel
theorem dX5_countCommands_6 : decode cX5_countCommands 6 = .ok (.getfield 26, 3) := by decide +kernel
theorem dX5_countCommands_9 : decode cX5_countCommands 9 = .ok (.invokevirtual 245, 3) := by decide +kernel
theorem dX5_countCommands_12 : decode cX5_countCommands 12 = .ok (.if_icmp .ge 25, 3) := by decide +kernel
theorem dX5_countCommands_15 : decode cX5_countCommands 15 = .ok (.aload_n 0, 1) := by decide +kernel
theorem dX5_countCommands_16 : decode cX5_countCommands 16 = .ok (.getfield 26, 3) := by decide +kernel
theorem dX5_countCommands_19 : decode cX5_countCommands 19 = .ok (.iload_n 2, 1) := by decide +kernel
theorem dX5_countCommands_20 : decode cX5_countCommands 20 = .ok (.invokevirtual 256, 3) := by decide +kernel
theorem dX5_countCommands_23 : decode cX5_countCommands 23 = .ok (.bipush 59, 2) := by decide +kernel
theorem dX5_countCommands_25 : decode cX5_countCommands 25 = .ok (.if_icmp .ne 6, 3) := by decide +kernel
theorem dX5_countCommands_28 : decode cX5_countCommands 28 = .ok (.iinc 1 1, 3) := by decide +kernel
theorem dX5_countCommands_31 : decode cX5_countCommands 31 = .ok (.iinc 2 1, 3) := by decide +kernel
theorem dX5_countCommands_34 : decode cX5_countCommands 34 = .ok (.goto (-30), 3) := by decide +kernel
theorem dX5_countCommands_37 : decode cX5_countCommands 37 = .ok (.iload_n 1, 1) := by decide +kernel
theorem dX5_countCommands_38 : decode cX5_countCommands 38 = .ok (.ireturn, 1) := by decide +kernel
theorem dX5_runCommand_0 : decode cX5_runCommand 0 = .ok (.aload_n 0, 1) := by decide +kernel
theorem dX5_runCommand_1 : decode cX5_runCommand 1 = .ok (.iload_n 1, 1) := by decide +kernel
theorem dX5_runCommand_2 : decode cX5_runCommand 2 = .ok (.invokevirtual 285, 3) := by decide +kernel
theorem dX5_runCommand_5 : decode cX5_runCommand 5 = .ok (.istore_n 2, 1) := by decide +kernel
theorem dX5_runCommand_6 : decode cX5_runCommand 6 = .ok (.aload_n 0, 1) := by decide +kernel
theorem dX5_runCommand_7 : decode cX5_runCommand 7 = .ok (.iload_n 1, 1) := by decide +kernel
theorem dX5_runCommand_8 : decode cX5_runCommand 8 = .ok (.iload_n 2, 1) := by decide +kernel
theorem dX5_runCommand_9 : decode cX5_runCommand 9 = .ok (.invokevirtual 380, 3) := by decide +kernel
theorem dX5_runCommand_12 : decode cX5_runCommand 12 = .ok (.astore_n 3, 1) := by decide +kernel
theorem dX5_runCommand_13 : decode cX5_runCommand 13 = .ok (.aload_n 3, 1) := by decide +kernel
theorem dX5_runCommand_14 : decode cX5_runCommand 14 = .ok (.ifnonnull 5, 3) := by decide +kernel
theorem dX5_runCommand_17 : decode cX5_runCommand 17 = .ok (.iconst 0, 1) := by decide +kernel
theorem dX5_runCommand_18 : decode cX5_runCommand 18 = .ok (.ireturn, 1) := by decide +kernel
theorem dX5_runCommand_19 : decode cX5_runCommand 19 = .ok (.aload_n 0, 1) := by decide +kernel
theorem dX5_runCommand_20 : decode cX5_runCommand 20 = .ok (.iload_n 1, 1) := by decide +kernel
theorem dX5_runCommand_21 : decode cX5_runCommand 21 = .ok (.iload_n 2, 1) := by decide +kernel
theorem dX5_runCommand_22 : decode cX5_runCommand 22 = .ok (.iconst 0, 1) := by decide +kernel
theorem dX5_runCommand_23 : decode cX5_runCommand 23 = .ok (.invokevirtual 387, 3) := by decide +kernel
theorem dX5_runCommand_26 : decode cX5_runCommand 26 = .ok (.istore 4, 2) := by decide +kernel
theorem dX5_runCommand_28 : decode cX5_runCommand 28 = .ok (.aload_n 0, 1) := by decide +kernel
theorem dX5_runCommand_29 : decode cX5_runCommand 29 = .ok (.iload_n 1, 1) := by decide +kernel
theorem dX5_runCommand_30 : decode cX5_runCommand 30 = .ok (.iload_n 2, 1) := by decide +kernel
theorem dX5_runCommand_31 : decode cX5_runCommand 31 = .ok (.iconst 1, 1) := by decide +kernel
theorem dX5_runCommand_32 : decode cX5_runCommand 32 = .ok (.invokevirtual 387, 3) := by decide +kernel
theorem dX5_runCommand_35 : decode cX5_runCommand 35 = .ok (.istore 5, 2) := by decide +kernel
theorem dX5_runCommand_37 : decode cX5_runCommand 37 = .ok (.aload_n 0, 1) := by decide +kernel
theorem dX5_runCommand_38 : decode cX5_runCommand 38 = .ok (.iload_n 1, 1) := by decide +kernel
theorem dX5_runCommand_39 : decode cX5_runCommand 39 = .ok (.iload_n 2, 1) := by decide +kernel
theorem dX5_runCommand_40 : decode cX5_runCommand 40 = .ok (.iconst 2, 1) := by decide +kernel
theorem dX5_runCommand_41 : decode cX5_runCommand 41 = .ok (.invokevirtual 387, 3) := by decide +kernel
theorem dX5_runCommand_44 : decode cX5_runCommand 44 = .ok (.istore 6, 2) := by decide +kernel
theorem dX5_runCommand_46 : decode cX5_runCommand 46 = .ok (.aload_n 0, 1) := by decide +kernel
theorem dX5_runCommand_47 : decode cX5_runCommand 47 = .ok (.iload_n 1, 1) := by decide +kernel
theorem dX5_runCommand_48 : decode cX5_runCommand 48 = .ok (.iload_n 2, 1) := by decide +kernel
theorem dX5_runCommand_49 : decode cX5_runCommand 49 = .ok (.iconst 3, 1) := by decide +kernel
theorem dX5_runCommand_50 : decode cX5_runCommand 50 = .ok (.invokevirtual 387, 3) := by decide +kernel
theorem dX5_runCommand_53 : decode cX5_runCommand 53 = .ok (.istore 7, 2) := by decide +kernel
theorem dX5_runCommand_55 : decode cX5_runCommand 55 = .ok (.aload_n 3, 1) := by decide +kernel
theorem dX5_runCommand_56 : decode cX5_runCommand 56 = .ok (.getstatic 47, 3) := by decide +kernel
theorem dX5_runCommand_59 : decode cX5_runCommand 59 = .ok (.if_acmp .ne 19, 3) := by decide +kernel
theorem dX5_runCommand_62 : decode cX5_runCommand 62 = .ok (.iload 5, 2) := by decide +kernel
theorem dX5_runCommand_64 : decode cX5_runCommand 64 = .ok (.iconst (-1), 1) := by decide +kernel
theorem dX5_runCommand_65 : decode cX5_runCommand 65 = .ok (.if_icmp .eq 13, 3) := by decide +kernel
theorem dX5_runCommand_68 : decode cX5_runCommand 68 = .ok (.bipush 10, 2) := by decide +kernel
theorem dX5_runCommand_70 : decode cX5_runCommand 70 = .ok (.iload 4, 2) := by decide +kernel
theorem dX5_runCommand_72 : decode cX5_runCommand 72 = .ok (.imul, 1) := by decide +kernel
theorem dX5_runCommand_73 : decode cX5_runCommand 73 = .ok (.iload 5, 2) := by decide +kernel
theorem dX5_runCommand_75 : decode cX5_runCommand 75 = .ok (.iadd, 1) := by decide +kernel
theorem dX5_runCommand_76 : decode cX5_runCommand 76 = .ok (.istore 4, 2) := by decide +kernel
theorem dX5_runCommand_78 : decode cX5_runCommand 78 = .ok (.aload_n 3, 1) := by decide +kernel
theorem dX5_runCommand_79 : decode cX5_runCommand 79 = .ok (.getstatic 57, 3) := by decide +kernel
theorem dX5_runCommand_82 : decode cX5_runCommand 82 = .ok (.if_acmp .ne 12, 3) := by decide +kernel
theorem dX5_runCommand_85 : decode cX5_runCommand 85 = .ok (.iload 7, 2) := by decide +kernel
theorem dX5_runCommand_87 : decode cX5_runCommand 87 = .ok (.iconst (-1), 1) := by decide +kernel
theorem dX5_runCommand_88 : decode cX5_runCommand 88 = .ok (.if_icmp .ne 6, 3) := by decide +kernel
theorem dX5_runCommand_91 : decode cX5_runCommand 91 = .ok (.iconst 1, 1) := by decide +kernel
theorem dX5_runCommand_92 : decode cX5_runCommand 92 = .ok (.istore 7, 2) := by decide +kernel
theorem dX5_runCommand_94 : decode cX5_runCommand 94 = .ok (.aload_n 0, 1) := by decide +kernel
theorem dX5_runCommand_95 : decode cX5_runCommand 95 = .ok (.aload_n 3, 1) := by decide +kernel
theorem dX5_runCommand_96 : decode cX5_runCommand 96 = .ok (.iload 4, 2) := by decide +kernel
theorem dX5_runCommand_98 : decode cX5_runCommand 98 = .ok (.iload 5, 2) := by decide +kernel
theorem dX5_runCommand_100 : decode cX5_runCommand 100 = .ok (.iload 6, 2) := by decide +kernel
theorem dX5_runCommand_102 : decode cX5_runCommand 102 = .ok (.iload 7, 2) := by decide +kernel
theorem dX5_runCommand_104 : decode cX5_runCommand 104 = .ok (.invokevirtual 308, 3) := by decide +kernel
theorem dX5_runCommand_107 : decode cX5_runCommand 107 = .ok (.getstatic 333, 3) := by decide +kernel
theorem dX5_runCommand_110 : decode cX5_runCommand 110 = .ok (.if_acmp .eq 5, 3) := by decide +kernel
theorem dX5_runCommand_113 : decode cX5_runCommand 113 = .ok (.iconst 0, 1) := by decide +kernel
theorem dX5_runCommand_114 : decode cX5_runCommand 114 = .ok (.ireturn, 1) := by decide +kernel
theorem dX5_runCommand_115 : decode cX5_runCommand 115 = .ok (.aload_n 0, 1) := by decide +kernel
theorem dX5_runCommand_116 : decode cX5_runCommand 116 = .ok (.aload_n 3, 1) := by decide +kernel
theorem dX5_runCommand_117 : decode cX5_runCommand 117 = .ok (.iload 4, 2) := by decide +kernel
theorem dX5_runCommand_119 : decode cX5_runCommand 119 = .ok (.iload 5, 2) := by decide +kernel
theorem dX5_runCommand_121 : decode cX5_runCommand 121 = .ok (.iload 6, 2) := by decide +kernel
theorem dX5_runCommand_123 : decode cX5_runCommand 123 = .ok (.iload 7, 2) := by decide +kernel
theorem dX5_runCommand_125 : decode cX5_runCommand 125 = .ok (.invokevirtual 316, 3) := by decide +kernel
theorem dX5_runCommand_128 : decode cX5_runCommand 128 = .ok (.pop, 1) := by decide +kernel
theorem dX5_runCommand_129 : decode cX5_runCommand 129 = .ok (.iconst 1, 1) := by decide +kernel
theorem dX5_runCommand_130 : decode cX5_runCommand 130 = .ok (.ireturn, 1) := by decide +kernel
theorem dX5_commandEnd_0 : decode cX5_commandEnd 0 = .ok (.iload_n 1, 1) := by decide +kernel
theorem dX5_commandEnd_1 : decode cX5_commandEnd 1 = .ok (.istore_n 2, 1) := by decide +kernel
theorem dX5_commandEnd_2 : decode cX5_commandEnd 2 = .ok (.iload_n 2, 1) := by decide +kernel
theorem dX5_commandEnd_3 : decode cX5_commandEnd 3 = .ok (.aload_n 0, 1) := by decide +kernel
theorem dX5_commandEnd_4 : decode cX5_commandEnd 4 = .ok (.getfield 26, 3) := by decide +kernel
theorem dX5_commandEnd_7 : decode cX5_commandEnd 7 = .ok (.invokevirtual 245, 3) := by decide +kernel
theorem dX5_commandEnd_10 : decode cX5_commandEnd 10 = .ok (.if_icmp .ge 24, 3) := by decide +kernel
theorem dX5_commandEnd_13 : decode cX5_commandEnd 13 = .ok (.aload_n 0, 1) := by decide +kernel
theorem dX5_commandEnd_14 : decode cX5_commandEnd 14 = .ok (.getfield 26, 3) := by decide +kernel
theorem dX5_commandEnd_17 : decode cX5_commandEnd 17 = .ok (.iload_n 2, 1) := by decide +kernel
theorem dX5_commandEnd_18 : decode cX5_commandEnd 18 = .ok (.invokevirtual 256, 3) := by decide +kernel
theorem dX5_commandEnd_21 : decode cX5_commandEnd 21 = .ok (.bipush 59, 2) := by decide +kernel
theorem dX5_commandEnd_23 : decode cX5_commandEnd 23 = .ok (.if_icmp .ne 5, 3) := by decide +kernel
theorem dX5_commandEnd_26 : decode cX5_commandEnd 26 = .ok (.iload_n 2, 1) := by decide +kernel
theorem dX5_commandEnd_27 : decode cX5_commandEnd 27 = .ok (.ireturn, 1) := by decide +kernel
theorem dX5_commandEnd_28 : decode cX5_commandEnd 28 = .ok (.iinc 2 1, 3) := by decide +kernel
theorem dX5_commandEnd_31 : decode cX5_commandEnd 31 = .ok (.goto (-29), 3) := by decide +kernel
theorem dX5_commandEnd_34 : decode cX5_commandEnd 34 = .ok (.aload_n 0, 1) := by decide +kernel
theorem dX5_commandEnd_35 : decode cX5_commandEnd 35 = .ok (.getfield 26, 3) := by decide +kernel
theorem dX5_commandEnd_38 : decode cX5_commandEnd 38 = .ok (.invokevirtual 245, 3) := by decide +kernel
theorem dX5_commandEnd_41 : decode cX5_commandEnd 41 = .ok (.ireturn, 1) := by decide +kernel
theorem dX5_commandAt_0 : decode cX5_commandAt 0 = .ok (.getstatic 391, 3) := by decide +kernel
theorem dX5_commandAt_3 : decode cX5_commandAt 3 = .ok (.astore_n 3, 1) := by decide +kernel
theorem dX5_commandAt_4 : decode cX5_commandAt 4 = .ok (.aload_n 3, 1) := by decide +kernel
theorem dX5_commandAt_5 : decode cX5_commandAt 5 = .ok (.arraylength, 1) := by decide +kernel
theorem dX5_commandAt_6 : decode cX5_commandAt 6 = .ok (.istore 4, 2) := by decide +kernel
theorem dX5_commandAt_8 : decode cX5_commandAt 8 = .ok (.iconst 0, 1) := by decide +kernel
theorem dX5_commandAt_9 : decode cX5_commandAt 9 = .ok (.istore 5, 2) := by decide +kernel
theorem dX5_commandAt_11 : decode cX5_commandAt 11 = .ok (.iload 5, 2) := by decide +kernel
theorem dX5_commandAt_13 : decode cX5_commandAt 13 = .ok (.iload 4, 2) := by decide +kernel
theorem dX5_commandAt_15 : decode cX5_commandAt 15 = .ok (.if_icmp .ge 73, 3) := by decide +kernel
theorem dX5_commandAt_18 : decode cX5_commandAt 18 = .ok (.aload_n 3, 1) := by decide +kernel
theorem dX5_commandAt_19 : decode cX5_commandAt 19 = .ok (.iload 5, 2) := by decide +kernel
theorem dX5_commandAt_21 : decode cX5_commandAt 21 = .ok (.aaload, 1) := by decide +kernel
theorem dX5_commandAt_22 : decode cX5_commandAt 22 = .ok (.astore 6, 2) := by decide +kernel
theorem dX5_commandAt_24 : decode cX5_commandAt 24 = .ok (.aload_n 0, 1) := by decide +kernel
theorem dX5_commandAt_25 : decode cX5_commandAt 25 = .ok (.aload 6, 2) := by decide +kernel
theorem dX5_commandAt_27 : decode cX5_commandAt 27 = .ok (.getfield 395, 3) := by decide +kernel
theorem dX5_commandAt_30 : decode cX5_commandAt 30 = .ok (.iload_n 1, 1) := by decide +kernel
theorem dX5_commandAt_31 : decode cX5_commandAt 31 = .ok (.invokevirtual 399, 3) := by decide +kernel
theorem dX5_commandAt_34 : decode cX5_commandAt 34 = .ok (.istore 7, 2) := by decide +kernel
theorem dX5_commandAt_36 : decode cX5_commandAt 36 = .ok (.iload 7, 2) := by decide +kernel
theorem dX5_commandAt_38 : decode cX5_commandAt 38 = .ok (.aload 6, 2) := by decide +kernel
theorem dX5_commandAt_40 : decode cX5_commandAt 40 = .ok (.getfield 403, 3) := by decide +kernel
theorem dX5_commandAt_43 : decode cX5_commandAt 43 = .ok (.if_icmp .eq 16, 3) := by decide +kernel
theorem dX5_commandAt_46 : decode cX5_commandAt 46 = .ok (.iload 7, 2) := by decide +kernel
theorem dX5_commandAt_48 : decode cX5_commandAt 48 = .ok (.aload 6, 2) := by decide +kernel
theorem dX5_commandAt_50 : decode cX5_commandAt 50 = .ok (.getfield 395, 3) := by decide +kernel
theorem dX5_commandAt_53 : decode cX5_commandAt 53 = .ok (.invokevirtual 406, 3) := by decide +kernel
theorem dX5_commandAt_56 : decode cX5_commandAt 56 = .ok (.if_icmp .ne 7, 3) := by decide +kernel
theorem dX5_commandAt_59 : decode cX5_commandAt 59 = .ok (.iconst 1, 1) := by decide +kernel
theorem dX5_commandAt_60 : decode cX5_commandAt 60 = .ok (.goto 4, 3) := by decide +kernel
theorem dX5_commandAt_63 : decode cX5_commandAt 63 = .ok (.iconst 0, 1) := by decide +kernel
theorem dX5_commandAt_64 : decode cX5_commandAt 64 = .ok (.istore 8, 2) := by decide +kernel
theorem dX5_commandAt_66 : decode cX5_commandAt 66 = .ok (.iload 8, 2) := by decide +kernel
theorem dX5_commandAt_68 : decode cX5_commandAt 68 = .ok (.ifCond .eq 14, 3) := by decide +kernel
theorem dX5_commandAt_71 : decode cX5_commandAt 71 = .ok (.iload 7, 2) := by decide +kernel
theorem dX5_commandAt_73 : decode cX5_commandAt 73 = .ok (.iload_n 2, 1) := by decide +kernel
theorem dX5_commandAt_74 : decode cX5_commandAt 74 = .ok (.iload_n 1, 1) := by decide +kernel
theorem dX5_commandAt_75 : decode cX5_commandAt 75 = .ok (.isub, 1) := by decide +kernel
theorem dX5_commandAt_76 : decode cX5_commandAt 76 = .ok (.if_icmp .ne 6, 3) := by decide +kernel
theorem dX5_commandAt_79 : decode cX5_commandAt 79 = .ok (.aload 6, 2) := by decide +kernel
theorem dX5_commandAt_81 : decode cX5_commandAt 81 = .ok (.areturn, 1) := by decide +kernel
theorem dX5_commandAt_82 : decode cX5_commandAt 82 = .ok (.iinc 5 1, 3) := by decide +kernel
theorem dX5_commandAt_85 : decode cX5_commandAt 85 = .ok (.goto (-74), 3) := by decide +kernel
theorem dX5_commandAt_88 : decode cX5_commandAt 88 = .ok (.aconst_null, 1) := by decide +kernel
theorem dX5_commandAt_89 : decode cX5_commandAt 89 = .ok (.areturn, 1) := by decide +kernel
theorem dX5_longestMatch_0 : decode cX5_longestMatch 0 = .ok (.iconst 0, 1) := by decide +kernel
theorem dX5_longestMatch_1 : decode cX5_longestMatch 1 = .ok (.istore_n 2, 1) := by decide +kernel
theorem dX5_longestMatch_2 : decode cX5_longestMatch 2 = .ok (.getstatic 391, 3) := by decide +kernel
theorem dX5_longestMatch_5 : decode cX5_longestMatch 5 = .ok (.astore_n 3, 1) := by decide +kernel
theorem dX5_longestMatch_6 : decode cX5_longestMatch 6 = .ok (.aload_n 3, 1) := by decide +kernel
theorem dX5_longestMatch_7 : decode cX5_longestMatch 7 = .ok (.arraylength, 1) := by decide +kernel
theorem dX5_longestMatch_8 : decode cX5_longestMatch 8 = .ok (.istore 4, 2) := by decide +kernel
theorem dX5_longestMatch_10 : decode cX5_longestMatch 10 = .ok (.iconst 0, 1) := by decide +kernel
theorem dX5_longestMatch_11 : decode cX5_longestMatch 11 = .ok (.istore 5, 2) := by decide +kernel
theorem dX5_longestMatch_13 : decode cX5_longestMatch 13 = .ok (.iload 5, 2) := by decide +kernel
theorem dX5_longestMatch_15 : decode cX5_longestMatch 15 = .ok (.iload 4, 2) := by decide +kernel
theorem dX5_longestMatch_17 : decode cX5_longestMatch 17 = .ok (.if_icmp .ge 30, 3) := by decide +kernel
theorem dX5_longestMatch_20 : decode cX5_longestMatch 20 = .ok (.aload_n 3, 1) := by decide +kernel
theorem dX5_longestMatch_21 : decode cX5_longestMatch 21 = .ok (.iload 5, 2) := by decide +kernel
theorem dX5_longestMatch_23 : decode cX5_longestMatch 23 = .ok (.aaload, 1) := by decide +kernel
theorem dX5_longestMatch_24 : decode cX5_longestMatch 24 = .ok (.astore 6, 2) := by decide +kernel
theorem dX5_longestMatch_26 : decode cX5_longestMatch 26 = .ok (.iload_n 2, 1) := by decide +kernel
theorem dX5_longestMatch_27 : decode cX5_longestMatch 27 = .ok (.aload_n 0, 1) := by decide +kernel
theorem dX5_longestMatch_28 : decode cX5_longestMatch 28 = .ok (.aload 6, 2) := by decide +kernel
theorem dX5_longestMatch_30 : decode cX5_longestMatch 30 = .ok (.getfield 395, 3) := by decide +kernel
theorem dX5_longestMatch_33 : decode cX5_longestMatch 33 = .ok (.iload_n 1, 1) := by decide +kernel
theorem dX5_longestMatch_34 : decode cX5_longestMatch 34 = .ok (.invokevirtual 399, 3) := by decide +kernel
theorem dX5_longestMatch_37 : decode cX5_longestMatch 37 = .ok (.invokestatic 409, 3) := by decide +kernel
theorem dX5_longestMatch_40 : decode cX5_longestMatch 40 = .ok (.istore_n 2, 1) := by decide +kernel
theorem dX5_longestMatch_41 : decode cX5_longestMatch 41 = .ok (.iinc 5 1, 3) := by decide +kernel
theorem dX5_longestMatch_44 : decode cX5_longestMatch 44 = .ok (.goto (-31), 3) := by decide +kernel
theorem dX5_longestMatch_47 : decode cX5_longestMatch 47 = .ok (.iload_n 2, 1) := by decide +kernel
theorem dX5_longestMatch_48 : decode cX5_longestMatch 48 = .ok (.ireturn, 1) := by decide +kernel
theorem dX5_matchedLength_0 : decode cX5_matchedLength 0 = .ok (.iconst 0, 1) := by decide +kernel
theorem dX5_matchedLength_1 : decode cX5_matchedLength 1 = .ok (.istore_n 3, 1) := by decide +kernel
theorem dX5_matchedLength_2 : decode cX5_matchedLength 2 = .ok (.iload_n 3, 1) := by decide +kernel
theorem dX5_matchedLength_3 : decode cX5_matchedLength 3 = .ok (.aload_n 1, 1) := by decide +kernel
theorem dX5_matchedLength_4 : decode cX5_matchedLength 4 = .ok (.invokevirtual 406, 3) := by decide +kernel
theorem dX5_matchedLength_7 : decode cX5_matchedLength 7 = .ok (.if_icmp .ge 43, 3) := by decide +kernel
theorem dX5_matchedLength_10 : decode cX5_matchedLength 10 = .ok (.iload_n 2, 1) := by decide +kernel
theorem dX5_matchedLength_11 : decode cX5_matchedLength 11 = .ok (.iload_n 3, 1) := by decide +kernel
theorem dX5_matchedLength_12 : decode cX5_matchedLength 12 = .ok (.iadd, 1) := by decide +kernel
theorem dX5_matchedLength_13 : decode cX5_matchedLength 13 = .ok (.aload_n 0, 1) := by decide +kernel
theorem dX5_matchedLength_14 : decode cX5_matchedLength 14 = .ok (.getfield 26, 3) := by decide +kernel
theorem dX5_matchedLength_17 : decode cX5_matchedLength 17 = .ok (.invokevirtual 245, 3) := by decide +kernel
theorem dX5_matchedLength_20 : decode cX5_matchedLength 20 = .ok (.if_icmp .ge 30, 3) := by decide +kernel
theorem dX5_matchedLength_23 : decode cX5_matchedLength 23 = .ok (.aload_n 1, 1) := by decide +kernel
theorem dX5_matchedLength_24 : decode cX5_matchedLength 24 = .ok (.iload_n 3, 1) := by decide +kernel
theorem dX5_matchedLength_25 : decode cX5_matchedLength 25 = .ok (.invokevirtual 414, 3) := by decide +kernel
theorem dX5_matchedLength_28 : decode cX5_matchedLength 28 = .ok (.aload_n 0, 1) := by decide +kernel
theorem dX5_matchedLength_29 : decode cX5_matchedLength 29 = .ok (.getfield 26, 3) := by decide +kernel
theorem dX5_matchedLength_32 : decode cX5_matchedLength 32 = .ok (.iload_n 2, 1) := by decide +kernel
theorem dX5_matchedLength_33 : decode cX5_matchedLength 33 = .ok (.iload_n 3, 1) := by decide +kernel
theorem dX5_matchedLength_34 : decode cX5_matchedLength 34 = .ok (.iadd, 1) := by decide +kernel
theorem dX5_matchedLength_35 : decode cX5_matchedLength 35 = .ok (.invokevirtual 256, 3) := by decide +kernel
theorem dX5_matchedLength_38 : decode cX5_matchedLength 38 = .ok (.invokestatic 415, 3) := by decide +kernel
theorem dX5_matchedLength_41 : decode cX5_matchedLength 41 = .ok (.ifCond .eq 9, 3) := by decide +kernel
theorem dX5_matchedLength_44 : decode cX5_matchedLength 44 = .ok (.iinc 3 1, 3) := by decide +kernel
theorem dX5_matchedLength_47 : decode cX5_matchedLength 47 = .ok (.goto (-45), 3) := by decide +kernel
theorem dX5_matchedLength_50 : decode cX5_matchedLength 50 = .ok (.iload_n 3, 1) := by decide +kernel
theorem dX5_matchedLength_51 : decode cX5_matchedLength 51 = .ok (.ireturn, 1) := by decide +kernel
theorem dX5_fits_0 : decode cX5_fits 0 = .ok (.iload_n 0, 1) := by decide +kernel
theorem dX5_fits_1 : decode cX5_fits 1 = .ok (.bipush 35, 2) := by decide +kernel
theorem dX5_fits_3 : decode cX5_fits 3 = .ok (.if_icmp .ne 10, 3) := by decide +kernel
theorem dX5_fits_6 : decode cX5_fits 6 = .ok (.iload_n 1, 1) := by decide +kernel
theorem dX5_fits_7 : decode cX5_fits 7 = .ok (.invokestatic 419, 3) := by decide +kernel
theorem dX5_fits_10 : decode cX5_fits 10 = .ok (.goto 13, 3) := by decide +kernel
theorem dX5_fits_13 : decode cX5_fits 13 = .ok (.iload_n 0, 1) := by decide +kernel
theorem dX5_fits_14 : decode cX5_fits 14 = .ok (.iload_n 1, 1) := by decide +kernel
theorem dX5_fits_15 : decode cX5_fits 15 = .ok (.if_icmp .ne 7, 3) := by decide +kernel
theorem dX5_fits_18 : decode cX5_fits 18 = .ok (.iconst 1, 1) := by decide +kernel
theorem dX5_fits_19 : decode cX5_fits 19 = .ok (.goto 4, 3) := by decide +kernel
theorem dX5_fits_22 : decode cX5_fits 22 = .ok (.iconst 0, 1) := by decide +kernel
theorem dX5_fits_23 : decode cX5_fits 23 = .ok (.ireturn, 1) := by decide +kernel
theorem dX5_digitAt_0 : decode cX5_digitAt 0 = .ok (.iconst 0, 1) := by decide +kernel
theorem dX5_digitAt_1 : decode cX5_digitAt 1 = .ok (.istore 4, 2) := by decide +kernel
theorem dX5_digitAt_3 : decode cX5_digitAt 3 = .ok (.iload_n 1, 1) := by decide +kernel
theorem dX5_digitAt_4 : decode cX5_digitAt 4 = .ok (.istore 5, 2) := by decide +kernel
theorem dX5_digitAt_6 : decode cX5_digitAt 6 = .ok (.iload 5, 2) := by decide +kernel
theorem dX5_digitAt_8 : decode cX5_digitAt 8 = .ok (.iload_n 2, 1) := by decide +kernel
theorem dX5_digitAt_9 : decode cX5_digitAt 9 = .ok (.if_icmp .ge 55, 3) := by decide +kernel
theorem dX5_digitAt_12 : decode cX5_digitAt 12 = .ok (.iload 5, 2) := by decide +kernel
theorem dX5_digitAt_14 : decode cX5_digitAt 14 = .ok (.aload_n 0, 1) := by decide +kernel
theorem dX5_digitAt_15 : decode cX5_digitAt 15 = .ok (.getfield 26, 3) := by decide +kernel
theorem dX5_digitAt_18 : decode cX5_digitAt 18 = .ok (.invokevirtual 245, 3) := by decide +kernel
theorem dX5_digitAt_21 : decode cX5_digitAt 21 = .ok (.if_icmp .ge 43, 3) := by decide +kernel
theorem dX5_digitAt_24 : decode cX5_digitAt 24 = .ok (.aload_n 0, 1) := by decide +kernel
theorem dX5_digitAt_25 : decode cX5_digitAt 25 = .ok (.getfield 26, 3) := by decide +kernel
theorem dX5_digitAt_28 : decode cX5_digitAt 28 = .ok (.iload 5, 2) := by decide +kernel
theorem dX5_digitAt_30 : decode cX5_digitAt 30 = .ok (.invokevirtual 256, 3) := by decide +kernel
theorem dX5_digitAt_33 : decode cX5_digitAt 33 = .ok (.istore 6, 2) := by decide +kernel
theorem dX5_digitAt_35 : decode cX5_digitAt 35 = .ok (.iload 6, 2) := by decide +kernel
theorem dX5_digitAt_37 : decode cX5_digitAt 37 = .ok (.invokestatic 419, 3) := by decide +kernel
theorem dX5_digitAt_40 : decode cX5_digitAt 40 = .ok (.ifCond .eq 18, 3) := by decide +kernel
theorem dX5_digitAt_43 : decode cX5_digitAt 43 = .ok (.iload 4, 2) := by decide +kernel
theorem dX5_digitAt_45 : decode cX5_digitAt 45 = .ok (.iload_n 3, 1) := by decide +kernel
theorem dX5_digitAt_46 : decode cX5_digitAt 46 = .ok (.if_icmp .ne 9, 3) := by decide +kernel
theorem dX5_digitAt_49 : decode cX5_digitAt 49 = .ok (.iload 6, 2) := by decide +kernel
theorem dX5_digitAt_51 : decode cX5_digitAt 51 = .ok (.bipush 48, 2) := by decide +kernel
theorem dX5_digitAt_53 : decode cX5_digitAt 53 = .ok (.isub, 1) := by decide +kernel
theorem dX5_digitAt_54 : decode cX5_digitAt 54 = .ok (.ireturn, 1) := by decide +kernel
theorem dX5_digitAt_55 : decode cX5_digitAt 55 = .ok (.iinc 4 1, 3) := by decide +kernel
theorem dX5_digitAt_58 : decode cX5_digitAt 58 = .ok (.iinc 5 1, 3) := by decide +kernel
theorem dX5_digitAt_61 : decode cX5_digitAt 61 = .ok (.goto (-55), 3) := by decide +kernel
theorem dX5_digitAt_64 : decode cX5_digitAt 64 = .ok (.iconst (-1), 1) := by decide +kernel
theorem dX5_digitAt_65 : decode cX5_digitAt 65 = .ok (.ireturn, 1) := by decide +kernel
theorem dX5_isDigit_0 : decode cX5_isDigit 0 = .ok (.iload_n 0, 1) := by decide +kernel
theorem dX5_isDigit_1 : decode cX5_isDigit 1 = .ok (.bipush 48, 2) := by decide +kernel
theorem dX5_isDigit_3 : decode cX5_isDigit 3 = .ok (.if_icmp .lt 13, 3) := by decide +kernel
theorem dX5_isDigit_6 : decode cX5_isDigit 6 = .ok (.iload_n 0, 1) := by decide +kernel
theorem dX5_isDigit_7 : decode cX5_isDigit 7 = .ok (.bipush 57, 2) := by decide +kernel
theorem dX5_isDigit_9 : decode cX5_isDigit 9 = .ok (.if_icmp .gt 7, 3) := by decide +kernel
theorem dX5_isDigit_12 : decode cX5_isDigit 12 = .ok (.iconst 1, 1) := by decide +kernel
theorem dX5_isDigit_13 : decode cX5_isDigit 13 = .ok (.goto 4, 3) := by decide +kernel
theorem dX5_isDigit_16 : decode cX5_isDigit 16 = .ok (.iconst 0, 1) := by decide +kernel
theorem dX5_isDigit_17 : decode cX5_isDigit 17 = .ok (.ireturn, 1) := by decide +kernel
theorem dX5_isBetween_0 : decode cX5_isBetween 0 = .ok (.iload_n 0, 1) := by decide +kernel
theorem dX5_isBetween_1 : decode cX5_isBetween 1 = .ok (.iload_n 1, 1) := by decide +kernel
theorem dX5_isBetween_2 : decode cX5_isBetween 2 = .ok (.if_icmp .lt 12, 3) := by decide +kernel
theorem dX5_isBetween_5 : decode cX5_isBetween 5 = .ok (.iload_n 0, 1) := by decide +kernel
theorem dX5_isBetween_6 : decode cX5_isBetween 6 = .ok (.iload_n 2, 1) := by decide +kernel
theorem dX5_isBetween_7 : decode cX5_isBetween 7 = .ok (.if_icmp .gt 7, 3) := by decide +kernel
theorem dX5_isBetween_10 : decode cX5_isBetween 10 = .ok (.iconst 1, 1) := by decide +kernel
theorem dX5_isBetween_11 : decode cX5_isBetween 11 = .ok (.goto 4, 3) := by decide +kernel
theorem dX5_isBetween_14 : decode cX5_isBetween 14 = .ok (.iconst 0, 1) := by decide +kernel
theorem dX5_isBetween_15 : decode cX5_isBetween 15 = .ok (.ireturn, 1) := by decide +kernel
theorem dX5_isLevel_0 : decode cX5_isLevel 0 = .ok (.iload_n 0, 1) := by decide +kernel
theorem dX5_isLevel_1 : decode cX5_isLevel 1 = .ok (.iconst 0, 1) := by decide +kernel
theorem dX5_isLevel_2 : decode cX5_isLevel 2 = .ok (.iconst 3, 1) := by decide +kernel
theorem dX5_isLevel_3 : decode cX5_isLevel 3 = .ok (.invokestatic 260, 3) := by decide +kernel
theorem dX5_isLevel_6 : decode cX5_isLevel 6 = .ok (.ireturn, 1) := by decide +kernel
theorem dX5_requireSituation_0 : decode cX5_requireSituation 0 = .ok (.iload_n 0, 1) := by decide +kernel
theorem dX5_requireSituation_1 : decode cX5_requireSituation 1 = .ok (.invokestatic 180, 3) := by decide +kernel
theorem dX5_requireSituation_4 : decode cX5_requireSituation 4 = .ok (.ifCond .eq 10, 3) := by decide +kernel
theorem dX5_requireSituation_7 : decode cX5_requireSituation 7 = .ok (.iload_n 1, 1) := by decide +kernel
theorem dX5_requireSituation_8 : decode cX5_requireSituation 8 = .ok (.invokestatic 180, 3) := by decide +kernel
theorem dX5_requireSituation_11 : decode cX5_requireSituation 11 = .ok (.ifCond .ne 14, 3) := by decide +kernel
theorem dX5_requireSituation_14 : decode cX5_requireSituation 14 = .ok (.new 183, 3) := by decide +kernel
theorem dX5_requireSituation_17 : decode cX5_requireSituation 17 = .ok (.dup, 1) := by decide +kernel
theorem dX5_requireSituation_18 : decode cX5_requireSituation 18 = .ok (.ldc_w 423, 3) := by decide +kernel
theorem dX5_requireSituation_21 : decode cX5_requireSituation 21 = .ok (.invokespecial 187, 3) := by decide +kernel
theorem dX5_requireSituation_24 : decode cX5_requireSituation 24 = .ok (.athrow, 1) := by decide +kernel
theorem dX5_requireSituation_25 : decode cX5_requireSituation 25 = .ok (.return_, 1) := by decide +kernel
theorem dX5_trialIndex_0 : decode cX5_trialIndex 0 = .ok (.iload_n 1, 1) := by decide +kernel
theorem dX5_trialIndex_1 : decode cX5_trialIndex 1 = .ok (.ifCond .lt 11, 3) := by decide +kernel
theorem dX5_trialIndex_4 : decode cX5_trialIndex 4 = .ok (.iload_n 1, 1) := by decide +kernel
theorem dX5_trialIndex_5 : decode cX5_trialIndex 5 = .ok (.aload_n 0, 1) := by decide +kernel
theorem dX5_trialIndex_6 : decode cX5_trialIndex 6 = .ok (.getfield 96, 3) := by decide +kernel
theorem dX5_trialIndex_9 : decode cX5_trialIndex 9 = .ok (.if_icmp .lt 13, 3) := by decide +kernel
theorem dX5_trialIndex_12 : decode cX5_trialIndex 12 = .ok (.new 157, 3) := by decide +kernel
theorem dX5_trialIndex_15 : decode cX5_trialIndex 15 = .ok (.dup, 1) := by decide +kernel
theorem dX5_trialIndex_16 : decode cX5_trialIndex 16 = .ok (.ldc 159, 2) := by decide +kernel
theorem dX5_trialIndex_18 : decode cX5_trialIndex 18 = .ok (.invokespecial 161, 3) := by decide +kernel
theorem dX5_trialIndex_21 : decode cX5_trialIndex 21 = .ok (.athrow, 1) := by decide +kernel
theorem dX5_trialIndex_22 : decode cX5_trialIndex 22 = .ok (.aload_n 0, 1) := by decide +kernel
theorem dX5_trialIndex_23 : decode cX5_trialIndex 23 = .ok (.getfield 96, 3) := by decide +kernel
theorem dX5_trialIndex_26 : decode cX5_trialIndex 26 = .ok (.iconst 1, 1) := by decide +kernel
theorem dX5_trialIndex_27 : decode cX5_trialIndex 27 = .ok (.isub, 1) := by decide +kernel
theorem dX5_trialIndex_28 : decode cX5_trialIndex 28 = .ok (.iload_n 1, 1) := by decide +kernel
theorem dX5_trialIndex_29 : decode cX5_trialIndex 29 = .ok (.isub, 1) := by decide +kernel
theorem dX5_trialIndex_30 : decode cX5_trialIndex 30 = .ok (.ireturn, 1) := by decide +kernel
theorem dX5_rankedSituation_0 : decode cX5_rankedSituation 0 = .ok (.aload_n 0, 1) := by decide +kernel
theorem dX5_rankedSituation_1 : decode cX5_rankedSituation 1 = .ok (.getfield 12, 3) := by decide +kernel
theorem dX5_rankedSituation_4 : decode cX5_rankedSituation 4 = .ok (.iload_n 1, 1) := by decide +kernel
theorem dX5_rankedSituation_5 : decode cX5_rankedSituation 5 = .ok (.invokevirtual 81, 3) := by decide +kernel
theorem dX5_rankedSituation_8 : decode cX5_rankedSituation 8 = .ok (.iload_n 2, 1) := by decide +kernel
theorem dX5_rankedSituation_9 : decode cX5_rankedSituation 9 = .ok (.invokevirtual 425, 3) := by decide +kernel
theorem dX5_rankedSituation_12 : decode cX5_rankedSituation 12 = .ok (.istore_n 3, 1) := by decide +kernel
theorem dX5_rankedSituation_13 : decode cX5_rankedSituation 13 = .ok (.iload_n 3, 1) := by decide +kernel
theorem dX5_rankedSituation_14 : decode cX5_rankedSituation 14 = .ok (.iconst (-1), 1) := by decide +kernel
theorem dX5_rankedSituation_15 : decode cX5_rankedSituation 15 = .ok (.if_icmp .ne 13, 3) := by decide +kernel
theorem dX5_rankedSituation_18 : decode cX5_rankedSituation 18 = .ok (.new 157, 3) := by decide +kernel
theorem dX5_rankedSituation_21 : decode cX5_rankedSituation 21 = .ok (.dup, 1) := by decide +kernel
theorem dX5_rankedSituation_22 : decode cX5_rankedSituation 22 = .ok (.ldc 206, 2) := by decide +kernel
theorem dX5_rankedSituation_24 : decode cX5_rankedSituation 24 = .ok (.invokespecial 161, 3) := by decide +kernel
theorem dX5_rankedSituation_27 : decode cX5_rankedSituation 27 = .ok (.athrow, 1) := by decide +kernel
theorem dX5_rankedSituation_28 : decode cX5_rankedSituation 28 = .ok (.iload_n 3, 1) := by decide +kernel
theorem dX5_rankedSituation_29 : decode cX5_rankedSituation 29 = .ok (.ireturn, 1) := by decide +kernel
theorem dX5_situationOf_0 : decode cX5_situationOf 0 = .ok (.iload_n 0, 1) := by decide +kernel
theorem dX5_situationOf_1 : decode cX5_situationOf 1 = .ok (.iconst 4, 1) := by decide +kernel
theorem dX5_situationOf_2 : decode cX5_situationOf 2 = .ok (.imul, 1) := by decide +kernel
theorem dX5_situationOf_3 : decode cX5_situationOf 3 = .ok (.iload_n 1, 1) := by decide +kernel
theorem dX5_situationOf_4 : decode cX5_situationOf 4 = .ok (.iadd, 1) := by decide +kernel
theorem dX5_situationOf_5 : decode cX5_situationOf 5 = .ok (.ireturn, 1) := by decide +kernel
theorem dX5_rainOfSituation_0 : decode cX5_rainOfSituation 0 = .ok (.iload_n 0, 1) := by decide +kernel
theorem dX5_rainOfSituation_1 : decode cX5_rainOfSituation 1 = .ok (.iconst 4, 1) := by decide +kernel
theorem dX5_rainOfSituation_2 : decode cX5_rainOfSituation 2 = .ok (.idiv, 1) := by decide +kernel
theorem dX5_rainOfSituation_3 : decode cX5_rainOfSituation 3 = .ok (.ireturn, 1) := by decide +kernel
theorem dX5_windOfSituation_0 : decode cX5_windOfSituation 0 = .ok (.iload_n 0, 1) := by decide +kernel
theorem dX5_windOfSituation_1 : decode cX5_windOfSituation 1 = .ok (.iconst 4, 1) := by decide +kernel
theorem dX5_windOfSituation_2 : decode cX5_windOfSituation 2 = .ok (.irem, 1) := by decide +kernel
theorem dX5_windOfSituation_3 : decode cX5_windOfSituation 3 = .ok (.ireturn, 1) := by decide +kernel
theorem dX5_caseInSituation_0 : decode cX5_caseInSituation 0 = .ok (.iconst 2, 1) := by decide +kernel
theorem dX5_caseInSituation_1 : decode cX5_caseInSituation 1 = .ok (.iload_n 0, 1) := by decide +kernel
theorem dX5_caseInSituation_2 : decode cX5_caseInSituation 2 = .ok (.imul, 1) := by decide +kernel
theorem dX5_caseInSituation_3 : decode cX5_caseInSituation 3 = .ok (.iload_n 1, 1) := by decide +kernel
theorem dX5_caseInSituation_4 : decode cX5_caseInSituation 4 = .ok (.ifCond .eq 7, 3) := by decide +kernel
theorem dX5_caseInSituation_7 : decode cX5_caseInSituation 7 = .ok (.iconst 1, 1) := by decide +kernel
theorem dX5_caseInSituation_8 : decode cX5_caseInSituation 8 = .ok (.goto 4, 3) := by decide +kernel
theorem dX5_caseInSituation_11 : decode cX5_caseInSituation 11 = .ok (.iconst 0, 1) := by decide +kernel
theorem dX5_caseInSituation_12 : decode cX5_caseInSituation 12 = .ok (.iadd, 1) := by decide +kernel
theorem dX5_caseInSituation_13 : decode cX5_caseInSituation 13 = .ok (.ireturn, 1) := by decide +kernel
theorem dX5_caseOf_0 : decode cX5_caseOf 0 = .ok (.iload_n 0, 1) := by decide +kernel
theorem dX5_caseOf_1 : decode cX5_caseOf 1 = .ok (.iload_n 1, 1) := by decide +kernel
theorem dX5_caseOf_2 : decode cX5_caseOf 2 = .ok (.invokestatic 134, 3) := by decide +kernel
theorem dX5_caseOf_5 : decode cX5_caseOf 5 = .ok (.iload_n 2, 1) := by decide +kernel
theorem dX5_caseOf_6 : decode cX5_caseOf 6 = .ok (.invokestatic 428, 3) := by decide +kernel
theorem dX5_caseOf_9 : decode cX5_caseOf 9 = .ok (.ireturn, 1) := by decide +kernel
theorem dX5_rainOfCase_0 : decode cX5_rainOfCase 0 = .ok (.iload_n 0, 1) := by decide +kernel
theorem dX5_rainOfCase_1 : decode cX5_rainOfCase 1 = .ok (.iconst 2, 1) := by decide +kernel
theorem dX5_rainOfCase_2 : decode cX5_rainOfCase 2 = .ok (.idiv, 1) := by decide +kernel
theorem dX5_rainOfCase_3 : decode cX5_rainOfCase 3 = .ok (.invokestatic 174, 3) := by decide +kernel
theorem dX5_rainOfCase_6 : decode cX5_rainOfCase 6 = .ok (.ireturn, 1) := by decide +kernel
theorem dX5_isOpenCase_0 : decode cX5_isOpenCase 0 = .ok (.iload_n 0, 1) := by decide +kernel
theorem dX5_isOpenCase_1 : decode cX5_isOpenCase 1 = .ok (.iconst 2, 1) := by decide +kernel
theorem dX5_isOpenCase_2 : decode cX5_isOpenCase 2 = .ok (.irem, 1) := by decide +kernel
theorem dX5_isOpenCase_3 : decode cX5_isOpenCase 3 = .ok (.iconst 1, 1) := by decide +kernel
theorem dX5_isOpenCase_4 : decode cX5_isOpenCase 4 = .ok (.if_icmp .ne 7, 3) := by decide +kernel
theorem dX5_isOpenCase_7 : decode cX5_isOpenCase 7 = .ok (.iconst 1, 1) := by decide +kernel
theorem dX5_isOpenCase_8 : decode cX5_isOpenCase 8 = .ok (.goto 4, 3) := by decide +kernel
theorem dX5_isOpenCase_11 : decode cX5_isOpenCase 11 = .ok (.iconst 0, 1) := by decide +kernel
theorem dX5_isOpenCase_12 : decode cX5_isOpenCase 12 = .ok (.ireturn, 1) := by decide +kernel
theorem dX5_valueAt_0 : decode cX5_valueAt 0 = .ok (.iload_n 1, 1) := by decide +kernel
theorem dX5_valueAt_1 : decode cX5_valueAt 1 = .ok (.ifCond .lt 15, 3) := by decide +kernel
theorem dX5_valueAt_4 : decode cX5_valueAt 4 = .ok (.iload_n 1, 1) := by decide +kernel
theorem dX5_valueAt_5 : decode cX5_valueAt 5 = .ok (.aload_n 0, 1) := by decide +kernel
theorem dX5_valueAt_6 : decode cX5_valueAt 6 = .ok (.arraylength, 1) := by decide +kernel
theorem dX5_valueAt_7 : decode cX5_valueAt 7 = .ok (.if_icmp .ge 9, 3) := by decide +kernel
theorem dX5_valueAt_10 : decode cX5_valueAt 10 = .ok (.aload_n 0, 1) := by decide +kernel
theorem dX5_valueAt_11 : decode cX5_valueAt 11 = .ok (.iload_n 1, 1) := by decide +kernel
theorem dX5_valueAt_12 : decode cX5_valueAt 12 = .ok (.iaload, 1) := by decide +kernel
theorem dX5_valueAt_13 : decode cX5_valueAt 13 = .ok (.goto 4, 3) := by decide +kernel
theorem dX5_valueAt_16 : decode cX5_valueAt 16 = .ok (.iconst 0, 1) := by decide +kernel
theorem dX5_valueAt_17 : decode cX5_valueAt 17 = .ok (.ireturn, 1) := by decide +kernel
theorem dX5_putAt_0 : decode cX5_putAt 0 = .ok (.iload_n 1, 1) := by decide +kernel
theorem dX5_putAt_1 : decode cX5_putAt 1 = .ok (.ifCond .lt 13, 3) := by decide +kernel
theorem dX5_putAt_4 : decode cX5_putAt 4 = .ok (.iload_n 1, 1) := by decide +kernel
theorem dX5_putAt_5 : decode cX5_putAt 5 = .ok (.aload_n 0, 1) := by decide +kernel
theorem dX5_putAt_6 : decode cX5_putAt 6 = .ok (.arraylength, 1) := by decide +kernel
theorem dX5_putAt_7 : decode cX5_putAt 7 = .ok (.if_icmp .ge 7, 3) := by decide +kernel
theorem dX5_putAt_10 : decode cX5_putAt 10 = .ok (.aload_n 0, 1) := by decide +kernel
theorem dX5_putAt_11 : decode cX5_putAt 11 = .ok (.iload_n 1, 1) := by decide +kernel
theorem dX5_putAt_12 : decode cX5_putAt 12 = .ok (.iload_n 2, 1) := by decide +kernel
theorem dX5_putAt_13 : decode cX5_putAt 13 = .ok (.iastore, 1) := by decide +kernel
theorem dX5_putAt_14 : decode cX5_putAt 14 = .ok (.return_, 1) := by decide +kernel
theorem dX5_addAt_0 : decode cX5_addAt 0 = .ok (.iload_n 1, 1) := by decide +kernel
theorem dX5_addAt_1 : decode cX5_addAt 1 = .ok (.ifCond .lt 16, 3) := by decide +kernel
theorem dX5_addAt_4 : decode cX5_addAt 4 = .ok (.iload_n 1, 1) := by decide +kernel
theorem dX5_addAt_5 : decode cX5_addAt 5 = .ok (.aload_n 0, 1) := by decide +kernel
theorem dX5_addAt_6 : decode cX5_addAt 6 = .ok (.arraylength, 1) := by decide +kernel
theorem dX5_addAt_7 : decode cX5_addAt 7 = .ok (.if_icmp .ge 10, 3) := by decide +kernel
theorem dX5_addAt_10 : decode cX5_addAt 10 = .ok (.aload_n 0, 1) := by decide +kernel
theorem dX5_addAt_11 : decode cX5_addAt 11 = .ok (.iload_n 1, 1) := by decide +kernel
theorem dX5_addAt_12 : decode cX5_addAt 12 = .ok (.dup2, 1) := by decide +kernel
theorem dX5_addAt_13 : decode cX5_addAt 13 = .ok (.iaload, 1) := by decide +kernel
theorem dX5_addAt_14 : decode cX5_addAt 14 = .ok (.iload_n 2, 1) := by decide +kernel
theorem dX5_addAt_15 : decode cX5_addAt 15 = .ok (.iadd, 1) := by decide +kernel
theorem dX5_addAt_16 : decode cX5_addAt 16 = .ok (.iastore, 1) := by decide +kernel
theorem dX5_addAt_17 : decode cX5_addAt 17 = .ok (.return_, 1) := by decide +kernel
theorem dX5_copyRow_0 : decode cX5_copyRow 0 = .ok (.aload_n 0, 1) := by decide +kernel
theorem dX5_copyRow_1 : decode cX5_copyRow 1 = .ok (.iconst 0, 1) := by decide +kernel
theorem dX5_copyRow_2 : decode cX5_copyRow 2 = .ok (.aload_n 1, 1) := by decide +kernel
theorem dX5_copyRow_3 : decode cX5_copyRow 3 = .ok (.iconst 0, 1) := by decide +kernel
theorem dX5_copyRow_4 : decode cX5_copyRow 4 = .ok (.aload_n 0, 1) := by decide +kernel
theorem dX5_copyRow_5 : decode cX5_copyRow 5 = .ok (.arraylength, 1) := by decide +kernel
theorem dX5_copyRow_6 : decode cX5_copyRow 6 = .ok (.aload_n 1, 1) := by decide +kernel
theorem dX5_copyRow_7 : decode cX5_copyRow 7 = .ok (.arraylength, 1) := by decide +kernel
theorem dX5_copyRow_8 : decode cX5_copyRow 8 = .ok (.invokestatic 432, 3) := by decide +kernel
theorem dX5_copyRow_11 : decode cX5_copyRow 11 = .ok (.invokestatic 435, 3) := by decide +kernel
theorem dX5_copyRow_14 : decode cX5_copyRow 14 = .ok (.return_, 1) := by decide +kernel
end
section
theorem dX6_thrown_0 : decode cX6_thrown 0 = .ok (.aload_n 0, 1) := by decide +kernel
theorem dX6_thrown_1 : decode cX6_thrown 1 = .ok (.getfield 1, 3) := by decide +kernel
theorem dX6_thrown_4 : decode cX6_thrown 4 = .ok (.ireturn, 1) := by decide +kernel
theorem dX6_fails_0 : decode cX6_fails 0 = .ok (.aload_n 0, 1) := by decide +kernel
theorem dX6_fails_1 : decode cX6_fails 1 = .ok (.iload_n 1, 1) := by decide +kernel
theorem dX6_fails_2 : decode cX6_fails 2 = .ok (.putfield 1, 3) := by decide +kernel
theorem dX6_fails_5 : decode cX6_fails 5 = .ok (.iconst 0, 1) := by decide +kernel
theorem dX6_fails_6 : decode cX6_fails 6 = .ok (.ireturn, 1) := by decide +kernel
theorem dX6_isBetween_0 : decode cX6_isBetween 0 = .ok (.iload_n 1, 1) := by decide +kernel
theorem dX6_isBetween_1 : decode cX6_isBetween 1 = .ok (.iload_n 0, 1) := by decide +kernel
theorem dX6_isBetween_2 : decode cX6_isBetween 2 = .ok (.if_icmp .gt 12, 3) := by decide +kernel
theorem dX6_isBetween_5 : decode cX6_isBetween 5 = .ok (.iload_n 0, 1) := by decide +kernel
theorem dX6_isBetween_6 : decode cX6_isBetween 6 = .ok (.iload_n 2, 1) := by decide +kernel
theorem dX6_isBetween_7 : decode cX6_isBetween 7 = .ok (.if_icmp .gt 7, 3) := by decide +kernel
theorem dX6_isBetween_10 : decode cX6_isBetween 10 = .ok (.iconst 1, 1) := by decide +kernel
theorem dX6_isBetween_11 : decode cX6_isBetween 11 = .ok (.goto 4, 3) := by decide +kernel
theorem dX6_isBetween_14 : decode cX6_isBetween 14 = .ok (.iconst 0, 1) := by decide +kernel
theorem dX6_isBetween_15 : decode cX6_isBetween 15 = .ok (.ireturn, 1) := by decide +kernel
theorem dX6_init_0 : decode cX6_init 0 = .ok (.aload_n 0, 1) := by decide +kernel
theorem dX6_init_1 : decode cX6_init 1 = .ok (.invokespecial 7, 3) := by decide +kernel
theorem dX6_init_4 : decode cX6_init 4 = .ok (.aload_n 0, 1) := by decide +kernel
theorem dX6_init_5 : decode cX6_init 5 = .ok (.sipush 176, 3) := by decide +kernel
theorem dX6_init_8 : decode cX6_init 8 = .ok (.newarray .int, 2) := by decide +kernel
theorem dX6_init_10 : decode cX6_init 10 = .ok (.putfield 13, 3) := by decide +kernel
theorem dX6_init_13 : decode cX6_init 13 = .ok (.aload_n 0, 1) := by decide +kernel
theorem dX6_init_14 : decode cX6_init 14 = .ok (.sipush 1408, 3) := by decide +kernel
theorem dX6_init_17 : decode cX6_init 17 = .ok (.newarray .int, 2) := by decide +kernel
theorem dX6_init_19 : decode cX6_init 19 = .ok (.putfield 17, 3) := by decide +kernel
theorem dX6_init_22 : decode cX6_init 22 = .ok (.aload_n 0, 1) := by decide +kernel
theorem dX6_init_23 : decode cX6_init 23 = .ok (.sipush 176, 3) := by decide +kernel
theorem dX6_init_26 : decode cX6_init 26 = .ok (.newarray .int, 2) := by decide +kernel
theorem dX6_init_28 : decode cX6_init 28 = .ok (.putfield 20, 3) := by decide +kernel
theorem dX6_init_31 : decode cX6_init 31 = .ok (.aload_n 0, 1) := by decide +kernel
theorem dX6_init_32 : decode cX6_init 32 = .ok (.sipush 176, 3) := by decide +kernel
theorem dX6_init_35 : decode cX6_init 35 = .ok (.newarray .int, 2) := by decide +kernel
theorem dX6_init_37 : decode cX6_init 37 = .ok (.putfield 23, 3) := by decide +kernel
theorem dX6_init_40 : decode cX6_init 40 = .ok (.aload_n 0, 1) := by decide +kernel
theorem dX6_init_41 : decode cX6_init 41 = .ok (.bipush 60, 2) := by decide +kernel
theorem dX6_init_43 : decode cX6_init 43 = .ok (.newarray .char, 2) := by decide +kernel
theorem dX6_init_45 : decode cX6_init 45 = .ok (.putfield 26, 3) := by decide +kernel
theorem dX6_init_48 : decode cX6_init 48 = .ok (.aload_n 0, 1) := by decide +kernel
theorem dX6_init_49 : decode cX6_init 49 = .ok (.bipush 60, 2) := by decide +kernel
theorem dX6_init_51 : decode cX6_init 51 = .ok (.newarray .char, 2) := by decide +kernel
theorem dX6_init_53 : decode cX6_init 53 = .ok (.putfield 30, 3) := by decide +kernel
theorem dX6_init_56 : decode cX6_init 56 = .ok (.aload_n 0, 1) := by decide +kernel
theorem dX6_init_57 : decode cX6_init 57 = .ok (.iconst (-1), 1) := by decide +kernel
theorem dX6_init_58 : decode cX6_init 58 = .ok (.putfield 33, 3) := by decide +kernel
theorem dX6_init_61 : decode cX6_init 61 = .ok (.aload_n 0, 1) := by decide +kernel
theorem dX6_init_62 : decode cX6_init 62 = .ok (.iconst (-1), 1) := by decide +kernel
theorem dX6_init_63 : decode cX6_init 63 = .ok (.putfield 36, 3) := by decide +kernel
theorem dX6_init_66 : decode cX6_init 66 = .ok (.aload_n 0, 1) := by decide +kernel
theorem dX6_init_67 : decode cX6_init 67 = .ok (.iconst 4, 1) := by decide +kernel
theorem dX6_init_68 : decode cX6_init 68 = .ok (.newarray .int, 2) := by decide +kernel
theorem dX6_init_70 : decode cX6_init 70 = .ok (.putfield 39, 3) := by decide +kernel
theorem dX6_init_73 : decode cX6_init 73 = .ok (.aload_n 0, 1) := by decide +kernel
theorem dX6_init_74 : decode cX6_init 74 = .ok (.getfield 13, 3) := by decide +kernel
theorem dX6_init_77 : decode cX6_init 77 = .ok (.iconst 1, 1) := by decide +kernel
theorem dX6_init_78 : decode cX6_init 78 = .ok (.iconst 2, 1) := by decide +kernel
theorem dX6_init_79 : decode cX6_init 79 = .ok (.iastore, 1) := by decide +kernel
theorem dX6_init_80 : decode cX6_init 80 = .ok (.aload_n 0, 1) := by decide +kernel
theorem dX6_init_81 : decode cX6_init 81 = .ok (.getfield 13, 3) := by decide +kernel
theorem dX6_init_84 : decode cX6_init 84 = .ok (.iconst 2, 1) := by decide +kernel
theorem dX6_init_85 : decode cX6_init 85 = .ok (.iconst 3, 1) := by decide +kernel
theorem dX6_init_86 : decode cX6_init 86 = .ok (.iastore, 1) := by decide +kernel
theorem dX6_init_87 : decode cX6_init 87 = .ok (.return_, 1) := by decide +kernel
theorem dX6_copies_0 : decode cX6_copies 0 = .ok (.iconst 0, 1) := by decide +kernel
theorem dX6_copies_1 : decode cX6_copies 1 = .ok (.istore_n 1, 1) := by decide +kernel
theorem dX6_copies_2 : decode cX6_copies 2 = .ok (.iload_n 1, 1) := by decide +kernel
theorem dX6_copies_3 : decode cX6_copies 3 = .ok (.sipush 176, 3) := by decide +kernel
theorem dX6_copies_6 : decode cX6_copies 6 = .ok (.if_icmp .ge 21, 3) := by decide +kernel
theorem dX6_copies_9 : decode cX6_copies 9 = .ok (.aload_n 0, 1) := by decide +kernel
theorem dX6_copies_10 : decode cX6_copies 10 = .ok (.getfield 23, 3) := by decide +kernel
theorem dX6_copies_13 : decode cX6_copies 13 = .ok (.iload_n 1, 1) := by decide +kernel
theorem dX6_copies_14 : decode cX6_copies 14 = .ok (.aload_n 0, 1) := by decide +kernel
theorem dX6_copies_15 : decode cX6_copies 15 = .ok (.getfield 13, 3) := by decide +kernel
theorem dX6_copies_18 : decode cX6_copies 18 = .ok (.iload_n 1, 1) := by decide +kernel
theorem dX6_copies_19 : decode cX6_copies 19 = .ok (.iaload, 1) := by decide +kernel
theorem dX6_copies_20 : decode cX6_copies 20 = .ok (.iastore, 1) := by decide +kernel
theorem dX6_copies_21 : decode cX6_copies 21 = .ok (.iinc 1 1, 3) := by decide +kernel
theorem dX6_copies_24 : decode cX6_copies 24 = .ok (.goto (-22), 3) := by decide +kernel
theorem dX6_copies_27 : decode cX6_copies 27 = .ok (.return_, 1) := by decide +kernel
theorem dX6_goesBack_0 : decode cX6_goesBack 0 = .ok (.iconst 0, 1) := by decide +kernel
theorem dX6_goesBack_1 : decode cX6_goesBack 1 = .ok (.istore_n 1, 1) := by decide +kernel
theorem dX6_goesBack_2 : decode cX6_goesBack 2 = .ok (.iload_n 1, 1) := by decide +kernel
theorem dX6_goesBack_3 : decode cX6_goesBack 3 = .ok (.sipush 176, 3) := by decide +kernel
theorem dX6_goesBack_6 : decode cX6_goesBack 6 = .ok (.if_icmp .ge 21, 3) := by decide +kernel
theorem dX6_goesBack_9 : decode cX6_goesBack 9 = .ok (.aload_n 0, 1) := by decide +kernel
theorem dX6_goesBack_10 : decode cX6_goesBack 10 = .ok (.getfield 13, 3) := by decide +kernel
theorem dX6_goesBack_13 : decode cX6_goesBack 13 = .ok (.iload_n 1, 1) := by decide +kernel
theorem dX6_goesBack_14 : decode cX6_goesBack 14 = .ok (.aload_n 0, 1) := by decide +kernel
theorem dX6_goesBack_15 : decode cX6_goesBack 15 = .ok (.getfield 23, 3) := by decide +kernel
theorem dX6_goesBack_18 : decode cX6_goesBack 18 = .ok (.iload_n 1, 1) := by decide +kernel
theorem dX6_goesBack_19 : decode cX6_goesBack 19 = .ok (.iaload, 1) := by decide +kernel
theorem dX6_goesBack_20 : decode cX6_goesBack 20 = .ok (.iastore, 1) := by decide +kernel
theorem dX6_goesBack_21 : decode cX6_goesBack 21 = .ok (.iinc 1 1, 3) := by decide +kernel
theorem dX6_goesBack_24 : decode cX6_goesBack 24 = .ok (.goto (-22), 3) := by decide +kernel
theorem dX6_goesBack_27 : decode cX6_goesBack 27 = .ok (.return_, 1) := by decide +kernel
theorem dX6_keeps_0 : decode cX6_keeps 0 = .ok (.aload_n 0, 1) := by decide +kernel
theorem dX6_keeps_1 : decode cX6_keeps 1 = .ok (.getfield 42, 3) := by decide +kernel
theorem dX6_keeps_4 : decode cX6_keeps 4 = .ok (.bipush 8, 2) := by decide +kernel
theorem dX6_keeps_6 : decode cX6_keeps 6 = .ok (.if_icmp .ne 26, 3) := by decide +kernel
theorem dX6_keeps_9 : decode cX6_keeps 9 = .ok (.aload_n 0, 1) := by decide +kernel
theorem dX6_keeps_10 : decode cX6_keeps 10 = .ok (.aload_n 0, 1) := by decide +kernel
theorem dX6_keeps_11 : decode cX6_keeps 11 = .ok (.getfield 45, 3) := by decide +kernel
theorem dX6_keeps_14 : decode cX6_keeps 14 = .ok (.iconst 1, 1) := by decide +kernel
theorem dX6_keeps_15 : decode cX6_keeps 15 = .ok (.iadd, 1) := by decide +kernel
theorem dX6_keeps_16 : decode cX6_keeps 16 = .ok (.bipush 8, 2) := by decide +kernel
theorem dX6_keeps_18 : decode cX6_keeps 18 = .ok (.irem, 1) := by decide +kernel
theorem dX6_keeps_19 : decode cX6_keeps 19 = .ok (.putfield 45, 3) := by decide +kernel
theorem dX6_keeps_22 : decode cX6_keeps 22 = .ok (.aload_n 0, 1) := by decide +kernel
theorem dX6_keeps_23 : decode cX6_keeps 23 = .ok (.dup, 1) := by decide +kernel
theorem dX6_keeps_24 : decode cX6_keeps 24 = .ok (.getfield 42, 3) := by decide +kernel
theorem dX6_keeps_27 : decode cX6_keeps 27 = .ok (.iconst 1, 1) := by decide +kernel
theorem dX6_keeps_28 : decode cX6_keeps 28 = .ok (.isub, 1) := by decide +kernel
theorem dX6_keeps_29 : decode cX6_keeps 29 = .ok (.putfield 42, 3) := by decide +kernel
theorem dX6_keeps_32 : decode cX6_keeps 32 = .ok (.aload_n 0, 1) := by decide +kernel
theorem dX6_keeps_33 : decode cX6_keeps 33 = .ok (.getfield 45, 3) := by decide +kernel
theorem dX6_keeps_36 : decode cX6_keeps 36 = .ok (.aload_n 0, 1) := by decide +kernel
theorem dX6_keeps_37 : decode cX6_keeps 37 = .ok (.getfield 42, 3) := by decide +kernel
theorem dX6_keeps_40 : decode cX6_keeps 40 = .ok (.iadd, 1) := by decide +kernel
theorem dX6_keeps_41 : decode cX6_keeps 41 = .ok (.bipush 8, 2) := by decide +kernel
theorem dX6_keeps_43 : decode cX6_keeps 43 = .ok (.irem, 1) := by decide +kernel
theorem dX6_keeps_44 : decode cX6_keeps 44 = .ok (.istore_n 1, 1) := by decide +kernel
theorem dX6_keeps_45 : decode cX6_keeps 45 = .ok (.iconst 0, 1) := by decide +kernel
theorem dX6_keeps_46 : decode cX6_keeps 46 = .ok (.istore_n 2, 1) := by decide +kernel
theorem dX6_keeps_47 : decode cX6_keeps 47 = .ok (.iload_n 2, 1) := by decide +kernel
theorem dX6_keeps_48 : decode cX6_keeps 48 = .ok (.sipush 176, 3) := by decide +kernel
theorem dX6_keeps_51 : decode cX6_keeps 51 = .ok (.if_icmp .ge 27, 3) := by decide +kernel
theorem dX6_keeps_54 : decode cX6_keeps 54 = .ok (.aload_n 0, 1) := by decide +kernel
theorem dX6_keeps_55 : decode cX6_keeps 55 = .ok (.getfield 17, 3) := by decide +kernel
theorem dX6_keeps_58 : decode cX6_keeps 58 = .ok (.sipush 176, 3) := by decide +kernel
theorem dX6_keeps_61 : decode cX6_keeps 61 = .ok (.iload_n 1, 1) := by decide +kernel
theorem dX6_keeps_62 : decode cX6_keeps 62 = .ok (.imul, 1) := by decide +kernel
theorem dX6_keeps_63 : decode cX6_keeps 63 = .ok (.iload_n 2, 1) := by decide +kernel
theorem dX6_keeps_64 : decode cX6_keeps 64 = .ok (.iadd, 1) := by decide +kernel
theorem dX6_keeps_65 : decode cX6_keeps 65 = .ok (.aload_n 0, 1) := by decide +kernel
theorem dX6_keeps_66 : decode cX6_keeps 66 = .ok (.getfield 23, 3) := by decide +kernel
theorem dX6_keeps_69 : decode cX6_keeps 69 = .ok (.iload_n 2, 1) := by decide +kernel
theorem dX6_keeps_70 : decode cX6_keeps 70 = .ok (.iaload, 1) := by decide +kernel
theorem dX6_keeps_71 : decode cX6_keeps 71 = .ok (.iastore, 1) := by decide +kernel
theorem dX6_keeps_72 : decode cX6_keeps 72 = .ok (.iinc 2 1, 3) := by decide +kernel
theorem dX6_keeps_75 : decode cX6_keeps 75 = .ok (.goto (-28), 3) := by decide +kernel
theorem dX6_keeps_78 : decode cX6_keeps 78 = .ok (.aload_n 0, 1) := by decide +kernel
theorem dX6_keeps_79 : decode cX6_keeps 79 = .ok (.dup, 1) := by decide +kernel
theorem dX6_keeps_80 : decode cX6_keeps 80 = .ok (.getfield 42, 3) := by decide +kernel
theorem dX6_keeps_83 : decode cX6_keeps 83 = .ok (.iconst 1, 1) := by decide +kernel
theorem dX6_keeps_84 : decode cX6_keeps 84 = .ok (.iadd, 1) := by decide +kernel
theorem dX6_keeps_85 : decode cX6_keeps 85 = .ok (.putfield 42, 3) := by decide +kernel
theorem dX6_keeps_88 : decode cX6_keeps 88 = .ok (.return_, 1) := by decide +kernel
theorem dX6_remembers_0 : decode cX6_remembers 0 = .ok (.aload_n 0, 1) := by decide +kernel
theorem dX6_remembers_1 : decode cX6_remembers 1 = .ok (.invokevirtual 48, 3) := by decide +kernel
theorem dX6_remembers_4 : decode cX6_remembers 4 = .ok (.aload_n 0, 1) := by decide +kernel
theorem dX6_remembers_5 : decode cX6_remembers 5 = .ok (.invokevirtual 51, 3) := by decide +kernel
theorem dX6_remembers_8 : decode cX6_remembers 8 = .ok (.return_, 1) := by decide +kernel
theorem dX6_isUmbrella_0 : decode cX6_isUmbrella 0 = .ok (.iload_n 1, 1) := by decide +kernel
theorem dX6_isUmbrella_1 : decode cX6_isUmbrella 1 = .ok (.iconst 0, 1) := by decide +kernel
theorem dX6_isUmbrella_2 : decode cX6_isUmbrella 2 = .ok (.aload_n 0, 1) := by decide +kernel
theorem dX6_isUmbrella_3 : decode cX6_isUmbrella 3 = .ok (.getfield 13, 3) := by decide +kernel
theorem dX6_isUmbrella_6 : decode cX6_isUmbrella 6 = .ok (.iconst 0, 1) := by decide +kernel
theorem dX6_isUmbrella_7 : decode cX6_isUmbrella 7 = .ok (.iaload, 1) := by decide +kernel
theorem dX6_isUmbrella_8 : decode cX6_isUmbrella 8 = .ok (.iconst 1, 1) := by decide +kernel
theorem dX6_isUmbrella_9 : decode cX6_isUmbrella 9 = .ok (.isub, 1) := by decide +kernel
theorem dX6_isUmbrella_10 : decode cX6_isUmbrella 10 = .ok (.invokestatic 54, 3) := by decide +kernel
theorem dX6_isUmbrella_13 : decode cX6_isUmbrella 13 = .ok (.ireturn, 1) := by decide +kernel
theorem dX6_of_0 : decode cX6_of 0 = .ok (.aload_n 0, 1) := by decide +kernel
theorem dX6_of_1 : decode cX6_of 1 = .ok (.getfield 13, 3) := by decide +kernel
theorem dX6_of_4 : decode cX6_of 4 = .ok (.bipush 8, 2) := by decide +kernel
theorem dX6_of_6 : decode cX6_of 6 = .ok (.bipush 28, 2) := by decide +kernel
theorem dX6_of_8 : decode cX6_of 8 = .ok (.iload_n 1, 1) := by decide +kernel
theorem dX6_of_9 : decode cX6_of 9 = .ok (.imul, 1) := by decide +kernel
theorem dX6_of_10 : decode cX6_of 10 = .ok (.iadd, 1) := by decide +kernel
theorem dX6_of_11 : decode cX6_of 11 = .ok (.iload_n 2, 1) := by decide +kernel
theorem dX6_of_12 : decode cX6_of 12 = .ok (.iadd, 1) := by decide +kernel
theorem dX6_of_13 : decode cX6_of 13 = .ok (.iaload, 1) := by decide +kernel
theorem dX6_of_14 : decode cX6_of 14 = .ok (.ireturn, 1) := by decide +kernel
theorem dX6_puts_0 : decode cX6_puts 0 = .ok (.aload_n 0, 1) := by decide +kernel
theorem dX6_puts_1 : decode cX6_puts 1 = .ok (.getfield 13, 3) := by decide +kernel
theorem dX6_puts_4 : decode cX6_puts 4 = .ok (.bipush 8, 2) := by decide +kernel
theorem dX6_puts_6 : decode cX6_puts 6 = .ok (.bipush 28, 2) := by decide +kernel
theorem dX6_puts_8 : decode cX6_puts 8 = .ok (.iload_n 1, 1) := by decide +kernel
theorem dX6_puts_9 : decode cX6_puts 9 = .ok (.imul, 1) := by decide +kernel
theorem dX6_puts_10 : decode cX6_puts 10 = .ok (.iadd, 1) := by decide +kernel
theorem dX6_puts_11 : decode cX6_puts 11 = .ok (.iload_n 2, 1) := by decide +kernel
theorem dX6_puts_12 : decode cX6_puts 12 = .ok (.iadd, 1) := by decide +kernel
theorem dX6_puts_13 : decode cX6_puts 13 = .ok (.iload_n 3, 1) := by decide +kernel
theorem dX6_puts_14 : decode cX6_puts 14 = .ok (.iastore, 1) := by decide +kernel
theorem dX6_puts_15 : decode cX6_puts 15 = .ok (.return_, 1) := by decide +kernel
theorem dX6_adds_0 : decode cX6_adds 0 = .ok (.aload_n 0, 1) := by decide +kernel
theorem dX6_adds_1 : decode cX6_adds 1 = .ok (.getfield 13, 3) := by decide +kernel
theorem dX6_adds_4 : decode cX6_adds 4 = .ok (.bipush 8, 2) := by decide +kernel
theorem dX6_adds_6 : decode cX6_adds 6 = .ok (.bipush 28, 2) := by decide +kernel
theorem dX6_adds_8 : decode cX6_adds 8 = .ok (.iload_n 1, 1) := by decide +kernel
theorem dX6_adds_9 : decode cX6_adds 9 = .ok (.imul, 1) := by decide +kernel
theorem dX6_adds_10 : decode cX6_adds 10 = .ok (.iadd, 1) := by decide +kernel
theorem dX6_adds_11 : decode cX6_adds 11 = .ok (.iload_n 2, 1) := by decide +kernel
theorem dX6_adds_12 : decode cX6_adds 12 = .ok (.iadd, 1) := by decide +kernel
theorem dX6_adds_13 : decode cX6_adds 13 = .ok (.dup2, 1) := by decide +kernel
theorem dX6_adds_14 : decode cX6_adds 14 = .ok (.iaload, 1) := by decide +kernel
theorem dX6_adds_15 : decode cX6_adds 15 = .ok (.iload_n 3, 1) := by decide +kernel
theorem dX6_adds_16 : decode cX6_adds 16 = .ok (.iadd, 1) := by decide +kernel
theorem dX6_adds_17 : decode cX6_adds 17 = .ok (.iastore, 1) := by decide +kernel
theorem dX6_adds_18 : decode cX6_adds 18 = .ok (.return_, 1) := by decide +kernel
theorem dX6_trialOf_0 : decode cX6_trialOf 0 = .ok (.iload_n 0, 1) := by decide +kernel
theorem dX6_trialOf_1 : decode cX6_trialOf 1 = .ok (.iconst 4, 1) := by decide +kernel
theorem dX6_trialOf_2 : decode cX6_trialOf 2 = .ok (.iload_n 1, 1) := by decide +kernel
theorem dX6_trialOf_3 : decode cX6_trialOf 3 = .ok (.imul, 1) := by decide +kernel
theorem dX6_trialOf_4 : decode cX6_trialOf 4 = .ok (.iadd, 1) := by decide +kernel
theorem dX6_trialOf_5 : decode cX6_trialOf 5 = .ok (.bipush 16, 2) := by decide +kernel
theorem dX6_trialOf_7 : decode cX6_trialOf 7 = .ok (.iload_n 2, 1) := by decide +kernel
theorem dX6_trialOf_8 : decode cX6_trialOf 8 = .ok (.imul, 1) := by decide +kernel
theorem dX6_trialOf_9 : decode cX6_trialOf 9 = .ok (.iadd, 1) := by decide +kernel
theorem dX6_trialOf_10 : decode cX6_trialOf 10 = .ok (.bipush 32, 2) := by decide +kernel
theorem dX6_trialOf_12 : decode cX6_trialOf 12 = .ok (.iload_n 3, 1) := by decide +kernel
theorem dX6_trialOf_13 : decode cX6_trialOf 13 = .ok (.bipush 64, 2) := by decide +kernel
theorem dX6_trialOf_15 : decode cX6_trialOf 15 = .ok (.iadd, 1) := by decide +kernel
theorem dX6_trialOf_16 : decode cX6_trialOf 16 = .ok (.imul, 1) := by decide +kernel
theorem dX6_trialOf_17 : decode cX6_trialOf 17 = .ok (.iadd, 1) := by decide +kernel
theorem dX6_trialOf_18 : decode cX6_trialOf 18 = .ok (.ireturn, 1) := by decide +kernel
theorem dX6_rainOf_0 : decode cX6_rainOf 0 = .ok (.iload_n 0, 1) := by decide +kernel
theorem dX6_rainOf_1 : decode cX6_rainOf 1 = .ok (.iconst 4, 1) := by decide +kernel
theorem dX6_rainOf_2 : decode cX6_rainOf 2 = .ok (.irem, 1) := by decide +kernel
theorem dX6_rainOf_3 : decode cX6_rainOf 3 = .ok (.ireturn, 1) := by decide +kernel
theorem dX6_rewardOf_0 : decode cX6_rewardOf 0 = .ok (.iload_n 0, 1) := by decide +kernel
theorem dX6_rewardOf_1 : decode cX6_rewardOf 1 = .ok (.bipush 32, 2) := by decide +kernel
theorem dX6_rewardOf_3 : decode cX6_rewardOf 3 = .ok (.idiv, 1) := by decide +kernel
theorem dX6_rewardOf_4 : decode cX6_rewardOf 4 = .ok (.bipush 64, 2) := by decide +kernel
theorem dX6_rewardOf_6 : decode cX6_rewardOf 6 = .ok (.isub, 1) := by decide +kernel
theorem dX6_rewardOf_7 : decode cX6_rewardOf 7 = .ok (.ireturn, 1) := by decide +kernel
theorem dX6_isSituation_0 : decode cX6_isSituation 0 = .ok (.iload_n 0, 1) := by decide +kernel
theorem dX6_isSituation_1 : decode cX6_isSituation 1 = .ok (.iconst 0, 1) := by decide +kernel
theorem dX6_isSituation_2 : decode cX6_isSituation 2 = .ok (.iconst 3, 1) := by decide +kernel
theorem dX6_isSituation_3 : decode cX6_isSituation 3 = .ok (.invokestatic 54, 3) := by decide +kernel
theorem dX6_isSituation_6 : decode cX6_isSituation 6 = .ok (.ifCond .eq 16, 3) := by decide +kernel
theorem dX6_isSituation_9 : decode cX6_isSituation 9 = .ok (.iload_n 1, 1) := by decide +kernel
theorem dX6_isSituation_10 : decode cX6_isSituation 10 = .ok (.iconst 0, 1) := by decide +kernel
theorem dX6_isSituation_11 : decode cX6_isSituation 11 = .ok (.iconst 3, 1) := by decide +kernel
theorem dX6_isSituation_12 : decode cX6_isSituation 12 = .ok (.invokestatic 54, 3) := by decide +kernel
theorem dX6_isSituation_15 : decode cX6_isSituation 15 = .ok (.ifCond .eq 7, 3) := by decide +kernel
theorem dX6_isSituation_18 : decode cX6_isSituation 18 = .ok (.iconst 1, 1) := by decide +kernel
theorem dX6_isSituation_19 : decode cX6_isSituation 19 = .ok (.goto 4, 3) := by decide +kernel
theorem dX6_isSituation_22 : decode cX6_isSituation 22 = .ok (.iconst 0, 1) := by decide +kernel
theorem dX6_isSituation_23 : decode cX6_isSituation 23 = .ok (.ireturn, 1) := by decide +kernel
theorem dX6_rewardNow_0 : decode cX6_rewardNow 0 = .ok (.iload_n 3, 1) := by decide +kernel
theorem dX6_rewardNow_1 : decode cX6_rewardNow 1 = .ok (.iconst 1, 1) := by decide +kernel
theorem dX6_rewardNow_2 : decode cX6_rewardNow 2 = .ok (.if_icmp .ne 18, 3) := by decide +kernel
theorem dX6_rewardNow_5 : decode cX6_rewardNow 5 = .ok (.iconst 4, 1) := by decide +kernel
theorem dX6_rewardNow_6 : decode cX6_rewardNow 6 = .ok (.iload_n 1, 1) := by decide +kernel
theorem dX6_rewardNow_7 : decode cX6_rewardNow 7 = .ok (.imul, 1) := by decide +kernel
theorem dX6_rewardNow_8 : decode cX6_rewardNow 8 = .ok (.aload_n 0, 1) := by decide +kernel
theorem dX6_rewardNow_9 : decode cX6_rewardNow 9 = .ok (.getfield 13, 3) := by decide +kernel
theorem dX6_rewardNow_12 : decode cX6_rewardNow 12 = .ok (.iconst 2, 1) := by decide +kernel
theorem dX6_rewardNow_13 : decode cX6_rewardNow 13 = .ok (.iaload, 1) := by decide +kernel
theorem dX6_rewardNow_14 : decode cX6_rewardNow 14 = .ok (.iload_n 2, 1) := by decide +kernel
theorem dX6_rewardNow_15 : decode cX6_rewardNow 15 = .ok (.imul, 1) := by decide +kernel
theorem dX6_rewardNow_16 : decode cX6_rewardNow 16 = .ok (.isub, 1) := by decide +kernel
theorem dX6_rewardNow_17 : decode cX6_rewardNow 17 = .ok (.goto 12, 3) := by decide +kernel
theorem dX6_rewardNow_20 : decode cX6_rewardNow 20 = .ok (.aload_n 0, 1) := by decide +kernel
theorem dX6_rewardNow_21 : decode cX6_rewardNow 21 = .ok (.getfield 13, 3) := by decide +kernel
theorem dX6_rewardNow_24 : decode cX6_rewardNow 24 = .ok (.iconst 1, 1) := by decide +kernel
theorem dX6_rewardNow_25 : decode cX6_rewardNow 25 = .ok (.iaload, 1) := by decide +kernel
theorem dX6_rewardNow_26 : decode cX6_rewardNow 26 = .ok (.ineg, 1) := by decide +kernel
theorem dX6_rewardNow_27 : decode cX6_rewardNow 27 = .ok (.iload_n 1, 1) := by decide +kernel
theorem dX6_rewardNow_28 : decode cX6_rewardNow 28 = .ok (.imul, 1) := by decide +kernel
theorem dX6_rewardNow_29 : decode cX6_rewardNow 29 = .ok (.ireturn, 1) := by decide +kernel
theorem dX6_isRightToOpen_0 : decode cX6_isRightToOpen 0 = .ok (.aload_n 0, 1) := by decide +kernel
theorem dX6_isRightToOpen_1 : decode cX6_isRightToOpen 1 = .ok (.iload_n 1, 1) := by decide +kernel
theorem dX6_isRightToOpen_2 : decode cX6_isRightToOpen 2 = .ok (.iload_n 2, 1) := by decide +kernel
theorem dX6_isRightToOpen_3 : decode cX6_isRightToOpen 3 = .ok (.iconst 1, 1) := by decide +kernel
theorem dX6_isRightToOpen_4 : decode cX6_isRightToOpen 4 = .ok (.invokevirtual 58, 3) := by decide +kernel
theorem dX6_isRightToOpen_7 : decode cX6_isRightToOpen 7 = .ok (.aload_n 0, 1) := by decide +kernel
theorem dX6_isRightToOpen_8 : decode cX6_isRightToOpen 8 = .ok (.iload_n 1, 1) := by decide +kernel
theorem dX6_isRightToOpen_9 : decode cX6_isRightToOpen 9 = .ok (.iload_n 2, 1) := by decide +kernel
theorem dX6_isRightToOpen_10 : decode cX6_isRightToOpen 10 = .ok (.iconst 0, 1) := by decide +kernel
theorem dX6_isRightToOpen_11 : decode cX6_isRightToOpen 11 = .ok (.invokevirtual 58, 3) := by decide +kernel
theorem dX6_isRightToOpen_14 : decode cX6_isRightToOpen 14 = .ok (.if_icmp .le 7, 3) := by decide +kernel
theorem dX6_isRightToOpen_17 : decode cX6_isRightToOpen 17 = .ok (.iconst 1, 1) := by decide +kernel
theorem dX6_isRightToOpen_18 : decode cX6_isRightToOpen 18 = .ok (.goto 4, 3) := by decide +kernel
theorem dX6_isRightToOpen_21 : decode cX6_isRightToOpen 21 = .ok (.iconst 0, 1) := by decide +kernel
theorem dX6_isRightToOpen_22 : decode cX6_isRightToOpen 22 = .ok (.ireturn, 1) := by decide +kernel
theorem dX6_triedTimes_0 : decode cX6_triedTimes 0 = .ok (.iconst 0, 1) := by decide +kernel
theorem dX6_triedTimes_1 : decode cX6_triedTimes 1 = .ok (.istore 5, 2) := by decide +kernel
theorem dX6_triedTimes_3 : decode cX6_triedTimes 3 = .ok (.iconst 0, 1) := by decide +kernel
theorem dX6_triedTimes_4 : decode cX6_triedTimes 4 = .ok (.istore 6, 2) := by decide +kernel
theorem dX6_triedTimes_6 : decode cX6_triedTimes 6 = .ok (.iload 6, 2) := by decide +kernel
theorem dX6_triedTimes_8 : decode cX6_triedTimes 8 = .ok (.aload_n 0, 1) := by decide +kernel
theorem dX6_triedTimes_9 : decode cX6_triedTimes 9 = .ok (.iload_n 1, 1) := by decide +kernel
theorem dX6_triedTimes_10 : decode cX6_triedTimes 10 = .ok (.iconst 3, 1) := by decide +kernel
theorem dX6_triedTimes_11 : decode cX6_triedTimes 11 = .ok (.invokevirtual 62, 3) := by decide +kernel
theorem dX6_triedTimes_14 : decode cX6_triedTimes 14 = .ok (.if_icmp .ge 46, 3) := by decide +kernel
theorem dX6_triedTimes_17 : decode cX6_triedTimes 17 = .ok (.iload 5, 2) := by decide +kernel
theorem dX6_triedTimes_19 : decode cX6_triedTimes 19 = .ok (.aload_n 0, 1) := by decide +kernel
theorem dX6_triedTimes_20 : decode cX6_triedTimes 20 = .ok (.iload_n 1, 1) := by decide +kernel
theorem dX6_triedTimes_21 : decode cX6_triedTimes 21 = .ok (.bipush 8, 2) := by decide +kernel
theorem dX6_triedTimes_23 : decode cX6_triedTimes 23 = .ok (.iload 6, 2) := by decide +kernel
theorem dX6_triedTimes_25 : decode cX6_triedTimes 25 = .ok (.iadd, 1) := by decide +kernel
theorem dX6_triedTimes_26 : decode cX6_triedTimes 26 = .ok (.invokevirtual 62, 3) := by decide +kernel
theorem dX6_triedTimes_29 : decode cX6_triedTimes 29 = .ok (.bipush 32, 2) := by decide +kernel
theorem dX6_triedTimes_31 : decode cX6_triedTimes 31 = .ok (.irem, 1) := by decide +kernel
theorem dX6_triedTimes_32 : decode cX6_triedTimes 32 = .ok (.iload_n 2, 1) := by decide +kernel
theorem dX6_triedTimes_33 : decode cX6_triedTimes 33 = .ok (.iconst 4, 1) := by decide +kernel
theorem dX6_triedTimes_34 : decode cX6_triedTimes 34 = .ok (.iload_n 3, 1) := by decide +kernel
theorem dX6_triedTimes_35 : decode cX6_triedTimes 35 = .ok (.imul, 1) := by decide +kernel
theorem dX6_triedTimes_36 : decode cX6_triedTimes 36 = .ok (.iadd, 1) := by decide +kernel
theorem dX6_triedTimes_37 : decode cX6_triedTimes 37 = .ok (.bipush 16, 2) := by decide +kernel
theorem dX6_triedTimes_39 : decode cX6_triedTimes 39 = .ok (.iload 4, 2) := by decide +kernel
theorem dX6_triedTimes_41 : decode cX6_triedTimes 41 = .ok (.imul, 1) := by decide +kernel
theorem dX6_triedTimes_42 : decode cX6_triedTimes 42 = .ok (.iadd, 1) := by decide +kernel
theorem dX6_triedTimes_43 : decode cX6_triedTimes 43 = .ok (.if_icmp .ne 7, 3) := by decide +kernel
theorem dX6_triedTimes_46 : decode cX6_triedTimes 46 = .ok (.iconst 1, 1) := by decide +kernel
theorem dX6_triedTimes_47 : decode cX6_triedTimes 47 = .ok (.goto 4, 3) := by decide +kernel
theorem dX6_triedTimes_50 : decode cX6_triedTimes 50 = .ok (.iconst 0, 1) := by decide +kernel
theorem dX6_triedTimes_51 : decode cX6_triedTimes 51 = .ok (.iadd, 1) := by decide +kernel
theorem dX6_triedTimes_52 : decode cX6_triedTimes 52 = .ok (.istore 5, 2) := by decide +kernel
theorem dX6_triedTimes_54 : decode cX6_triedTimes 54 = .ok (.iinc 6 1, 3) := by decide +kernel
theorem dX6_triedTimes_57 : decode cX6_triedTimes 57 = .ok (.goto (-51), 3) := by decide +kernel
theorem dX6_triedTimes_60 : decode cX6_triedTimes 60 = .ok (.iload 5, 2) := by decide +kernel
theorem dX6_triedTimes_62 : decode cX6_triedTimes 62 = .ok (.ireturn, 1) := by decide +kernel
theorem dX6_sumOf_0 : decode cX6_sumOf 0 = .ok (.iconst 0, 1) := by decide +kernel
theorem dX6_sumOf_1 : decode cX6_sumOf 1 = .ok (.istore 5, 2) := by decide +kernel
theorem dX6_sumOf_3 : decode cX6_sumOf 3 = .ok (.iconst 0, 1) := by decide +kernel
theorem dX6_sumOf_4 : decode cX6_sumOf 4 = .ok (.istore 6, 2) := by decide +kernel
theorem dX6_sumOf_6 : decode cX6_sumOf 6 = .ok (.iload 6, 2) := by decide +kernel
theorem dX6_sumOf_8 : decode cX6_sumOf 8 = .ok (.aload_n 0, 1) := by decide +kernel
theorem dX6_sumOf_9 : decode cX6_sumOf 9 = .ok (.iload_n 1, 1) := by decide +kernel
theorem dX6_sumOf_10 : decode cX6_sumOf 10 = .ok (.iconst 3, 1) := by decide +kernel
theorem dX6_sumOf_11 : decode cX6_sumOf 11 = .ok (.invokevirtual 62, 3) := by decide +kernel
theorem dX6_sumOf_14 : decode cX6_sumOf 14 = .ok (.if_icmp .ge 54, 3) := by decide +kernel
theorem dX6_sumOf_17 : decode cX6_sumOf 17 = .ok (.aload_n 0, 1) := by decide +kernel
theorem dX6_sumOf_18 : decode cX6_sumOf 18 = .ok (.iload_n 1, 1) := by decide +kernel
theorem dX6_sumOf_19 : decode cX6_sumOf 19 = .ok (.bipush 8, 2) := by decide +kernel
theorem dX6_sumOf_21 : decode cX6_sumOf 21 = .ok (.iload 6, 2) := by decide +kernel
theorem dX6_sumOf_23 : decode cX6_sumOf 23 = .ok (.iadd, 1) := by decide +kernel
theorem dX6_sumOf_24 : decode cX6_sumOf 24 = .ok (.invokevirtual 62, 3) := by decide +kernel
theorem dX6_sumOf_27 : decode cX6_sumOf 27 = .ok (.bipush 32, 2) := by decide +kernel
theorem dX6_sumOf_29 : decode cX6_sumOf 29 = .ok (.irem, 1) := by decide +kernel
theorem dX6_sumOf_30 : decode cX6_sumOf 30 = .ok (.iload_n 2, 1) := by decide +kernel
theorem dX6_sumOf_31 : decode cX6_sumOf 31 = .ok (.iconst 4, 1) := by decide +kernel
theorem dX6_sumOf_32 : decode cX6_sumOf 32 = .ok (.iload_n 3, 1) := by decide +kernel
theorem dX6_sumOf_33 : decode cX6_sumOf 33 = .ok (.imul, 1) := by decide +kernel
theorem dX6_sumOf_34 : decode cX6_sumOf 34 = .ok (.iadd, 1) := by decide +kernel
theorem dX6_sumOf_35 : decode cX6_sumOf 35 = .ok (.bipush 16, 2) := by decide +kernel
theorem dX6_sumOf_37 : decode cX6_sumOf 37 = .ok (.iload 4, 2) := by decide +kernel
theorem dX6_sumOf_39 : decode cX6_sumOf 39 = .ok (.imul, 1) := by decide +kernel
theorem dX6_sumOf_40 : decode cX6_sumOf 40 = .ok (.iadd, 1) := by decide +kernel
theorem dX6_sumOf_41 : decode cX6_sumOf 41 = .ok (.if_icmp .ne 21, 3) := by decide +kernel
theorem dX6_sumOf_44 : decode cX6_sumOf 44 = .ok (.iload 5, 2) := by decide +kernel
theorem dX6_sumOf_46 : decode cX6_sumOf 46 = .ok (.aload_n 0, 1) := by decide +kernel
theorem dX6_sumOf_47 : decode cX6_sumOf 47 = .ok (.iload_n 1, 1) := by decide +kernel
theorem dX6_sumOf_48 : decode cX6_sumOf 48 = .ok (.bipush 8, 2) := by decide +kernel
theorem dX6_sumOf_50 : decode cX6_sumOf 50 = .ok (.iload 6, 2) := by decide +kernel
theorem dX6_sumOf_52 : decode cX6_sumOf 52 = .ok (.iadd, 1) := by decide +kernel
theorem dX6_sumOf_53 : decode cX6_sumOf 53 = .ok (.invokevirtual 62, 3) := by decide +kernel
theorem dX6_sumOf_56 : decode cX6_sumOf 56 = .ok (.invokestatic 66, 3) := by decide +kernel
theorem dX6_sumOf_59 : decode cX6_sumOf 59 = .ok (.iadd, 1) := by decide +kernel
theorem dX6_sumOf_60 : decode cX6_sumOf 60 = .ok (.istore 5, 2) := by decide +kernel
theorem dX6_sumOf_62 : decode cX6_sumOf 62 = .ok (.iinc 6 1, 3) := by decide +kernel
theorem dX6_sumOf_65 : decode cX6_sumOf 65 = .ok (.goto (-59), 3) := by decide +kernel
theorem dX6_sumOf_68 : decode cX6_sumOf 68 = .ok (.iload 5, 2) := by decide +kernel
theorem dX6_sumOf_70 : decode cX6_sumOf 70 = .ok (.ireturn, 1) := by decide +kernel
theorem dX6_habit_0 : decode cX6_habit 0 = .ok (.aload_n 0, 1) := by decide +kernel
theorem dX6_habit_1 : decode cX6_habit 1 = .ok (.iload_n 1, 1) := by decide +kernel
theorem dX6_habit_2 : decode cX6_habit 2 = .ok (.iload_n 2, 1) := by decide +kernel
theorem dX6_habit_3 : decode cX6_habit 3 = .ok (.iload_n 3, 1) := by decide +kernel
theorem dX6_habit_4 : decode cX6_habit 4 = .ok (.iconst 1, 1) := by decide +kernel
theorem dX6_habit_5 : decode cX6_habit 5 = .ok (.invokevirtual 70, 3) := by decide +kernel
theorem dX6_habit_8 : decode cX6_habit 8 = .ok (.istore 4, 2) := by decide +kernel
theorem dX6_habit_10 : decode cX6_habit 10 = .ok (.aload_n 0, 1) := by decide +kernel
theorem dX6_habit_11 : decode cX6_habit 11 = .ok (.iload_n 1, 1) := by decide +kernel
theorem dX6_habit_12 : decode cX6_habit 12 = .ok (.iload_n 2, 1) := by decide +kernel
theorem dX6_habit_13 : decode cX6_habit 13 = .ok (.iload_n 3, 1) := by decide +kernel
theorem dX6_habit_14 : decode cX6_habit 14 = .ok (.iconst 0, 1) := by decide +kernel
theorem dX6_habit_15 : decode cX6_habit 15 = .ok (.invokevirtual 70, 3) := by decide +kernel
theorem dX6_habit_18 : decode cX6_habit 18 = .ok (.istore 5, 2) := by decide +kernel
theorem dX6_habit_20 : decode cX6_habit 20 = .ok (.iload 4, 2) := by decide +kernel
theorem dX6_habit_22 : decode cX6_habit 22 = .ok (.ifCond .ne 5, 3) := by decide +kernel
theorem dX6_habit_25 : decode cX6_habit 25 = .ok (.iconst 0, 1) := by decide +kernel
theorem dX6_habit_26 : decode cX6_habit 26 = .ok (.ireturn, 1) := by decide +kernel
theorem dX6_habit_27 : decode cX6_habit 27 = .ok (.iload 5, 2) := by decide +kernel
theorem dX6_habit_29 : decode cX6_habit 29 = .ok (.ifCond .ne 5, 3) := by decide +kernel
theorem dX6_habit_32 : decode cX6_habit 32 = .ok (.iconst 1, 1) := by decide +kernel
theorem dX6_habit_33 : decode cX6_habit 33 = .ok (.ireturn, 1) := by decide +kernel
theorem dX6_habit_34 : decode cX6_habit 34 = .ok (.aload_n 0, 1) := by decide +kernel
theorem dX6_habit_35 : decode cX6_habit 35 = .ok (.iload_n 1, 1) := by decide +kernel
theorem dX6_habit_36 : decode cX6_habit 36 = .ok (.iload_n 2, 1) := by decide +kernel
theorem dX6_habit_37 : decode cX6_habit 37 = .ok (.iload_n 3, 1) := by decide +kernel
theorem dX6_habit_38 : decode cX6_habit 38 = .ok (.iconst 1, 1) := by decide +kernel
theorem dX6_habit_39 : decode cX6_habit 39 = .ok (.invokevirtual 74, 3) := by decide +kernel
theorem dX6_habit_42 : decode cX6_habit 42 = .ok (.iload 5, 2) := by decide +kernel
theorem dX6_habit_44 : decode cX6_habit 44 = .ok (.imul, 1) := by decide +kernel
theorem dX6_habit_45 : decode cX6_habit 45 = .ok (.aload_n 0, 1) := by decide +kernel
theorem dX6_habit_46 : decode cX6_habit 46 = .ok (.iload_n 1, 1) := by decide +kernel
theorem dX6_habit_47 : decode cX6_habit 47 = .ok (.iload_n 2, 1) := by decide +kernel
theorem dX6_habit_48 : decode cX6_habit 48 = .ok (.iload_n 3, 1) := by decide +kernel
theorem dX6_habit_49 : decode cX6_habit 49 = .ok (.iconst 0, 1) := by decide +kernel
theorem dX6_habit_50 : decode cX6_habit 50 = .ok (.invokevirtual 74, 3) := by decide +kernel
theorem dX6_habit_53 : decode cX6_habit 53 = .ok (.iload 4, 2) := by decide +kernel
theorem dX6_habit_55 : decode cX6_habit 55 = .ok (.imul, 1) := by decide +kernel
theorem dX6_habit_56 : decode cX6_habit 56 = .ok (.if_icmp .le 7, 3) := by decide +kernel
theorem dX6_habit_59 : decode cX6_habit 59 = .ok (.iconst 1, 1) := by decide +kernel
theorem dX6_habit_60 : decode cX6_habit 60 = .ok (.goto 4, 3) := by decide +kernel
theorem dX6_habit_63 : decode cX6_habit 63 = .ok (.iconst 0, 1) := by decide +kernel
theorem dX6_habit_64 : decode cX6_habit 64 = .ok (.ireturn, 1) := by decide +kernel
theorem dX6_notAdd_0 : decode cX6_notAdd 0 = .ok (.iload_n 1, 1) := by decide +kernel
theorem dX6_notAdd_1 : decode cX6_notAdd 1 = .ok (.iconst 3, 1) := by decide +kernel
theorem dX6_notAdd_2 : decode cX6_notAdd 2 = .ok (.bipush 20, 2) := by decide +kernel
theorem dX6_notAdd_4 : decode cX6_notAdd 4 = .ok (.invokestatic 54, 3) := by decide +kernel
theorem dX6_notAdd_7 : decode cX6_notAdd 7 = .ok (.ifCond .ne 5, 3) := by decide +kernel
theorem dX6_notAdd_10 : decode cX6_notAdd 10 = .ok (.iconst 1, 1) := by decide +kernel
theorem dX6_notAdd_11 : decode cX6_notAdd 11 = .ok (.ireturn, 1) := by decide +kernel
theorem dX6_notAdd_12 : decode cX6_notAdd 12 = .ok (.aload_n 0, 1) := by decide +kernel
theorem dX6_notAdd_13 : decode cX6_notAdd 13 = .ok (.getfield 13, 3) := by decide +kernel
theorem dX6_notAdd_16 : decode cX6_notAdd 16 = .ok (.iconst 0, 1) := by decide +kernel
theorem dX6_notAdd_17 : decode cX6_notAdd 17 = .ok (.iaload, 1) := by decide +kernel
theorem dX6_notAdd_18 : decode cX6_notAdd 18 = .ok (.bipush 6, 2) := by decide +kernel
theorem dX6_notAdd_20 : decode cX6_notAdd 20 = .ok (.if_icmp .ne 7, 3) := by decide +kernel
theorem dX6_notAdd_23 : decode cX6_notAdd 23 = .ok (.iconst 2, 1) := by decide +kernel
theorem dX6_notAdd_24 : decode cX6_notAdd 24 = .ok (.goto 4, 3) := by decide +kernel
theorem dX6_notAdd_27 : decode cX6_notAdd 27 = .ok (.iconst 0, 1) := by decide +kernel
theorem dX6_notAdd_28 : decode cX6_notAdd 28 = .ok (.ireturn, 1) := by decide +kernel
theorem dX6_addsUmbrella_0 : decode cX6_addsUmbrella 0 = .ok (.aload_n 0, 1) := by decide +kernel
theorem dX6_addsUmbrella_1 : decode cX6_addsUmbrella 1 = .ok (.getfield 13, 3) := by decide +kernel
theorem dX6_addsUmbrella_4 : decode cX6_addsUmbrella 4 = .ok (.iconst 0, 1) := by decide +kernel
theorem dX6_addsUmbrella_5 : decode cX6_addsUmbrella 5 = .ok (.iaload, 1) := by decide +kernel
theorem dX6_addsUmbrella_6 : decode cX6_addsUmbrella 6 = .ok (.istore_n 2, 1) := by decide +kernel
theorem dX6_addsUmbrella_7 : decode cX6_addsUmbrella 7 = .ok (.aload_n 0, 1) := by decide +kernel
theorem dX6_addsUmbrella_8 : decode cX6_addsUmbrella 8 = .ok (.getfield 13, 3) := by decide +kernel
theorem dX6_addsUmbrella_11 : decode cX6_addsUmbrella 11 = .ok (.iconst 0, 1) := by decide +kernel
theorem dX6_addsUmbrella_12 : decode cX6_addsUmbrella 12 = .ok (.dup2, 1) := by decide +kernel
theorem dX6_addsUmbrella_13 : decode cX6_addsUmbrella 13 = .ok (.iaload, 1) := by decide +kernel
theorem dX6_addsUmbrella_14 : decode cX6_addsUmbrella 14 = .ok (.iconst 1, 1) := by decide +kernel
theorem dX6_addsUmbrella_15 : decode cX6_addsUmbrella 15 = .ok (.iadd, 1) := by decide +kernel
theorem dX6_addsUmbrella_16 : decode cX6_addsUmbrella 16 = .ok (.iastore, 1) := by decide +kernel
theorem dX6_addsUmbrella_17 : decode cX6_addsUmbrella 17 = .ok (.iconst 0, 1) := by decide +kernel
theorem dX6_addsUmbrella_18 : decode cX6_addsUmbrella 18 = .ok (.istore_n 3, 1) := by decide +kernel
theorem dX6_addsUmbrella_19 : decode cX6_addsUmbrella 19 = .ok (.iload_n 3, 1) := by decide +kernel
theorem dX6_addsUmbrella_20 : decode cX6_addsUmbrella 20 = .ok (.bipush 28, 2) := by decide +kernel
theorem dX6_addsUmbrella_22 : decode cX6_addsUmbrella 22 = .ok (.if_icmp .ge 16, 3) := by decide +kernel
theorem dX6_addsUmbrella_25 : decode cX6_addsUmbrella 25 = .ok (.aload_n 0, 1) := by decide +kernel
theorem dX6_addsUmbrella_26 : decode cX6_addsUmbrella 26 = .ok (.iload_n 2, 1) := by decide +kernel
theorem dX6_addsUmbrella_27 : decode cX6_addsUmbrella 27 = .ok (.iload_n 3, 1) := by decide +kernel
theorem dX6_addsUmbrella_28 : decode cX6_addsUmbrella 28 = .ok (.iconst 0, 1) := by decide +kernel
theorem dX6_addsUmbrella_29 : decode cX6_addsUmbrella 29 = .ok (.invokevirtual 77, 3) := by decide +kernel
theorem dX6_addsUmbrella_32 : decode cX6_addsUmbrella 32 = .ok (.iinc 3 1, 3) := by decide +kernel
theorem dX6_addsUmbrella_35 : decode cX6_addsUmbrella 35 = .ok (.goto (-16), 3) := by decide +kernel
theorem dX6_addsUmbrella_38 : decode cX6_addsUmbrella 38 = .ok (.aload_n 0, 1) := by decide +kernel
theorem dX6_addsUmbrella_39 : decode cX6_addsUmbrella 39 = .ok (.iload_n 2, 1) := by decide +kernel
theorem dX6_addsUmbrella_40 : decode cX6_addsUmbrella 40 = .ok (.iconst 0, 1) := by decide +kernel
theorem dX6_addsUmbrella_41 : decode cX6_addsUmbrella 41 = .ok (.iload_n 1, 1) := by decide +kernel
theorem dX6_addsUmbrella_42 : decode cX6_addsUmbrella 42 = .ok (.invokevirtual 77, 3) := by decide +kernel
theorem dX6_addsUmbrella_45 : decode cX6_addsUmbrella 45 = .ok (.iload_n 2, 1) := by decide +kernel
theorem dX6_addsUmbrella_46 : decode cX6_addsUmbrella 46 = .ok (.ireturn, 1) := by decide +kernel
theorem dX6_addUmbrella_0 : decode cX6_addUmbrella 0 = .ok (.aload_n 0, 1) := by decide +kernel
theorem dX6_addUmbrella_1 : decode cX6_addUmbrella 1 = .ok (.iconst 0, 1) := by decide +kernel
theorem dX6_addUmbrella_2 : decode cX6_addUmbrella 2 = .ok (.putfield 1, 3) := by decide +kernel
theorem dX6_addUmbrella_5 : decode cX6_addUmbrella 5 = .ok (.aload_n 0, 1) := by decide +kernel
theorem dX6_addUmbrella_6 : decode cX6_addUmbrella 6 = .ok (.iload_n 1, 1) := by decide +kernel
theorem dX6_addUmbrella_7 : decode cX6_addUmbrella 7 = .ok (.invokevirtual 81, 3) := by decide +kernel
theorem dX6_addUmbrella_10 : decode cX6_addUmbrella 10 = .ok (.istore_n 2, 1) := by decide +kernel
theorem dX6_addUmbrella_11 : decode cX6_addUmbrella 11 = .ok (.iload_n 2, 1) := by decide +kernel
theorem dX6_addUmbrella_12 : decode cX6_addUmbrella 12 = .ok (.ifCond .eq 9, 3) := by decide +kernel
theorem dX6_addUmbrella_15 : decode cX6_addUmbrella 15 = .ok (.aload_n 0, 1) := by decide +kernel
theorem dX6_addUmbrella_16 : decode cX6_addUmbrella 16 = .ok (.iload_n 2, 1) := by decide +kernel
theorem dX6_addUmbrella_17 : decode cX6_addUmbrella 17 = .ok (.invokevirtual 84, 3) := by decide +kernel
theorem dX6_addUmbrella_20 : decode cX6_addUmbrella 20 = .ok (.ireturn, 1) := by decide +kernel
theorem dX6_addUmbrella_21 : decode cX6_addUmbrella 21 = .ok (.aload_n 0, 1) := by decide +kernel
theorem dX6_addUmbrella_22 : decode cX6_addUmbrella 22 = .ok (.invokevirtual 87, 3) := by decide +kernel
theorem dX6_addUmbrella_25 : decode cX6_addUmbrella 25 = .ok (.aload_n 0, 1) := by decide +kernel
theorem dX6_addUmbrella_26 : decode cX6_addUmbrella 26 = .ok (.iload_n 1, 1) := by decide +kernel
theorem dX6_addUmbrella_27 : decode cX6_addUmbrella 27 = .ok (.invokevirtual 90, 3) := by decide +kernel
theorem dX6_addUmbrella_30 : decode cX6_addUmbrella 30 = .ok (.ireturn, 1) := by decide +kernel
theorem dX6_explores_0 : decode cX6_explores 0 = .ok (.aload_n 0, 1) := by decide +kernel
theorem dX6_explores_1 : decode cX6_explores 1 = .ok (.iload_n 1, 1) := by decide +kernel
theorem dX6_explores_2 : decode cX6_explores 2 = .ok (.iconst 1, 1) := by decide +kernel
theorem dX6_explores_3 : decode cX6_explores 3 = .ok (.invokevirtual 62, 3) := by decide +kernel
theorem dX6_explores_6 : decode cX6_explores 6 = .ok (.ifCond .le 25, 3) := by decide +kernel
theorem dX6_explores_9 : decode cX6_explores 9 = .ok (.aload_n 0, 1) := by decide +kernel
theorem dX6_explores_10 : decode cX6_explores 10 = .ok (.iload_n 1, 1) := by decide +kernel
theorem dX6_explores_11 : decode cX6_explores 11 = .ok (.iconst 2, 1) := by decide +kernel
theorem dX6_explores_12 : decode cX6_explores 12 = .ok (.invokevirtual 62, 3) := by decide +kernel
theorem dX6_explores_15 : decode cX6_explores 15 = .ok (.iconst 1, 1) := by decide +kernel
theorem dX6_explores_16 : decode cX6_explores 16 = .ok (.iadd, 1) := by decide +kernel
theorem dX6_explores_17 : decode cX6_explores 17 = .ok (.aload_n 0, 1) := by decide +kernel
theorem dX6_explores_18 : decode cX6_explores 18 = .ok (.iload_n 1, 1) := by decide +kernel
theorem dX6_explores_19 : decode cX6_explores 19 = .ok (.iconst 1, 1) := by decide +kernel
theorem dX6_explores_20 : decode cX6_explores 20 = .ok (.invokevirtual 62, 3) := by decide +kernel
theorem dX6_explores_23 : decode cX6_explores 23 = .ok (.irem, 1) := by decide +kernel
theorem dX6_explores_24 : decode cX6_explores 24 = .ok (.ifCond .ne 7, 3) := by decide +kernel
theorem dX6_explores_27 : decode cX6_explores 27 = .ok (.iconst 1, 1) := by decide +kernel
theorem dX6_explores_28 : decode cX6_explores 28 = .ok (.goto 4, 3) := by decide +kernel
theorem dX6_explores_31 : decode cX6_explores 31 = .ok (.iconst 0, 1) := by decide +kernel
theorem dX6_explores_32 : decode cX6_explores 32 = .ok (.ireturn, 1) := by decide +kernel
theorem dX6_learns_0 : decode cX6_learns 0 = .ok (.aload_n 0, 1) := by decide +kernel
theorem dX6_learns_1 : decode cX6_learns 1 = .ok (.iload_n 1, 1) := by decide +kernel
theorem dX6_learns_2 : decode cX6_learns 2 = .ok (.iconst 3, 1) := by decide +kernel
theorem dX6_learns_3 : decode cX6_learns 3 = .ok (.invokevirtual 62, 3) := by decide +kernel
theorem dX6_learns_6 : decode cX6_learns 6 = .ok (.aload_n 0, 1) := by decide +kernel
theorem dX6_learns_7 : decode cX6_learns 7 = .ok (.iload_n 1, 1) := by decide +kernel
theorem dX6_learns_8 : decode cX6_learns 8 = .ok (.iconst 0, 1) := by decide +kernel
theorem dX6_learns_9 : decode cX6_learns 9 = .ok (.invokevirtual 62, 3) := by decide +kernel
theorem dX6_learns_12 : decode cX6_learns 12 = .ok (.if_icmp .ne 48, 3) := by decide +kernel
theorem dX6_learns_15 : decode cX6_learns 15 = .ok (.aload_n 0, 1) := by decide +kernel
theorem dX6_learns_16 : decode cX6_learns 16 = .ok (.iload_n 1, 1) := by decide +kernel
theorem dX6_learns_17 : decode cX6_learns 17 = .ok (.iconst 3, 1) := by decide +kernel
theorem dX6_learns_18 : decode cX6_learns 18 = .ok (.iconst (-1), 1) := by decide +kernel
theorem dX6_learns_19 : decode cX6_learns 19 = .ok (.invokevirtual 93, 3) := by decide +kernel
theorem dX6_learns_22 : decode cX6_learns 22 = .ok (.iconst 0, 1) := by decide +kernel
theorem dX6_learns_23 : decode cX6_learns 23 = .ok (.istore_n 3, 1) := by decide +kernel
theorem dX6_learns_24 : decode cX6_learns 24 = .ok (.iload_n 3, 1) := by decide +kernel
theorem dX6_learns_25 : decode cX6_learns 25 = .ok (.aload_n 0, 1) := by decide +kernel
theorem dX6_learns_26 : decode cX6_learns 26 = .ok (.iload_n 1, 1) := by decide +kernel
theorem dX6_learns_27 : decode cX6_learns 27 = .ok (.iconst 3, 1) := by decide +kernel
theorem dX6_learns_28 : decode cX6_learns 28 = .ok (.invokevirtual 62, 3) := by decide +kernel
theorem dX6_learns_31 : decode cX6_learns 31 = .ok (.if_icmp .ge 29, 3) := by decide +kernel
theorem dX6_learns_34 : decode cX6_learns 34 = .ok (.aload_n 0, 1) := by decide +kernel
theorem dX6_learns_35 : decode cX6_learns 35 = .ok (.iload_n 1, 1) := by decide +kernel
theorem dX6_learns_36 : decode cX6_learns 36 = .ok (.bipush 8, 2) := by decide +kernel
theorem dX6_learns_38 : decode cX6_learns 38 = .ok (.iload_n 3, 1) := by decide +kernel
theorem dX6_learns_39 : decode cX6_learns 39 = .ok (.iadd, 1) := by decide +kernel
theorem dX6_learns_40 : decode cX6_learns 40 = .ok (.aload_n 0, 1) := by decide +kernel
theorem dX6_learns_41 : decode cX6_learns 41 = .ok (.iload_n 1, 1) := by decide +kernel
theorem dX6_learns_42 : decode cX6_learns 42 = .ok (.bipush 8, 2) := by decide +kernel
theorem dX6_learns_44 : decode cX6_learns 44 = .ok (.iload_n 3, 1) := by decide +kernel
theorem dX6_learns_45 : decode cX6_learns 45 = .ok (.iadd, 1) := by decide +kernel
theorem dX6_learns_46 : decode cX6_learns 46 = .ok (.iconst 1, 1) := by decide +kernel
theorem dX6_learns_47 : decode cX6_learns 47 = .ok (.iadd, 1) := by decide +kernel
theorem dX6_learns_48 : decode cX6_learns 48 = .ok (.invokevirtual 62, 3) := by decide +kernel
theorem dX6_learns_51 : decode cX6_learns 51 = .ok (.invokevirtual 77, 3) := by decide +kernel
theorem dX6_learns_54 : decode cX6_learns 54 = .ok (.iinc 3 1, 3) := by decide +kernel
theorem dX6_learns_57 : decode cX6_learns 57 = .ok (.goto (-33), 3) := by decide +kernel
theorem dX6_learns_60 : decode cX6_learns 60 = .ok (.aload_n 0, 1) := by decide +kernel
theorem dX6_learns_61 : decode cX6_learns 61 = .ok (.iload_n 1, 1) := by decide +kernel
theorem dX6_learns_62 : decode cX6_learns 62 = .ok (.bipush 8, 2) := by decide +kernel
theorem dX6_learns_64 : decode cX6_learns 64 = .ok (.aload_n 0, 1) := by decide +kernel
theorem dX6_learns_65 : decode cX6_learns 65 = .ok (.iload_n 1, 1) := by decide +kernel
theorem dX6_learns_66 : decode cX6_learns 66 = .ok (.iconst 3, 1) := by decide +kernel
theorem dX6_learns_67 : decode cX6_learns 67 = .ok (.invokevirtual 62, 3) := by decide +kernel
theorem dX6_learns_70 : decode cX6_learns 70 = .ok (.iadd, 1) := by decide +kernel
theorem dX6_learns_71 : decode cX6_learns 71 = .ok (.iload_n 2, 1) := by decide +kernel
theorem dX6_learns_72 : decode cX6_learns 72 = .ok (.invokevirtual 77, 3) := by decide +kernel
theorem dX6_learns_75 : decode cX6_learns 75 = .ok (.aload_n 0, 1) := by decide +kernel
theorem dX6_learns_76 : decode cX6_learns 76 = .ok (.iload_n 1, 1) := by decide +kernel
theorem dX6_learns_77 : decode cX6_learns 77 = .ok (.iconst 3, 1) := by decide +kernel
theorem dX6_learns_78 : decode cX6_learns 78 = .ok (.iconst 1, 1) := by decide +kernel
theorem dX6_learns_79 : decode cX6_learns 79 = .ok (.invokevirtual 93, 3) := by decide +kernel
theorem dX6_learns_82 : decode cX6_learns 82 = .ok (.return_, 1) := by decide +kernel
theorem dX6_tries_0 : decode cX6_tries 0 = .ok (.aload_n 0, 1) := by decide +kernel
theorem dX6_tries_1 : decode cX6_tries 1 = .ok (.iload_n 1, 1) := by decide +kernel
theorem dX6_tries_2 : decode cX6_tries 2 = .ok (.iload_n 2, 1) := by decide +kernel
theorem dX6_tries_3 : decode cX6_tries 3 = .ok (.iload_n 3, 1) := by decide +kernel
theorem dX6_tries_4 : decode cX6_tries 4 = .ok (.invokevirtual 96, 3) := by decide +kernel
theorem dX6_tries_7 : decode cX6_tries 7 = .ok (.istore 4, 2) := by decide +kernel
theorem dX6_tries_9 : decode cX6_tries 9 = .ok (.aload_n 0, 1) := by decide +kernel
theorem dX6_tries_10 : decode cX6_tries 10 = .ok (.iload_n 1, 1) := by decide +kernel
theorem dX6_tries_11 : decode cX6_tries 11 = .ok (.invokevirtual 99, 3) := by decide +kernel
theorem dX6_tries_14 : decode cX6_tries 14 = .ok (.ifCond .eq 9, 3) := by decide +kernel
theorem dX6_tries_17 : decode cX6_tries 17 = .ok (.iconst 1, 1) := by decide +kernel
theorem dX6_tries_18 : decode cX6_tries 18 = .ok (.iload 4, 2) := by decide +kernel
theorem dX6_tries_20 : decode cX6_tries 20 = .ok (.isub, 1) := by decide +kernel
theorem dX6_tries_21 : decode cX6_tries 21 = .ok (.istore 4, 2) := by decide +kernel
theorem dX6_tries_23 : decode cX6_tries 23 = .ok (.aload_n 0, 1) := by decide +kernel
theorem dX6_tries_24 : decode cX6_tries 24 = .ok (.iload_n 2, 1) := by decide +kernel
theorem dX6_tries_25 : decode cX6_tries 25 = .ok (.iload_n 3, 1) := by decide +kernel
theorem dX6_tries_26 : decode cX6_tries 26 = .ok (.iload 4, 2) := by decide +kernel
theorem dX6_tries_28 : decode cX6_tries 28 = .ok (.invokevirtual 58, 3) := by decide +kernel
theorem dX6_tries_31 : decode cX6_tries 31 = .ok (.istore 5, 2) := by decide +kernel
theorem dX6_tries_33 : decode cX6_tries 33 = .ok (.aload_n 0, 1) := by decide +kernel
theorem dX6_tries_34 : decode cX6_tries 34 = .ok (.iload_n 1, 1) := by decide +kernel
theorem dX6_tries_35 : decode cX6_tries 35 = .ok (.iload_n 2, 1) := by decide +kernel
theorem dX6_tries_36 : decode cX6_tries 36 = .ok (.iload_n 3, 1) := by decide +kernel
theorem dX6_tries_37 : decode cX6_tries 37 = .ok (.iload 4, 2) := by decide +kernel
theorem dX6_tries_39 : decode cX6_tries 39 = .ok (.iload 5, 2) := by decide +kernel
theorem dX6_tries_41 : decode cX6_tries 41 = .ok (.invokestatic 103, 3) := by decide +kernel
theorem dX6_tries_44 : decode cX6_tries 44 = .ok (.invokevirtual 106, 3) := by decide +kernel
theorem dX6_tries_47 : decode cX6_tries 47 = .ok (.aload_n 0, 1) := by decide +kernel
theorem dX6_tries_48 : decode cX6_tries 48 = .ok (.iload_n 1, 1) := by decide +kernel
theorem dX6_tries_49 : decode cX6_tries 49 = .ok (.iconst 2, 1) := by decide +kernel
theorem dX6_tries_50 : decode cX6_tries 50 = .ok (.iconst 1, 1) := by decide +kernel
theorem dX6_tries_51 : decode cX6_tries 51 = .ok (.invokevirtual 93, 3) := by decide +kernel
theorem dX6_tries_54 : decode cX6_tries 54 = .ok (.aload_n 0, 1) := by decide +kernel
theorem dX6_tries_55 : decode cX6_tries 55 = .ok (.iload_n 1, 1) := by decide +kernel
theorem dX6_tries_56 : decode cX6_tries 56 = .ok (.iconst 4, 1) := by decide +kernel
theorem dX6_tries_57 : decode cX6_tries 57 = .ok (.iload 5, 2) := by decide +kernel
theorem dX6_tries_59 : decode cX6_tries 59 = .ok (.invokevirtual 93, 3) := by decide +kernel
theorem dX6_tries_62 : decode cX6_tries 62 = .ok (.aload_n 0, 1) := by decide +kernel
theorem dX6_tries_63 : decode cX6_tries 63 = .ok (.iload_n 1, 1) := by decide +kernel
theorem dX6_tries_64 : decode cX6_tries 64 = .ok (.iconst 5, 1) := by decide +kernel
theorem dX6_tries_65 : decode cX6_tries 65 = .ok (.iload 5, 2) := by decide +kernel
theorem dX6_tries_67 : decode cX6_tries 67 = .ok (.invokevirtual 93, 3) := by decide +kernel
theorem dX6_tries_70 : decode cX6_tries 70 = .ok (.aload_n 0, 1) := by decide +kernel
theorem dX6_tries_71 : decode cX6_tries 71 = .ok (.getfield 13, 3) := by decide +kernel
theorem dX6_tries_74 : decode cX6_tries 74 = .ok (.iload 4, 2) := by decide +kernel
theorem dX6_tries_76 : decode cX6_tries 76 = .ok (.iconst 1, 1) := by decide +kernel
theorem dX6_tries_77 : decode cX6_tries 77 = .ok (.if_icmp .ne 7, 3) := by decide +kernel
theorem dX6_tries_80 : decode cX6_tries 80 = .ok (.iconst 4, 1) := by decide +kernel
theorem dX6_tries_81 : decode cX6_tries 81 = .ok (.goto 4, 3) := by decide +kernel
theorem dX6_tries_84 : decode cX6_tries 84 = .ok (.iconst 5, 1) := by decide +kernel
theorem dX6_tries_85 : decode cX6_tries 85 = .ok (.dup2, 1) := by decide +kernel
theorem dX6_tries_86 : decode cX6_tries 86 = .ok (.iaload, 1) := by decide +kernel
theorem dX6_tries_87 : decode cX6_tries 87 = .ok (.iload 5, 2) := by decide +kernel
theorem dX6_tries_89 : decode cX6_tries 89 = .ok (.iadd, 1) := by decide +kernel
theorem dX6_tries_90 : decode cX6_tries 90 = .ok (.iastore, 1) := by decide +kernel
theorem dX6_tries_91 : decode cX6_tries 91 = .ok (.aload_n 0, 1) := by decide +kernel
theorem dX6_tries_92 : decode cX6_tries 92 = .ok (.getfield 13, 3) := by decide +kernel
theorem dX6_tries_95 : decode cX6_tries 95 = .ok (.bipush 6, 2) := by decide +kernel
theorem dX6_tries_97 : decode cX6_tries 97 = .ok (.dup2, 1) := by decide +kernel
theorem dX6_tries_98 : decode cX6_tries 98 = .ok (.iaload, 1) := by decide +kernel
theorem dX6_tries_99 : decode cX6_tries 99 = .ok (.iload 4, 2) := by decide +kernel
theorem dX6_tries_101 : decode cX6_tries 101 = .ok (.iadd, 1) := by decide +kernel
theorem dX6_tries_102 : decode cX6_tries 102 = .ok (.iastore, 1) := by decide +kernel
theorem dX6_tries_103 : decode cX6_tries 103 = .ok (.aload_n 0, 1) := by decide +kernel
theorem dX6_tries_104 : decode cX6_tries 104 = .ok (.getfield 13, 3) := by decide +kernel
theorem dX6_tries_107 : decode cX6_tries 107 = .ok (.bipush 7, 2) := by decide +kernel
theorem dX6_tries_109 : decode cX6_tries 109 = .ok (.dup2, 1) := by decide +kernel
theorem dX6_tries_110 : decode cX6_tries 110 = .ok (.iaload, 1) := by decide +kernel
theorem dX6_tries_111 : decode cX6_tries 111 = .ok (.iconst 1, 1) := by decide +kernel
theorem dX6_tries_112 : decode cX6_tries 112 = .ok (.iadd, 1) := by decide +kernel
theorem dX6_tries_113 : decode cX6_tries 113 = .ok (.iastore, 1) := by decide +kernel
theorem dX6_tries_114 : decode cX6_tries 114 = .ok (.iload 5, 2) := by decide +kernel
theorem dX6_tries_116 : decode cX6_tries 116 = .ok (.ireturn, 1) := by decide +kernel
theorem dX6_notTrain_0 : decode cX6_notTrain 0 = .ok (.aload_n 0, 1) := by decide +kernel
theorem dX6_notTrain_1 : decode cX6_notTrain 1 = .ok (.iload_n 1, 1) := by decide +kernel
theorem dX6_notTrain_2 : decode cX6_notTrain 2 = .ok (.invokevirtual 110, 3) := by decide +kernel
theorem dX6_notTrain_5 : decode cX6_notTrain 5 = .ok (.ifCond .ne 5, 3) := by decide +kernel
theorem dX6_notTrain_8 : decode cX6_notTrain 8 = .ok (.iconst 1, 1) := by decide +kernel
theorem dX6_notTrain_9 : decode cX6_notTrain 9 = .ok (.ireturn, 1) := by decide +kernel
theorem dX6_notTrain_10 : decode cX6_notTrain 10 = .ok (.iload_n 2, 1) := by decide +kernel
theorem dX6_notTrain_11 : decode cX6_notTrain 11 = .ok (.iload_n 3, 1) := by decide +kernel
theorem dX6_notTrain_12 : decode cX6_notTrain 12 = .ok (.invokestatic 113, 3) := by decide +kernel
theorem dX6_notTrain_15 : decode cX6_notTrain 15 = .ok (.ifCond .eq 18, 3) := by decide +kernel
theorem dX6_notTrain_18 : decode cX6_notTrain 18 = .ok (.iload 4, 2) := by decide +kernel
theorem dX6_notTrain_20 : decode cX6_notTrain 20 = .ok (.iconst 1, 1) := by decide +kernel
theorem dX6_notTrain_21 : decode cX6_notTrain 21 = .ok (.bipush 9, 2) := by decide +kernel
theorem dX6_notTrain_23 : decode cX6_notTrain 23 = .ok (.invokestatic 54, 3) := by decide +kernel
theorem dX6_notTrain_26 : decode cX6_notTrain 26 = .ok (.ifCond .eq 7, 3) := by decide +kernel
theorem dX6_notTrain_29 : decode cX6_notTrain 29 = .ok (.iconst 0, 1) := by decide +kernel
theorem dX6_notTrain_30 : decode cX6_notTrain 30 = .ok (.goto 4, 3) := by decide +kernel
theorem dX6_notTrain_33 : decode cX6_notTrain 33 = .ok (.iconst 2, 1) := by decide +kernel
theorem dX6_notTrain_34 : decode cX6_notTrain 34 = .ok (.ireturn, 1) := by decide +kernel
theorem dX6_trains_0 : decode cX6_trains 0 = .ok (.iconst 0, 1) := by decide +kernel
theorem dX6_trains_1 : decode cX6_trains 1 = .ok (.istore 5, 2) := by decide +kernel
theorem dX6_trains_3 : decode cX6_trains 3 = .ok (.iconst 0, 1) := by decide +kernel
theorem dX6_trains_4 : decode cX6_trains 4 = .ok (.istore 6, 2) := by decide +kernel
theorem dX6_trains_6 : decode cX6_trains 6 = .ok (.iload 6, 2) := by decide +kernel
theorem dX6_trains_8 : decode cX6_trains 8 = .ok (.iload 4, 2) := by decide +kernel
theorem dX6_trains_10 : decode cX6_trains 10 = .ok (.if_icmp .ge 21, 3) := by decide +kernel
theorem dX6_trains_13 : decode cX6_trains 13 = .ok (.iload 5, 2) := by decide +kernel
theorem dX6_trains_15 : decode cX6_trains 15 = .ok (.aload_n 0, 1) := by decide +kernel
theorem dX6_trains_16 : decode cX6_trains 16 = .ok (.iload_n 1, 1) := by decide +kernel
theorem dX6_trains_17 : decode cX6_trains 17 = .ok (.iload_n 2, 1) := by decide +kernel
theorem dX6_trains_18 : decode cX6_trains 18 = .ok (.iload_n 3, 1) := by decide +kernel
theorem dX6_trains_19 : decode cX6_trains 19 = .ok (.invokevirtual 117, 3) := by decide +kernel
theorem dX6_trains_22 : decode cX6_trains 22 = .ok (.iadd, 1) := by decide +kernel
theorem dX6_trains_23 : decode cX6_trains 23 = .ok (.istore 5, 2) := by decide +kernel
theorem dX6_trains_25 : decode cX6_trains 25 = .ok (.iinc 6 1, 3) := by decide +kernel
theorem dX6_trains_28 : decode cX6_trains 28 = .ok (.goto (-22), 3) := by decide +kernel
theorem dX6_trains_31 : decode cX6_trains 31 = .ok (.iload 5, 2) := by decide +kernel
theorem dX6_trains_33 : decode cX6_trains 33 = .ok (.ireturn, 1) := by decide +kernel
theorem dX6_train_0 : decode cX6_train 0 = .ok (.aload_n 0, 1) := by decide +kernel
theorem dX6_train_1 : decode cX6_train 1 = .ok (.iconst 0, 1) := by decide +kernel
theorem dX6_train_2 : decode cX6_train 2 = .ok (.putfield 1, 3) := by decide +kernel
theorem dX6_train_5 : decode cX6_train 5 = .ok (.aload_n 0, 1) := by decide +kernel
theorem dX6_train_6 : decode cX6_train 6 = .ok (.iload_n 1, 1) := by decide +kernel
theorem dX6_train_7 : decode cX6_train 7 = .ok (.iload_n 2, 1) := by decide +kernel
theorem dX6_train_8 : decode cX6_train 8 = .ok (.iload_n 3, 1) := by decide +kernel
theorem dX6_train_9 : decode cX6_train 9 = .ok (.iload 4, 2) := by decide +kernel
theorem dX6_train_11 : decode cX6_train 11 = .ok (.invokevirtual 120, 3) := by decide +kernel
theorem dX6_train_14 : decode cX6_train 14 = .ok (.istore 5, 2) := by decide +kernel
theorem dX6_train_16 : decode cX6_train 16 = .ok (.iload 5, 2) := by decide +kernel
theorem dX6_train_18 : decode cX6_train 18 = .ok (.ifCond .eq 10, 3) := by decide +kernel
theorem dX6_train_21 : decode cX6_train 21 = .ok (.aload_n 0, 1) := by decide +kernel
theorem dX6_train_22 : decode cX6_train 22 = .ok (.iload 5, 2) := by decide +kernel
theorem dX6_train_24 : decode cX6_train 24 = .ok (.invokevirtual 84, 3) := by decide +kernel
theorem dX6_train_27 : decode cX6_train 27 = .ok (.ireturn, 1) := by decide +kernel
theorem dX6_train_28 : decode cX6_train 28 = .ok (.aload_n 0, 1) := by decide +kernel
theorem dX6_train_29 : decode cX6_train 29 = .ok (.invokevirtual 87, 3) := by decide +kernel
theorem dX6_train_32 : decode cX6_train 32 = .ok (.aload_n 0, 1) := by decide +kernel
theorem dX6_train_33 : decode cX6_train 33 = .ok (.iload_n 1, 1) := by decide +kernel
theorem dX6_train_34 : decode cX6_train 34 = .ok (.iload_n 2, 1) := by decide +kernel
theorem dX6_train_35 : decode cX6_train 35 = .ok (.iload_n 3, 1) := by decide +kernel
theorem dX6_train_36 : decode cX6_train 36 = .ok (.iload 4, 2) := by decide +kernel
theorem dX6_train_38 : decode cX6_train 38 = .ok (.invokevirtual 123, 3) := by decide +kernel
theorem dX6_train_41 : decode cX6_train 41 = .ok (.ireturn, 1) := by decide +kernel
theorem dX6_notPeriod_0 : decode cX6_notPeriod 0 = .ok (.aload_n 0, 1) := by decide +kernel
theorem dX6_notPeriod_1 : decode cX6_notPeriod 1 = .ok (.iload_n 1, 1) := by decide +kernel
theorem dX6_notPeriod_2 : decode cX6_notPeriod 2 = .ok (.invokevirtual 110, 3) := by decide +kernel
theorem dX6_notPeriod_5 : decode cX6_notPeriod 5 = .ok (.ifCond .ne 5, 3) := by decide +kernel
theorem dX6_notPeriod_8 : decode cX6_notPeriod 8 = .ok (.iconst 1, 1) := by decide +kernel
theorem dX6_notPeriod_9 : decode cX6_notPeriod 9 = .ok (.ireturn, 1) := by decide +kernel
theorem dX6_notPeriod_10 : decode cX6_notPeriod 10 = .ok (.iload_n 2, 1) := by decide +kernel
theorem dX6_notPeriod_11 : decode cX6_notPeriod 11 = .ok (.iconst 0, 1) := by decide +kernel
theorem dX6_notPeriod_12 : decode cX6_notPeriod 12 = .ok (.bipush 9, 2) := by decide +kernel
theorem dX6_notPeriod_14 : decode cX6_notPeriod 14 = .ok (.invokestatic 54, 3) := by decide +kernel
theorem dX6_notPeriod_17 : decode cX6_notPeriod 17 = .ok (.ifCond .eq 7, 3) := by decide +kernel
theorem dX6_notPeriod_20 : decode cX6_notPeriod 20 = .ok (.iconst 0, 1) := by decide +kernel
theorem dX6_notPeriod_21 : decode cX6_notPeriod 21 = .ok (.goto 4, 3) := by decide +kernel
theorem dX6_notPeriod_24 : decode cX6_notPeriod 24 = .ok (.iconst 2, 1) := by decide +kernel
theorem dX6_notPeriod_25 : decode cX6_notPeriod 25 = .ok (.ireturn, 1) := by decide +kernel
theorem dX6_setsPeriod_0 : decode cX6_setsPeriod 0 = .ok (.aload_n 0, 1) := by decide +kernel
theorem dX6_setsPeriod_1 : decode cX6_setsPeriod 1 = .ok (.iload_n 1, 1) := by decide +kernel
theorem dX6_setsPeriod_2 : decode cX6_setsPeriod 2 = .ok (.iconst 1, 1) := by decide +kernel
theorem dX6_setsPeriod_3 : decode cX6_setsPeriod 3 = .ok (.invokevirtual 62, 3) := by decide +kernel
theorem dX6_setsPeriod_6 : decode cX6_setsPeriod 6 = .ok (.istore_n 3, 1) := by decide +kernel
theorem dX6_setsPeriod_7 : decode cX6_setsPeriod 7 = .ok (.aload_n 0, 1) := by decide +kernel
theorem dX6_setsPeriod_8 : decode cX6_setsPeriod 8 = .ok (.iload_n 1, 1) := by decide +kernel
theorem dX6_setsPeriod_9 : decode cX6_setsPeriod 9 = .ok (.iconst 1, 1) := by decide +kernel
theorem dX6_setsPeriod_10 : decode cX6_setsPeriod 10 = .ok (.iload_n 2, 1) := by decide +kernel
theorem dX6_setsPeriod_11 : decode cX6_setsPeriod 11 = .ok (.invokevirtual 77, 3) := by decide +kernel
theorem dX6_setsPeriod_14 : decode cX6_setsPeriod 14 = .ok (.iload_n 3, 1) := by decide +kernel
theorem dX6_setsPeriod_15 : decode cX6_setsPeriod 15 = .ok (.ireturn, 1) := by decide +kernel
theorem dX6_setPeriod_0 : decode cX6_setPeriod 0 = .ok (.aload_n 0, 1) := by decide +kernel
theorem dX6_setPeriod_1 : decode cX6_setPeriod 1 = .ok (.iconst 0, 1) := by decide +kernel
theorem dX6_setPeriod_2 : decode cX6_setPeriod 2 = .ok (.putfield 1, 3) := by decide +kernel
theorem dX6_setPeriod_5 : decode cX6_setPeriod 5 = .ok (.aload_n 0, 1) := by decide +kernel
theorem dX6_setPeriod_6 : decode cX6_setPeriod 6 = .ok (.iload_n 1, 1) := by decide +kernel
theorem dX6_setPeriod_7 : decode cX6_setPeriod 7 = .ok (.iload_n 2, 1) := by decide +kernel
theorem dX6_setPeriod_8 : decode cX6_setPeriod 8 = .ok (.invokevirtual 126, 3) := by decide +kernel
theorem dX6_setPeriod_11 : decode cX6_setPeriod 11 = .ok (.istore_n 3, 1) := by decide +kernel
theorem dX6_setPeriod_12 : decode cX6_setPeriod 12 = .ok (.iload_n 3, 1) := by decide +kernel
theorem dX6_setPeriod_13 : decode cX6_setPeriod 13 = .ok (.ifCond .eq 9, 3) := by decide +kernel
theorem dX6_setPeriod_16 : decode cX6_setPeriod 16 = .ok (.aload_n 0, 1) := by decide +kernel
theorem dX6_setPeriod_17 : decode cX6_setPeriod 17 = .ok (.iload_n 3, 1) := by decide +kernel
theorem dX6_setPeriod_18 : decode cX6_setPeriod 18 = .ok (.invokevirtual 84, 3) := by decide +kernel
theorem dX6_setPeriod_21 : decode cX6_setPeriod 21 = .ok (.ireturn, 1) := by decide +kernel
theorem dX6_setPeriod_22 : decode cX6_setPeriod 22 = .ok (.aload_n 0, 1) := by decide +kernel
theorem dX6_setPeriod_23 : decode cX6_setPeriod 23 = .ok (.invokevirtual 87, 3) := by decide +kernel
theorem dX6_setPeriod_26 : decode cX6_setPeriod 26 = .ok (.aload_n 0, 1) := by decide +kernel
theorem dX6_setPeriod_27 : decode cX6_setPeriod 27 = .ok (.iload_n 1, 1) := by decide +kernel
theorem dX6_setPeriod_28 : decode cX6_setPeriod 28 = .ok (.iload_n 2, 1) := by decide +kernel
theorem dX6_setPeriod_29 : decode cX6_setPeriod 29 = .ok (.invokevirtual 129, 3) := by decide +kernel
theorem dX6_setPeriod_32 : decode cX6_setPeriod 32 = .ok (.ireturn, 1) := by decide +kernel
theorem dX6_notPenalty_0 : decode cX6_notPenalty 0 = .ok (.iload_n 0, 1) := by decide +kernel
theorem dX6_notPenalty_1 : decode cX6_notPenalty 1 = .ok (.iconst 0, 1) := by decide +kernel
theorem dX6_notPenalty_2 : decode cX6_notPenalty 2 = .ok (.bipush 9, 2) := by decide +kernel
theorem dX6_notPenalty_4 : decode cX6_notPenalty 4 = .ok (.invokestatic 54, 3) := by decide +kernel
theorem dX6_notPenalty_7 : decode cX6_notPenalty 7 = .ok (.ifCond .eq 7, 3) := by decide +kernel
theorem dX6_notPenalty_10 : decode cX6_notPenalty 10 = .ok (.iconst 0, 1) := by decide +kernel
theorem dX6_notPenalty_11 : decode cX6_notPenalty 11 = .ok (.goto 4, 3) := by decide +kernel
theorem dX6_notPenalty_14 : decode cX6_notPenalty 14 = .ok (.iconst 1, 1) := by decide +kernel
theorem dX6_notPenalty_15 : decode cX6_notPenalty 15 = .ok (.ireturn, 1) := by decide +kernel
theorem dX6_sets_0 : decode cX6_sets 0 = .ok (.aload_n 0, 1) := by decide +kernel
theorem dX6_sets_1 : decode cX6_sets 1 = .ok (.getfield 13, 3) := by decide +kernel
theorem dX6_sets_4 : decode cX6_sets 4 = .ok (.iload_n 1, 1) := by decide +kernel
theorem dX6_sets_5 : decode cX6_sets 5 = .ok (.iaload, 1) := by decide +kernel
theorem dX6_sets_6 : decode cX6_sets 6 = .ok (.istore_n 3, 1) := by decide +kernel
theorem dX6_sets_7 : decode cX6_sets 7 = .ok (.aload_n 0, 1) := by decide +kernel
theorem dX6_sets_8 : decode cX6_sets 8 = .ok (.getfield 13, 3) := by decide +kernel
theorem dX6_sets_11 : decode cX6_sets 11 = .ok (.iload_n 1, 1) := by decide +kernel
theorem dX6_sets_12 : decode cX6_sets 12 = .ok (.iload_n 2, 1) := by decide +kernel
theorem dX6_sets_13 : decode cX6_sets 13 = .ok (.iastore, 1) := by decide +kernel
theorem dX6_sets_14 : decode cX6_sets 14 = .ok (.iload_n 3, 1) := by decide +kernel
theorem dX6_sets_15 : decode cX6_sets 15 = .ok (.ireturn, 1) := by decide +kernel
theorem dX6_setsChecked_0 : decode cX6_setsChecked 0 = .ok (.aload_n 0, 1) := by decide +kernel
theorem dX6_setsChecked_1 : decode cX6_setsChecked 1 = .ok (.iconst 0, 1) := by decide +kernel
theorem dX6_setsChecked_2 : decode cX6_setsChecked 2 = .ok (.putfield 1, 3) := by decide +kernel
theorem dX6_setsChecked_5 : decode cX6_setsChecked 5 = .ok (.iload_n 2, 1) := by decide +kernel
theorem dX6_setsChecked_6 : decode cX6_setsChecked 6 = .ok (.invokestatic 132, 3) := by decide +kernel
theorem dX6_setsChecked_9 : decode cX6_setsChecked 9 = .ok (.ifCond .eq 9, 3) := by decide +kernel
theorem dX6_setsChecked_12 : decode cX6_setsChecked 12 = .ok (.aload_n 0, 1) := by decide +kernel
theorem dX6_setsChecked_13 : decode cX6_setsChecked 13 = .ok (.iconst 1, 1) := by decide +kernel
theorem dX6_setsChecked_14 : decode cX6_setsChecked 14 = .ok (.invokevirtual 84, 3) := by decide +kernel
theorem dX6_setsChecked_17 : decode cX6_setsChecked 17 = .ok (.ireturn, 1) := by decide +kernel
theorem dX6_setsChecked_18 : decode cX6_setsChecked 18 = .ok (.aload_n 0, 1) := by decide +kernel
theorem dX6_setsChecked_19 : decode cX6_setsChecked 19 = .ok (.invokevirtual 87, 3) := by decide +kernel
theorem dX6_setsChecked_22 : decode cX6_setsChecked 22 = .ok (.aload_n 0, 1) := by decide +kernel
theorem dX6_setsChecked_23 : decode cX6_setsChecked 23 = .ok (.iload_n 1, 1) := by decide +kernel
theorem dX6_setsChecked_24 : decode cX6_setsChecked 24 = .ok (.iload_n 2, 1) := by decide +kernel
theorem dX6_setsChecked_25 : decode cX6_setsChecked 25 = .ok (.invokevirtual 135, 3) := by decide +kernel
theorem dX6_setsChecked_28 : decode cX6_setsChecked 28 = .ok (.ireturn, 1) := by decide +kernel
theorem dX6_setWetPenalty_0 : decode cX6_setWetPenalty 0 = .ok (.aload_n 0, 1) := by decide +kernel
theorem dX6_setWetPenalty_1 : decode cX6_setWetPenalty 1 = .ok (.iconst 1, 1) := by decide +kernel
theorem dX6_setWetPenalty_2 : decode cX6_setWetPenalty 2 = .ok (.iload_n 1, 1) := by decide +kernel
theorem dX6_setWetPenalty_3 : decode cX6_setWetPenalty 3 = .ok (.invokevirtual 138, 3) := by decide +kernel
theorem dX6_setWetPenalty_6 : decode cX6_setWetPenalty 6 = .ok (.ireturn, 1) := by decide +kernel
theorem dX6_setGalePenalty_0 : decode cX6_setGalePenalty 0 = .ok (.aload_n 0, 1) := by decide +kernel
theorem dX6_setGalePenalty_1 : decode cX6_setGalePenalty 1 = .ok (.iconst 2, 1) := by decide +kernel
theorem dX6_setGalePenalty_2 : decode cX6_setGalePenalty 2 = .ok (.iload_n 1, 1) := by decide +kernel
theorem dX6_setGalePenalty_3 : decode cX6_setGalePenalty 3 = .ok (.invokevirtual 138, 3) := by decide +kernel
theorem dX6_setGalePenalty_6 : decode cX6_setGalePenalty 6 = .ok (.ireturn, 1) := by decide +kernel
theorem dX6_notOne_0 : decode cX6_notOne 0 = .ok (.aload_n 0, 1) := by decide +kernel
theorem dX6_notOne_1 : decode cX6_notOne 1 = .ok (.iload_n 1, 1) := by decide +kernel
theorem dX6_notOne_2 : decode cX6_notOne 2 = .ok (.invokevirtual 110, 3) := by decide +kernel
theorem dX6_notOne_5 : decode cX6_notOne 5 = .ok (.ifCond .ne 5, 3) := by decide +kernel
theorem dX6_notOne_8 : decode cX6_notOne 8 = .ok (.iconst 1, 1) := by decide +kernel
theorem dX6_notOne_9 : decode cX6_notOne 9 = .ok (.ireturn, 1) := by decide +kernel
theorem dX6_notOne_10 : decode cX6_notOne 10 = .ok (.iload_n 2, 1) := by decide +kernel
theorem dX6_notOne_11 : decode cX6_notOne 11 = .ok (.iconst 0, 1) := by decide +kernel
theorem dX6_notOne_12 : decode cX6_notOne 12 = .ok (.iconst 3, 1) := by decide +kernel
theorem dX6_notOne_13 : decode cX6_notOne 13 = .ok (.invokestatic 54, 3) := by decide +kernel
theorem dX6_notOne_16 : decode cX6_notOne 16 = .ok (.ifCond .eq 7, 3) := by decide +kernel
theorem dX6_notOne_19 : decode cX6_notOne 19 = .ok (.iconst 0, 1) := by decide +kernel
theorem dX6_notOne_20 : decode cX6_notOne 20 = .ok (.goto 4, 3) := by decide +kernel
theorem dX6_notOne_23 : decode cX6_notOne 23 = .ok (.iconst 2, 1) := by decide +kernel
theorem dX6_notOne_24 : decode cX6_notOne 24 = .ok (.ireturn, 1) := by decide +kernel
theorem dX6_forgets_0 : decode cX6_forgets 0 = .ok (.iconst 0, 1) := by decide +kernel
theorem dX6_forgets_1 : decode cX6_forgets 1 = .ok (.istore_n 3, 1) := by decide +kernel
theorem dX6_forgets_2 : decode cX6_forgets 2 = .ok (.aload_n 0, 1) := by decide +kernel
theorem dX6_forgets_3 : decode cX6_forgets 3 = .ok (.iload_n 1, 1) := by decide +kernel
theorem dX6_forgets_4 : decode cX6_forgets 4 = .ok (.iconst 3, 1) := by decide +kernel
theorem dX6_forgets_5 : decode cX6_forgets 5 = .ok (.invokevirtual 62, 3) := by decide +kernel
theorem dX6_forgets_8 : decode cX6_forgets 8 = .ok (.istore 4, 2) := by decide +kernel
theorem dX6_forgets_10 : decode cX6_forgets 10 = .ok (.iconst 0, 1) := by decide +kernel
theorem dX6_forgets_11 : decode cX6_forgets 11 = .ok (.istore 5, 2) := by decide +kernel
theorem dX6_forgets_13 : decode cX6_forgets 13 = .ok (.iload 5, 2) := by decide +kernel
theorem dX6_forgets_15 : decode cX6_forgets 15 = .ok (.iload 4, 2) := by decide +kernel
theorem dX6_forgets_17 : decode cX6_forgets 17 = .ok (.if_icmp .ge 47, 3) := by decide +kernel
theorem dX6_forgets_20 : decode cX6_forgets 20 = .ok (.aload_n 0, 1) := by decide +kernel
theorem dX6_forgets_21 : decode cX6_forgets 21 = .ok (.iload_n 1, 1) := by decide +kernel
theorem dX6_forgets_22 : decode cX6_forgets 22 = .ok (.bipush 8, 2) := by decide +kernel
theorem dX6_forgets_24 : decode cX6_forgets 24 = .ok (.iload 5, 2) := by decide +kernel
theorem dX6_forgets_26 : decode cX6_forgets 26 = .ok (.iadd, 1) := by decide +kernel
theorem dX6_forgets_27 : decode cX6_forgets 27 = .ok (.invokevirtual 62, 3) := by decide +kernel
theorem dX6_forgets_30 : decode cX6_forgets 30 = .ok (.istore 6, 2) := by decide +kernel
theorem dX6_forgets_32 : decode cX6_forgets 32 = .ok (.iload 6, 2) := by decide +kernel
theorem dX6_forgets_34 : decode cX6_forgets 34 = .ok (.invokestatic 141, 3) := by decide +kernel
theorem dX6_forgets_37 : decode cX6_forgets 37 = .ok (.iload_n 2, 1) := by decide +kernel
theorem dX6_forgets_38 : decode cX6_forgets 38 = .ok (.if_icmp .ne 6, 3) := by decide +kernel
theorem dX6_forgets_41 : decode cX6_forgets 41 = .ok (.goto 17, 3) := by decide +kernel
theorem dX6_forgets_44 : decode cX6_forgets 44 = .ok (.aload_n 0, 1) := by decide +kernel
theorem dX6_forgets_45 : decode cX6_forgets 45 = .ok (.iload_n 1, 1) := by decide +kernel
theorem dX6_forgets_46 : decode cX6_forgets 46 = .ok (.bipush 8, 2) := by decide +kernel
theorem dX6_forgets_48 : decode cX6_forgets 48 = .ok (.iload_n 3, 1) := by decide +kernel
theorem dX6_forgets_49 : decode cX6_forgets 49 = .ok (.iadd, 1) := by decide +kernel
theorem dX6_forgets_50 : decode cX6_forgets 50 = .ok (.iload 6, 2) := by decide +kernel
theorem dX6_forgets_52 : decode cX6_forgets 52 = .ok (.invokevirtual 77, 3) := by decide +kernel
theorem dX6_forgets_55 : decode cX6_forgets 55 = .ok (.iinc 3 1, 3) := by decide +kernel
theorem dX6_forgets_58 : decode cX6_forgets 58 = .ok (.iinc 5 1, 3) := by decide +kernel
theorem dX6_forgets_61 : decode cX6_forgets 61 = .ok (.goto (-48), 3) := by decide +kernel
theorem dX6_forgets_64 : decode cX6_forgets 64 = .ok (.iload_n 3, 1) := by decide +kernel
theorem dX6_forgets_65 : decode cX6_forgets 65 = .ok (.istore 5, 2) := by decide +kernel
theorem dX6_forgets_67 : decode cX6_forgets 67 = .ok (.iload 5, 2) := by decide +kernel
theorem dX6_forgets_69 : decode cX6_forgets 69 = .ok (.iload 4, 2) := by decide +kernel
theorem dX6_forgets_71 : decode cX6_forgets 71 = .ok (.if_icmp .ge 20, 3) := by decide +kernel
theorem dX6_forgets_74 : decode cX6_forgets 74 = .ok (.aload_n 0, 1) := by decide +kernel
theorem dX6_forgets_75 : decode cX6_forgets 75 = .ok (.iload_n 1, 1) := by decide +kernel
theorem dX6_forgets_76 : decode cX6_forgets 76 = .ok (.bipush 8, 2) := by decide +kernel
theorem dX6_forgets_78 : decode cX6_forgets 78 = .ok (.iload 5, 2) := by decide +kernel
theorem dX6_forgets_80 : decode cX6_forgets 80 = .ok (.iadd, 1) := by decide +kernel
theorem dX6_forgets_81 : decode cX6_forgets 81 = .ok (.iconst 0, 1) := by decide +kernel
theorem dX6_forgets_82 : decode cX6_forgets 82 = .ok (.invokevirtual 77, 3) := by decide +kernel
theorem dX6_forgets_85 : decode cX6_forgets 85 = .ok (.iinc 5 1, 3) := by decide +kernel
theorem dX6_forgets_88 : decode cX6_forgets 88 = .ok (.goto (-21), 3) := by decide +kernel
theorem dX6_forgets_91 : decode cX6_forgets 91 = .ok (.aload_n 0, 1) := by decide +kernel
theorem dX6_forgets_92 : decode cX6_forgets 92 = .ok (.iload_n 1, 1) := by decide +kernel
theorem dX6_forgets_93 : decode cX6_forgets 93 = .ok (.iconst 3, 1) := by decide +kernel
theorem dX6_forgets_94 : decode cX6_forgets 94 = .ok (.iload_n 3, 1) := by decide +kernel
theorem dX6_forgets_95 : decode cX6_forgets 95 = .ok (.invokevirtual 77, 3) := by decide +kernel
theorem dX6_forgets_98 : decode cX6_forgets 98 = .ok (.iload 4, 2) := by decide +kernel
theorem dX6_forgets_100 : decode cX6_forgets 100 = .ok (.iload_n 3, 1) := by decide +kernel
theorem dX6_forgets_101 : decode cX6_forgets 101 = .ok (.isub, 1) := by decide +kernel
theorem dX6_forgets_102 : decode cX6_forgets 102 = .ok (.ireturn, 1) := by decide +kernel
theorem dX6_forgetRain_0 : decode cX6_forgetRain 0 = .ok (.aload_n 0, 1) := by decide +kernel
theorem dX6_forgetRain_1 : decode cX6_forgetRain 1 = .ok (.iconst 0, 1) := by decide +kernel
theorem dX6_forgetRain_2 : decode cX6_forgetRain 2 = .ok (.putfield 1, 3) := by decide +kernel
theorem dX6_forgetRain_5 : decode cX6_forgetRain 5 = .ok (.aload_n 0, 1) := by decide +kernel
theorem dX6_forgetRain_6 : decode cX6_forgetRain 6 = .ok (.iload_n 1, 1) := by decide +kernel
theorem dX6_forgetRain_7 : decode cX6_forgetRain 7 = .ok (.iload_n 2, 1) := by decide +kernel
theorem dX6_forgetRain_8 : decode cX6_forgetRain 8 = .ok (.invokevirtual 144, 3) := by decide +kernel
theorem dX6_forgetRain_11 : decode cX6_forgetRain 11 = .ok (.istore_n 3, 1) := by decide +kernel
theorem dX6_forgetRain_12 : decode cX6_forgetRain 12 = .ok (.iload_n 3, 1) := by decide +kernel
theorem dX6_forgetRain_13 : decode cX6_forgetRain 13 = .ok (.ifCond .eq 9, 3) := by decide +kernel
theorem dX6_forgetRain_16 : decode cX6_forgetRain 16 = .ok (.aload_n 0, 1) := by decide +kernel
theorem dX6_forgetRain_17 : decode cX6_forgetRain 17 = .ok (.iload_n 3, 1) := by decide +kernel
theorem dX6_forgetRain_18 : decode cX6_forgetRain 18 = .ok (.invokevirtual 84, 3) := by decide +kernel
theorem dX6_forgetRain_21 : decode cX6_forgetRain 21 = .ok (.ireturn, 1) := by decide +kernel
theorem dX6_forgetRain_22 : decode cX6_forgetRain 22 = .ok (.aload_n 0, 1) := by decide +kernel
theorem dX6_forgetRain_23 : decode cX6_forgetRain 23 = .ok (.invokevirtual 87, 3) := by decide +kernel
theorem dX6_forgetRain_26 : decode cX6_forgetRain 26 = .ok (.aload_n 0, 1) := by decide +kernel
theorem dX6_forgetRain_27 : decode cX6_forgetRain 27 = .ok (.iload_n 1, 1) := by decide +kernel
theorem dX6_forgetRain_28 : decode cX6_forgetRain 28 = .ok (.iload_n 2, 1) := by decide +kernel
theorem dX6_forgetRain_29 : decode cX6_forgetRain 29 = .ok (.invokevirtual 147, 3) := by decide +kernel
theorem dX6_forgetRain_32 : decode cX6_forgetRain 32 = .ok (.ireturn, 1) := by decide +kernel
theorem dX6_isRight_0 : decode cX6_isRight 0 = .ok (.aload_n 0, 1) := by decide +kernel
theorem dX6_isRight_1 : decode cX6_isRight 1 = .ok (.iload_n 1, 1) := by decide +kernel
theorem dX6_isRight_2 : decode cX6_isRight 2 = .ok (.iload_n 2, 1) := by decide +kernel
theorem dX6_isRight_3 : decode cX6_isRight 3 = .ok (.iload_n 3, 1) := by decide +kernel
theorem dX6_isRight_4 : decode cX6_isRight 4 = .ok (.invokevirtual 96, 3) := by decide +kernel
theorem dX6_isRight_7 : decode cX6_isRight 7 = .ok (.iconst 1, 1) := by decide +kernel
theorem dX6_isRight_8 : decode cX6_isRight 8 = .ok (.if_icmp .ne 7, 3) := by decide +kernel
theorem dX6_isRight_11 : decode cX6_isRight 11 = .ok (.iconst 1, 1) := by decide +kernel
theorem dX6_isRight_12 : decode cX6_isRight 12 = .ok (.goto 4, 3) := by decide +kernel
theorem dX6_isRight_15 : decode cX6_isRight 15 = .ok (.iconst 0, 1) := by decide +kernel
theorem dX6_isRight_16 : decode cX6_isRight 16 = .ok (.aload_n 0, 1) := by decide +kernel
theorem dX6_isRight_17 : decode cX6_isRight 17 = .ok (.iload_n 2, 1) := by decide +kernel
theorem dX6_isRight_18 : decode cX6_isRight 18 = .ok (.iload_n 3, 1) := by decide +kernel
theorem dX6_isRight_19 : decode cX6_isRight 19 = .ok (.invokevirtual 150, 3) := by decide +kernel
theorem dX6_isRight_22 : decode cX6_isRight 22 = .ok (.if_icmp .ne 7, 3) := by decide +kernel
theorem dX6_isRight_25 : decode cX6_isRight 25 = .ok (.iconst 1, 1) := by decide +kernel
theorem dX6_isRight_26 : decode cX6_isRight 26 = .ok (.goto 4, 3) := by decide +kernel
theorem dX6_isRight_29 : decode cX6_isRight 29 = .ok (.iconst 0, 1) := by decide +kernel
theorem dX6_isRight_30 : decode cX6_isRight 30 = .ok (.ireturn, 1) := by decide +kernel
theorem dX6_hasExamOf_0 : decode cX6_hasExamOf 0 = .ok (.aload_n 0, 1) := by decide +kernel
theorem dX6_hasExamOf_1 : decode cX6_hasExamOf 1 = .ok (.iload_n 1, 1) := by decide +kernel
theorem dX6_hasExamOf_2 : decode cX6_hasExamOf 2 = .ok (.bipush 7, 2) := by decide +kernel
theorem dX6_hasExamOf_4 : decode cX6_hasExamOf 4 = .ok (.invokevirtual 62, 3) := by decide +kernel
theorem dX6_hasExamOf_7 : decode cX6_hasExamOf 7 = .ok (.iload_n 2, 1) := by decide +kernel
theorem dX6_hasExamOf_8 : decode cX6_hasExamOf 8 = .ok (.ishr, 1) := by decide +kernel
theorem dX6_hasExamOf_9 : decode cX6_hasExamOf 9 = .ok (.iconst 1, 1) := by decide +kernel
theorem dX6_hasExamOf_10 : decode cX6_hasExamOf 10 = .ok (.iand, 1) := by decide +kernel
theorem dX6_hasExamOf_11 : decode cX6_hasExamOf 11 = .ok (.iconst 1, 1) := by decide +kernel
theorem dX6_hasExamOf_12 : decode cX6_hasExamOf 12 = .ok (.if_icmp .ne 7, 3) := by decide +kernel
theorem dX6_hasExamOf_15 : decode cX6_hasExamOf 15 = .ok (.iconst 1, 1) := by decide +kernel
theorem dX6_hasExamOf_16 : decode cX6_hasExamOf 16 = .ok (.goto 4, 3) := by decide +kernel
theorem dX6_hasExamOf_19 : decode cX6_hasExamOf 19 = .ok (.iconst 0, 1) := by decide +kernel
theorem dX6_hasExamOf_20 : decode cX6_hasExamOf 20 = .ok (.ireturn, 1) := by decide +kernel
theorem dX6_examines_0 : decode cX6_examines 0 = .ok (.iconst 0, 1) := by decide +kernel
theorem dX6_examines_1 : decode cX6_examines 1 = .ok (.istore_n 3, 1) := by decide +kernel
theorem dX6_examines_2 : decode cX6_examines 2 = .ok (.iconst 0, 1) := by decide +kernel
theorem dX6_examines_3 : decode cX6_examines 3 = .ok (.istore 4, 2) := by decide +kernel
theorem dX6_examines_5 : decode cX6_examines 5 = .ok (.iload 4, 2) := by decide +kernel
theorem dX6_examines_7 : decode cX6_examines 7 = .ok (.iconst 4, 1) := by decide +kernel
theorem dX6_examines_8 : decode cX6_examines 8 = .ok (.if_icmp .ge 28, 3) := by decide +kernel
theorem dX6_examines_11 : decode cX6_examines 11 = .ok (.iload_n 3, 1) := by decide +kernel
theorem dX6_examines_12 : decode cX6_examines 12 = .ok (.aload_n 0, 1) := by decide +kernel
theorem dX6_examines_13 : decode cX6_examines 13 = .ok (.iload_n 1, 1) := by decide +kernel
theorem dX6_examines_14 : decode cX6_examines 14 = .ok (.iload 4, 2) := by decide +kernel
theorem dX6_examines_16 : decode cX6_examines 16 = .ok (.iload_n 2, 1) := by decide +kernel
theorem dX6_examines_17 : decode cX6_examines 17 = .ok (.invokevirtual 153, 3) := by decide +kernel
theorem dX6_examines_20 : decode cX6_examines 20 = .ok (.ifCond .eq 7, 3) := by decide +kernel
theorem dX6_examines_23 : decode cX6_examines 23 = .ok (.iconst 1, 1) := by decide +kernel
theorem dX6_examines_24 : decode cX6_examines 24 = .ok (.goto 4, 3) := by decide +kernel
theorem dX6_examines_27 : decode cX6_examines 27 = .ok (.iconst 0, 1) := by decide +kernel
theorem dX6_examines_28 : decode cX6_examines 28 = .ok (.iadd, 1) := by decide +kernel
theorem dX6_examines_29 : decode cX6_examines 29 = .ok (.istore_n 3, 1) := by decide +kernel
theorem dX6_examines_30 : decode cX6_examines 30 = .ok (.iinc 4 1, 3) := by decide +kernel
theorem dX6_examines_33 : decode cX6_examines 33 = .ok (.goto (-28), 3) := by decide +kernel
theorem dX6_examines_36 : decode cX6_examines 36 = .ok (.iload_n 3, 1) := by decide +kernel
theorem dX6_examines_37 : decode cX6_examines 37 = .ok (.iconst 3, 1) := by decide +kernel
theorem dX6_examines_38 : decode cX6_examines 38 = .ok (.if_icmp .lt 7, 3) := by decide +kernel
theorem dX6_examines_41 : decode cX6_examines 41 = .ok (.iconst 1, 1) := by decide +kernel
theorem dX6_examines_42 : decode cX6_examines 42 = .ok (.goto 4, 3) := by decide +kernel
theorem dX6_examines_45 : decode cX6_examines 45 = .ok (.iconst 0, 1) := by decide +kernel
theorem dX6_examines_46 : decode cX6_examines 46 = .ok (.aload_n 0, 1) := by decide +kernel
theorem dX6_examines_47 : decode cX6_examines 47 = .ok (.iload_n 1, 1) := by decide +kernel
theorem dX6_examines_48 : decode cX6_examines 48 = .ok (.iload_n 2, 1) := by decide +kernel
theorem dX6_examines_49 : decode cX6_examines 49 = .ok (.invokevirtual 156, 3) := by decide +kernel
theorem dX6_examines_52 : decode cX6_examines 52 = .ok (.if_icmp .eq 25, 3) := by decide +kernel
theorem dX6_examines_55 : decode cX6_examines 55 = .ok (.aload_n 0, 1) := by decide +kernel
theorem dX6_examines_56 : decode cX6_examines 56 = .ok (.iload_n 1, 1) := by decide +kernel
theorem dX6_examines_57 : decode cX6_examines 57 = .ok (.bipush 7, 2) := by decide +kernel
theorem dX6_examines_59 : decode cX6_examines 59 = .ok (.iload_n 3, 1) := by decide +kernel
theorem dX6_examines_60 : decode cX6_examines 60 = .ok (.iconst 3, 1) := by decide +kernel
theorem dX6_examines_61 : decode cX6_examines 61 = .ok (.if_icmp .lt 9, 3) := by decide +kernel
theorem dX6_examines_64 : decode cX6_examines 64 = .ok (.iconst 1, 1) := by decide +kernel
theorem dX6_examines_65 : decode cX6_examines 65 = .ok (.iload_n 2, 1) := by decide +kernel
theorem dX6_examines_66 : decode cX6_examines 66 = .ok (.ishl, 1) := by decide +kernel
theorem dX6_examines_67 : decode cX6_examines 67 = .ok (.goto 7, 3) := by decide +kernel
theorem dX6_examines_70 : decode cX6_examines 70 = .ok (.iconst 1, 1) := by decide +kernel
theorem dX6_examines_71 : decode cX6_examines 71 = .ok (.iload_n 2, 1) := by decide +kernel
theorem dX6_examines_72 : decode cX6_examines 72 = .ok (.ishl, 1) := by decide +kernel
theorem dX6_examines_73 : decode cX6_examines 73 = .ok (.ineg, 1) := by decide +kernel
theorem dX6_examines_74 : decode cX6_examines 74 = .ok (.invokevirtual 93, 3) := by decide +kernel
theorem dX6_examines_77 : decode cX6_examines 77 = .ok (.iload_n 3, 1) := by decide +kernel
theorem dX6_examines_78 : decode cX6_examines 78 = .ok (.ireturn, 1) := by decide +kernel
theorem dX6_examine_0 : decode cX6_examine 0 = .ok (.aload_n 0, 1) := by decide +kernel
theorem dX6_examine_1 : decode cX6_examine 1 = .ok (.iconst 0, 1) := by decide +kernel
theorem dX6_examine_2 : decode cX6_examine 2 = .ok (.putfield 1, 3) := by decide +kernel
theorem dX6_examine_5 : decode cX6_examine 5 = .ok (.aload_n 0, 1) := by decide +kernel
theorem dX6_examine_6 : decode cX6_examine 6 = .ok (.iload_n 1, 1) := by decide +kernel
theorem dX6_examine_7 : decode cX6_examine 7 = .ok (.iload_n 2, 1) := by decide +kernel
theorem dX6_examine_8 : decode cX6_examine 8 = .ok (.invokevirtual 144, 3) := by decide +kernel
theorem dX6_examine_11 : decode cX6_examine 11 = .ok (.istore_n 3, 1) := by decide +kernel
theorem dX6_examine_12 : decode cX6_examine 12 = .ok (.iload_n 3, 1) := by decide +kernel
theorem dX6_examine_13 : decode cX6_examine 13 = .ok (.ifCond .eq 9, 3) := by decide +kernel
theorem dX6_examine_16 : decode cX6_examine 16 = .ok (.aload_n 0, 1) := by decide +kernel
theorem dX6_examine_17 : decode cX6_examine 17 = .ok (.iload_n 3, 1) := by decide +kernel
theorem dX6_examine_18 : decode cX6_examine 18 = .ok (.invokevirtual 84, 3) := by decide +kernel
theorem dX6_examine_21 : decode cX6_examine 21 = .ok (.ireturn, 1) := by decide +kernel
theorem dX6_examine_22 : decode cX6_examine 22 = .ok (.aload_n 0, 1) := by decide +kernel
theorem dX6_examine_23 : decode cX6_examine 23 = .ok (.invokevirtual 87, 3) := by decide +kernel
theorem dX6_examine_26 : decode cX6_examine 26 = .ok (.aload_n 0, 1) := by decide +kernel
theorem dX6_examine_27 : decode cX6_examine 27 = .ok (.iload_n 1, 1) := by decide +kernel
theorem dX6_examine_28 : decode cX6_examine 28 = .ok (.iload_n 2, 1) := by decide +kernel
theorem dX6_examine_29 : decode cX6_examine 29 = .ok (.invokevirtual 159, 3) := by decide +kernel
theorem dX6_examine_32 : decode cX6_examine 32 = .ok (.ireturn, 1) := by decide +kernel
theorem dX6_notEnd_0 : decode cX6_notEnd 0 = .ok (.aload_n 0, 1) := by decide +kernel
theorem dX6_notEnd_1 : decode cX6_notEnd 1 = .ok (.getfield 13, 3) := by decide +kernel
theorem dX6_notEnd_4 : decode cX6_notEnd 4 = .ok (.iconst 0, 1) := by decide +kernel
theorem dX6_notEnd_5 : decode cX6_notEnd 5 = .ok (.iaload, 1) := by decide +kernel
theorem dX6_notEnd_6 : decode cX6_notEnd 6 = .ok (.ifCond .ne 7, 3) := by decide +kernel
theorem dX6_notEnd_9 : decode cX6_notEnd 9 = .ok (.iconst 1, 1) := by decide +kernel
theorem dX6_notEnd_10 : decode cX6_notEnd 10 = .ok (.goto 4, 3) := by decide +kernel
theorem dX6_notEnd_13 : decode cX6_notEnd 13 = .ok (.iconst 0, 1) := by decide +kernel
theorem dX6_notEnd_14 : decode cX6_notEnd 14 = .ok (.ireturn, 1) := by decide +kernel
theorem dX6_endsTerm_0 : decode cX6_endsTerm 0 = .ok (.iconst 0, 1) := by decide +kernel
theorem dX6_endsTerm_1 : decode cX6_endsTerm 1 = .ok (.istore_n 1, 1) := by decide +kernel
theorem dX6_endsTerm_2 : decode cX6_endsTerm 2 = .ok (.iconst 1, 1) := by decide +kernel
theorem dX6_endsTerm_3 : decode cX6_endsTerm 3 = .ok (.istore_n 2, 1) := by decide +kernel
theorem dX6_endsTerm_4 : decode cX6_endsTerm 4 = .ok (.iload_n 2, 1) := by decide +kernel
theorem dX6_endsTerm_5 : decode cX6_endsTerm 5 = .ok (.aload_n 0, 1) := by decide +kernel
theorem dX6_endsTerm_6 : decode cX6_endsTerm 6 = .ok (.getfield 13, 3) := by decide +kernel
theorem dX6_endsTerm_9 : decode cX6_endsTerm 9 = .ok (.iconst 0, 1) := by decide +kernel
theorem dX6_endsTerm_10 : decode cX6_endsTerm 10 = .ok (.iaload, 1) := by decide +kernel
theorem dX6_endsTerm_11 : decode cX6_endsTerm 11 = .ok (.if_icmp .ge 26, 3) := by decide +kernel
theorem dX6_endsTerm_14 : decode cX6_endsTerm 14 = .ok (.aload_n 0, 1) := by decide +kernel
theorem dX6_endsTerm_15 : decode cX6_endsTerm 15 = .ok (.iload_n 2, 1) := by decide +kernel
theorem dX6_endsTerm_16 : decode cX6_endsTerm 16 = .ok (.iconst 5, 1) := by decide +kernel
theorem dX6_endsTerm_17 : decode cX6_endsTerm 17 = .ok (.invokevirtual 62, 3) := by decide +kernel
theorem dX6_endsTerm_20 : decode cX6_endsTerm 20 = .ok (.aload_n 0, 1) := by decide +kernel
theorem dX6_endsTerm_21 : decode cX6_endsTerm 21 = .ok (.iload_n 1, 1) := by decide +kernel
theorem dX6_endsTerm_22 : decode cX6_endsTerm 22 = .ok (.iconst 5, 1) := by decide +kernel
theorem dX6_endsTerm_23 : decode cX6_endsTerm 23 = .ok (.invokevirtual 62, 3) := by decide +kernel
theorem dX6_endsTerm_26 : decode cX6_endsTerm 26 = .ok (.if_icmp .le 5, 3) := by decide +kernel
theorem dX6_endsTerm_29 : decode cX6_endsTerm 29 = .ok (.iload_n 2, 1) := by decide +kernel
theorem dX6_endsTerm_30 : decode cX6_endsTerm 30 = .ok (.istore_n 1, 1) := by decide +kernel
theorem dX6_endsTerm_31 : decode cX6_endsTerm 31 = .ok (.iinc 2 1, 3) := by decide +kernel
theorem dX6_endsTerm_34 : decode cX6_endsTerm 34 = .ok (.goto (-30), 3) := by decide +kernel
theorem dX6_endsTerm_37 : decode cX6_endsTerm 37 = .ok (.aload_n 0, 1) := by decide +kernel
theorem dX6_endsTerm_38 : decode cX6_endsTerm 38 = .ok (.iload_n 1, 1) := by decide +kernel
theorem dX6_endsTerm_39 : decode cX6_endsTerm 39 = .ok (.bipush 6, 2) := by decide +kernel
theorem dX6_endsTerm_41 : decode cX6_endsTerm 41 = .ok (.iconst 1, 1) := by decide +kernel
theorem dX6_endsTerm_42 : decode cX6_endsTerm 42 = .ok (.invokevirtual 93, 3) := by decide +kernel
theorem dX6_endsTerm_45 : decode cX6_endsTerm 45 = .ok (.iconst 0, 1) := by decide +kernel
theorem dX6_endsTerm_46 : decode cX6_endsTerm 46 = .ok (.istore_n 2, 1) := by decide +kernel
theorem dX6_endsTerm_47 : decode cX6_endsTerm 47 = .ok (.iload_n 2, 1) := by decide +kernel
theorem dX6_endsTerm_48 : decode cX6_endsTerm 48 = .ok (.aload_n 0, 1) := by decide +kernel
theorem dX6_endsTerm_49 : decode cX6_endsTerm 49 = .ok (.getfield 13, 3) := by decide +kernel
theorem dX6_endsTerm_52 : decode cX6_endsTerm 52 = .ok (.iconst 0, 1) := by decide +kernel
theorem dX6_endsTerm_53 : decode cX6_endsTerm 53 = .ok (.iaload, 1) := by decide +kernel
theorem dX6_endsTerm_54 : decode cX6_endsTerm 54 = .ok (.if_icmp .ge 16, 3) := by decide +kernel
theorem dX6_endsTerm_57 : decode cX6_endsTerm 57 = .ok (.aload_n 0, 1) := by decide +kernel
theorem dX6_endsTerm_58 : decode cX6_endsTerm 58 = .ok (.iload_n 2, 1) := by decide +kernel
theorem dX6_endsTerm_59 : decode cX6_endsTerm 59 = .ok (.iconst 5, 1) := by decide +kernel
theorem dX6_endsTerm_60 : decode cX6_endsTerm 60 = .ok (.iconst 0, 1) := by decide +kernel
theorem dX6_endsTerm_61 : decode cX6_endsTerm 61 = .ok (.invokevirtual 77, 3) := by decide +kernel
theorem dX6_endsTerm_64 : decode cX6_endsTerm 64 = .ok (.iinc 2 1, 3) := by decide +kernel
theorem dX6_endsTerm_67 : decode cX6_endsTerm 67 = .ok (.goto (-20), 3) := by decide +kernel
theorem dX6_endsTerm_70 : decode cX6_endsTerm 70 = .ok (.aload_n 0, 1) := by decide +kernel
theorem dX6_endsTerm_71 : decode cX6_endsTerm 71 = .ok (.getfield 13, 3) := by decide +kernel
theorem dX6_endsTerm_74 : decode cX6_endsTerm 74 = .ok (.iconst 3, 1) := by decide +kernel
theorem dX6_endsTerm_75 : decode cX6_endsTerm 75 = .ok (.dup2, 1) := by decide +kernel
theorem dX6_endsTerm_76 : decode cX6_endsTerm 76 = .ok (.iaload, 1) := by decide +kernel
theorem dX6_endsTerm_77 : decode cX6_endsTerm 77 = .ok (.iconst 1, 1) := by decide +kernel
theorem dX6_endsTerm_78 : decode cX6_endsTerm 78 = .ok (.iadd, 1) := by decide +kernel
theorem dX6_endsTerm_79 : decode cX6_endsTerm 79 = .ok (.iastore, 1) := by decide +kernel
theorem dX6_endsTerm_80 : decode cX6_endsTerm 80 = .ok (.iload_n 1, 1) := by decide +kernel
theorem dX6_endsTerm_81 : decode cX6_endsTerm 81 = .ok (.ireturn, 1) := by decide +kernel
theorem dX6_endTerm_0 : decode cX6_endTerm 0 = .ok (.aload_n 0, 1) := by decide +kernel
theorem dX6_endTerm_1 : decode cX6_endTerm 1 = .ok (.iconst 0, 1) := by decide +kernel
theorem dX6_endTerm_2 : decode cX6_endTerm 2 = .ok (.putfield 1, 3) := by decide +kernel
theorem dX6_endTerm_5 : decode cX6_endTerm 5 = .ok (.aload_n 0, 1) := by decide +kernel
theorem dX6_endTerm_6 : decode cX6_endTerm 6 = .ok (.invokevirtual 162, 3) := by decide +kernel
theorem dX6_endTerm_9 : decode cX6_endTerm 9 = .ok (.ifCond .eq 9, 3) := by decide +kernel
theorem dX6_endTerm_12 : decode cX6_endTerm 12 = .ok (.aload_n 0, 1) := by decide +kernel
theorem dX6_endTerm_13 : decode cX6_endTerm 13 = .ok (.iconst 1, 1) := by decide +kernel
theorem dX6_endTerm_14 : decode cX6_endTerm 14 = .ok (.invokevirtual 84, 3) := by decide +kernel
theorem dX6_endTerm_17 : decode cX6_endTerm 17 = .ok (.ireturn, 1) := by decide +kernel
theorem dX6_endTerm_18 : decode cX6_endTerm 18 = .ok (.aload_n 0, 1) := by decide +kernel
theorem dX6_endTerm_19 : decode cX6_endTerm 19 = .ok (.invokevirtual 87, 3) := by decide +kernel
theorem dX6_endTerm_22 : decode cX6_endTerm 22 = .ok (.aload_n 0, 1) := by decide +kernel
theorem dX6_endTerm_23 : decode cX6_endTerm 23 = .ok (.invokevirtual 166, 3) := by decide +kernel
theorem dX6_endTerm_26 : decode cX6_endTerm 26 = .ok (.ireturn, 1) := by decide +kernel
theorem dX6_asks_0 : decode cX6_asks 0 = .ok (.aload_n 0, 1) := by decide +kernel
theorem dX6_asks_1 : decode cX6_asks 1 = .ok (.iconst 0, 1) := by decide +kernel
theorem dX6_asks_2 : decode cX6_asks 2 = .ok (.putfield 1, 3) := by decide +kernel
theorem dX6_asks_5 : decode cX6_asks 5 = .ok (.aload_n 0, 1) := by decide +kernel
theorem dX6_asks_6 : decode cX6_asks 6 = .ok (.getfield 13, 3) := by decide +kernel
theorem dX6_asks_9 : decode cX6_asks 9 = .ok (.iload_n 1, 1) := by decide +kernel
theorem dX6_asks_10 : decode cX6_asks 10 = .ok (.iaload, 1) := by decide +kernel
theorem dX6_asks_11 : decode cX6_asks 11 = .ok (.ireturn, 1) := by decide +kernel
theorem dX6_umbrellaCount_0 : decode cX6_umbrellaCount 0 = .ok (.aload_n 0, 1) := by decide +kernel
theorem dX6_umbrellaCount_1 : decode cX6_umbrellaCount 1 = .ok (.iconst 0, 1) := by decide +kernel
theorem dX6_umbrellaCount_2 : decode cX6_umbrellaCount 2 = .ok (.invokevirtual 169, 3) := by decide +kernel
theorem dX6_umbrellaCount_5 : decode cX6_umbrellaCount 5 = .ok (.ireturn, 1) := by decide +kernel
theorem dX6_asksUmbrella_0 : decode cX6_asksUmbrella 0 = .ok (.aload_n 0, 1) := by decide +kernel
theorem dX6_asksUmbrella_1 : decode cX6_asksUmbrella 1 = .ok (.iconst 0, 1) := by decide +kernel
theorem dX6_asksUmbrella_2 : decode cX6_asksUmbrella 2 = .ok (.putfield 1, 3) := by decide +kernel
theorem dX6_asksUmbrella_5 : decode cX6_asksUmbrella 5 = .ok (.aload_n 0, 1) := by decide +kernel
theorem dX6_asksUmbrella_6 : decode cX6_asksUmbrella 6 = .ok (.iload_n 1, 1) := by decide +kernel
theorem dX6_asksUmbrella_7 : decode cX6_asksUmbrella 7 = .ok (.invokevirtual 110, 3) := by decide +kernel
theorem dX6_asksUmbrella_10 : decode cX6_asksUmbrella 10 = .ok (.ifCond .eq 12, 3) := by decide +kernel
theorem dX6_asksUmbrella_13 : decode cX6_asksUmbrella 13 = .ok (.aload_n 0, 1) := by decide +kernel
theorem dX6_asksUmbrella_14 : decode cX6_asksUmbrella 14 = .ok (.iload_n 1, 1) := by decide +kernel
theorem dX6_asksUmbrella_15 : decode cX6_asksUmbrella 15 = .ok (.iload_n 2, 1) := by decide +kernel
theorem dX6_asksUmbrella_16 : decode cX6_asksUmbrella 16 = .ok (.invokevirtual 62, 3) := by decide +kernel
theorem dX6_asksUmbrella_19 : decode cX6_asksUmbrella 19 = .ok (.goto 8, 3) := by decide +kernel
theorem dX6_asksUmbrella_22 : decode cX6_asksUmbrella 22 = .ok (.aload_n 0, 1) := by decide +kernel
theorem dX6_asksUmbrella_23 : decode cX6_asksUmbrella 23 = .ok (.iconst 1, 1) := by decide +kernel
theorem dX6_asksUmbrella_24 : decode cX6_asksUmbrella 24 = .ok (.invokevirtual 84, 3) := by decide +kernel
theorem dX6_asksUmbrella_27 : decode cX6_asksUmbrella 27 = .ok (.ireturn, 1) := by decide +kernel
theorem dX6_memory_0 : decode cX6_memory 0 = .ok (.aload_n 0, 1) := by decide +kernel
theorem dX6_memory_1 : decode cX6_memory 1 = .ok (.iload_n 1, 1) := by decide +kernel
theorem dX6_memory_2 : decode cX6_memory 2 = .ok (.iconst 0, 1) := by decide +kernel
theorem dX6_memory_3 : decode cX6_memory 3 = .ok (.invokevirtual 172, 3) := by decide +kernel
theorem dX6_memory_6 : decode cX6_memory 6 = .ok (.ireturn, 1) := by decide +kernel
theorem dX6_period_0 : decode cX6_period 0 = .ok (.aload_n 0, 1) := by decide +kernel
theorem dX6_period_1 : decode cX6_period 1 = .ok (.iload_n 1, 1) := by decide +kernel
theorem dX6_period_2 : decode cX6_period 2 = .ok (.iconst 1, 1) := by decide +kernel
theorem dX6_period_3 : decode cX6_period 3 = .ok (.invokevirtual 172, 3) := by decide +kernel
theorem dX6_period_6 : decode cX6_period 6 = .ok (.ireturn, 1) := by decide +kernel
theorem dX6_trials_0 : decode cX6_trials 0 = .ok (.aload_n 0, 1) := by decide +kernel
theorem dX6_trials_1 : decode cX6_trials 1 = .ok (.iload_n 1, 1) := by decide +kernel
theorem dX6_trials_2 : decode cX6_trials 2 = .ok (.iconst 2, 1) := by decide +kernel
theorem dX6_trials_3 : decode cX6_trials 3 = .ok (.invokevirtual 172, 3) := by decide +kernel
theorem dX6_trials_6 : decode cX6_trials 6 = .ok (.ireturn, 1) := by decide +kernel
theorem dX6_rememberedTrials_0 : decode cX6_rememberedTrials 0 = .ok (.aload_n 0, 1) := by decide +kernel
theorem dX6_rememberedTrials_1 : decode cX6_rememberedTrials 1 = .ok (.iload_n 1, 1) := by decide +kernel
theorem dX6_rememberedTrials_2 : decode cX6_rememberedTrials 2 = .ok (.iconst 3, 1) := by decide +kernel
theorem dX6_rememberedTrials_3 : decode cX6_rememberedTrials 3 = .ok (.invokevirtual 172, 3) := by decide +kernel
theorem dX6_rememberedTrials_6 : decode cX6_rememberedTrials 6 = .ok (.ireturn, 1) := by decide +kernel
theorem dX6_trialAt_0 : decode cX6_trialAt 0 = .ok (.aload_n 0, 1) := by decide +kernel
theorem dX6_trialAt_1 : decode cX6_trialAt 1 = .ok (.iconst 0, 1) := by decide +kernel
theorem dX6_trialAt_2 : decode cX6_trialAt 2 = .ok (.putfield 1, 3) := by decide +kernel
theorem dX6_trialAt_5 : decode cX6_trialAt 5 = .ok (.aload_n 0, 1) := by decide +kernel
theorem dX6_trialAt_6 : decode cX6_trialAt 6 = .ok (.iload_n 1, 1) := by decide +kernel
theorem dX6_trialAt_7 : decode cX6_trialAt 7 = .ok (.invokevirtual 110, 3) := by decide +kernel
theorem dX6_trialAt_10 : decode cX6_trialAt 10 = .ok (.ifCond .ne 9, 3) := by decide +kernel
theorem dX6_trialAt_13 : decode cX6_trialAt 13 = .ok (.aload_n 0, 1) := by decide +kernel
theorem dX6_trialAt_14 : decode cX6_trialAt 14 = .ok (.iconst 1, 1) := by decide +kernel
theorem dX6_trialAt_15 : decode cX6_trialAt 15 = .ok (.invokevirtual 84, 3) := by decide +kernel
theorem dX6_trialAt_18 : decode cX6_trialAt 18 = .ok (.ireturn, 1) := by decide +kernel
theorem dX6_trialAt_19 : decode cX6_trialAt 19 = .ok (.iload_n 2, 1) := by decide +kernel
theorem dX6_trialAt_20 : decode cX6_trialAt 20 = .ok (.iconst 0, 1) := by decide +kernel
theorem dX6_trialAt_21 : decode cX6_trialAt 21 = .ok (.aload_n 0, 1) := by decide +kernel
theorem dX6_trialAt_22 : decode cX6_trialAt 22 = .ok (.iload_n 1, 1) := by decide +kernel
theorem dX6_trialAt_23 : decode cX6_trialAt 23 = .ok (.iconst 3, 1) := by decide +kernel
theorem dX6_trialAt_24 : decode cX6_trialAt 24 = .ok (.invokevirtual 62, 3) := by decide +kernel
theorem dX6_trialAt_27 : decode cX6_trialAt 27 = .ok (.iconst 1, 1) := by decide +kernel
theorem dX6_trialAt_28 : decode cX6_trialAt 28 = .ok (.isub, 1) := by decide +kernel
theorem dX6_trialAt_29 : decode cX6_trialAt 29 = .ok (.invokestatic 54, 3) := by decide +kernel
theorem dX6_trialAt_32 : decode cX6_trialAt 32 = .ok (.ifCond .ne 9, 3) := by decide +kernel
theorem dX6_trialAt_35 : decode cX6_trialAt 35 = .ok (.aload_n 0, 1) := by decide +kernel
theorem dX6_trialAt_36 : decode cX6_trialAt 36 = .ok (.iconst 2, 1) := by decide +kernel
theorem dX6_trialAt_37 : decode cX6_trialAt 37 = .ok (.invokevirtual 84, 3) := by decide +kernel
theorem dX6_trialAt_40 : decode cX6_trialAt 40 = .ok (.ireturn, 1) := by decide +kernel
theorem dX6_trialAt_41 : decode cX6_trialAt 41 = .ok (.aload_n 0, 1) := by decide +kernel
theorem dX6_trialAt_42 : decode cX6_trialAt 42 = .ok (.iload_n 1, 1) := by decide +kernel
theorem dX6_trialAt_43 : decode cX6_trialAt 43 = .ok (.bipush 8, 2) := by decide +kernel
theorem dX6_trialAt_45 : decode cX6_trialAt 45 = .ok (.aload_n 0, 1) := by decide +kernel
theorem dX6_trialAt_46 : decode cX6_trialAt 46 = .ok (.iload_n 1, 1) := by decide +kernel
theorem dX6_trialAt_47 : decode cX6_trialAt 47 = .ok (.iconst 3, 1) := by decide +kernel
theorem dX6_trialAt_48 : decode cX6_trialAt 48 = .ok (.invokevirtual 62, 3) := by decide +kernel
theorem dX6_trialAt_51 : decode cX6_trialAt 51 = .ok (.iadd, 1) := by decide +kernel
theorem dX6_trialAt_52 : decode cX6_trialAt 52 = .ok (.iconst 1, 1) := by decide +kernel
theorem dX6_trialAt_53 : decode cX6_trialAt 53 = .ok (.isub, 1) := by decide +kernel
theorem dX6_trialAt_54 : decode cX6_trialAt 54 = .ok (.iload_n 2, 1) := by decide +kernel
theorem dX6_trialAt_55 : decode cX6_trialAt 55 = .ok (.isub, 1) := by decide +kernel
theorem dX6_trialAt_56 : decode cX6_trialAt 56 = .ok (.invokevirtual 62, 3) := by decide +kernel
theorem dX6_trialAt_59 : decode cX6_trialAt 59 = .ok (.ireturn, 1) := by decide +kernel
theorem dX6_trialRain_0 : decode cX6_trialRain 0 = .ok (.aload_n 0, 1) := by decide +kernel
theorem dX6_trialRain_1 : decode cX6_trialRain 1 = .ok (.iload_n 1, 1) := by decide +kernel
theorem dX6_trialRain_2 : decode cX6_trialRain 2 = .ok (.iload_n 2, 1) := by decide +kernel
theorem dX6_trialRain_3 : decode cX6_trialRain 3 = .ok (.invokevirtual 175, 3) := by decide +kernel
theorem dX6_trialRain_6 : decode cX6_trialRain 6 = .ok (.invokestatic 141, 3) := by decide +kernel
theorem dX6_trialRain_9 : decode cX6_trialRain 9 = .ok (.ireturn, 1) := by decide +kernel
theorem dX6_trialOpened_0 : decode cX6_trialOpened 0 = .ok (.aload_n 0, 1) := by decide +kernel
theorem dX6_trialOpened_1 : decode cX6_trialOpened 1 = .ok (.iload_n 1, 1) := by decide +kernel
theorem dX6_trialOpened_2 : decode cX6_trialOpened 2 = .ok (.iload_n 2, 1) := by decide +kernel
theorem dX6_trialOpened_3 : decode cX6_trialOpened 3 = .ok (.invokevirtual 175, 3) := by decide +kernel
theorem dX6_trialOpened_6 : decode cX6_trialOpened 6 = .ok (.bipush 16, 2) := by decide +kernel
theorem dX6_trialOpened_8 : decode cX6_trialOpened 8 = .ok (.idiv, 1) := by decide +kernel
theorem dX6_trialOpened_9 : decode cX6_trialOpened 9 = .ok (.iconst 2, 1) := by decide +kernel
theorem dX6_trialOpened_10 : decode cX6_trialOpened 10 = .ok (.irem, 1) := by decide +kernel
theorem dX6_trialOpened_11 : decode cX6_trialOpened 11 = .ok (.iconst 1, 1) := by decide +kernel
theorem dX6_trialOpened_12 : decode cX6_trialOpened 12 = .ok (.if_icmp .ne 7, 3) := by decide +kernel
theorem dX6_trialOpened_15 : decode cX6_trialOpened 15 = .ok (.iconst 1, 1) := by decide +kernel
theorem dX6_trialOpened_16 : decode cX6_trialOpened 16 = .ok (.goto 4, 3) := by decide +kernel
theorem dX6_trialOpened_19 : decode cX6_trialOpened 19 = .ok (.iconst 0, 1) := by decide +kernel
theorem dX6_trialOpened_20 : decode cX6_trialOpened 20 = .ok (.ireturn, 1) := by decide +kernel
theorem dX6_trialReward_0 : decode cX6_trialReward 0 = .ok (.aload_n 0, 1) := by decide +kernel
theorem dX6_trialReward_1 : decode cX6_trialReward 1 = .ok (.iload_n 1, 1) := by decide +kernel
theorem dX6_trialReward_2 : decode cX6_trialReward 2 = .ok (.iload_n 2, 1) := by decide +kernel
theorem dX6_trialReward_3 : decode cX6_trialReward 3 = .ok (.invokevirtual 175, 3) := by decide +kernel
theorem dX6_trialReward_6 : decode cX6_trialReward 6 = .ok (.istore_n 3, 1) := by decide +kernel
theorem dX6_trialReward_7 : decode cX6_trialReward 7 = .ok (.aload_n 0, 1) := by decide +kernel
theorem dX6_trialReward_8 : decode cX6_trialReward 8 = .ok (.getfield 1, 3) := by decide +kernel
theorem dX6_trialReward_11 : decode cX6_trialReward 11 = .ok (.ifCond .eq 7, 3) := by decide +kernel
theorem dX6_trialReward_14 : decode cX6_trialReward 14 = .ok (.iconst 0, 1) := by decide +kernel
theorem dX6_trialReward_15 : decode cX6_trialReward 15 = .ok (.goto 7, 3) := by decide +kernel
theorem dX6_trialReward_18 : decode cX6_trialReward 18 = .ok (.iload_n 3, 1) := by decide +kernel
theorem dX6_trialReward_19 : decode cX6_trialReward 19 = .ok (.invokestatic 66, 3) := by decide +kernel
theorem dX6_trialReward_22 : decode cX6_trialReward 22 = .ok (.ireturn, 1) := by decide +kernel
theorem dX6_reward_0 : decode cX6_reward 0 = .ok (.aload_n 0, 1) := by decide +kernel
theorem dX6_reward_1 : decode cX6_reward 1 = .ok (.iconst 0, 1) := by decide +kernel
theorem dX6_reward_2 : decode cX6_reward 2 = .ok (.putfield 1, 3) := by decide +kernel
theorem dX6_reward_5 : decode cX6_reward 5 = .ok (.iload_n 1, 1) := by decide +kernel
theorem dX6_reward_6 : decode cX6_reward 6 = .ok (.iload_n 2, 1) := by decide +kernel
theorem dX6_reward_7 : decode cX6_reward 7 = .ok (.invokestatic 113, 3) := by decide +kernel
theorem dX6_reward_10 : decode cX6_reward 10 = .ok (.ifCond .eq 21, 3) := by decide +kernel
theorem dX6_reward_13 : decode cX6_reward 13 = .ok (.aload_n 0, 1) := by decide +kernel
theorem dX6_reward_14 : decode cX6_reward 14 = .ok (.iload_n 1, 1) := by decide +kernel
theorem dX6_reward_15 : decode cX6_reward 15 = .ok (.iload_n 2, 1) := by decide +kernel
theorem dX6_reward_16 : decode cX6_reward 16 = .ok (.iload_n 3, 1) := by decide +kernel
theorem dX6_reward_17 : decode cX6_reward 17 = .ok (.ifCond .eq 7, 3) := by decide +kernel
theorem dX6_reward_20 : decode cX6_reward 20 = .ok (.iconst 1, 1) := by decide +kernel
theorem dX6_reward_21 : decode cX6_reward 21 = .ok (.goto 4, 3) := by decide +kernel
theorem dX6_reward_24 : decode cX6_reward 24 = .ok (.iconst 0, 1) := by decide +kernel
theorem dX6_reward_25 : decode cX6_reward 25 = .ok (.invokevirtual 58, 3) := by decide +kernel
theorem dX6_reward_28 : decode cX6_reward 28 = .ok (.goto 8, 3) := by decide +kernel
theorem dX6_reward_31 : decode cX6_reward 31 = .ok (.aload_n 0, 1) := by decide +kernel
theorem dX6_reward_32 : decode cX6_reward 32 = .ok (.iconst 1, 1) := by decide +kernel
theorem dX6_reward_33 : decode cX6_reward 33 = .ok (.invokevirtual 84, 3) := by decide +kernel
theorem dX6_reward_36 : decode cX6_reward 36 = .ok (.ireturn, 1) := by decide +kernel
theorem dX6_shouldOpen_0 : decode cX6_shouldOpen 0 = .ok (.aload_n 0, 1) := by decide +kernel
theorem dX6_shouldOpen_1 : decode cX6_shouldOpen 1 = .ok (.iconst 0, 1) := by decide +kernel
theorem dX6_shouldOpen_2 : decode cX6_shouldOpen 2 = .ok (.putfield 1, 3) := by decide +kernel
theorem dX6_shouldOpen_5 : decode cX6_shouldOpen 5 = .ok (.iload_n 1, 1) := by decide +kernel
theorem dX6_shouldOpen_6 : decode cX6_shouldOpen 6 = .ok (.iload_n 2, 1) := by decide +kernel
theorem dX6_shouldOpen_7 : decode cX6_shouldOpen 7 = .ok (.invokestatic 113, 3) := by decide +kernel
theorem dX6_shouldOpen_10 : decode cX6_shouldOpen 10 = .ok (.ifCond .ne 17, 3) := by decide +kernel
theorem dX6_shouldOpen_13 : decode cX6_shouldOpen 13 = .ok (.aload_n 0, 1) := by decide +kernel
theorem dX6_shouldOpen_14 : decode cX6_shouldOpen 14 = .ok (.iconst 1, 1) := by decide +kernel
theorem dX6_shouldOpen_15 : decode cX6_shouldOpen 15 = .ok (.invokevirtual 84, 3) := by decide +kernel
theorem dX6_shouldOpen_18 : decode cX6_shouldOpen 18 = .ok (.ifCond .le 7, 3) := by decide +kernel
theorem dX6_shouldOpen_21 : decode cX6_shouldOpen 21 = .ok (.iconst 1, 1) := by decide +kernel
theorem dX6_shouldOpen_22 : decode cX6_shouldOpen 22 = .ok (.goto 4, 3) := by decide +kernel
theorem dX6_shouldOpen_25 : decode cX6_shouldOpen 25 = .ok (.iconst 0, 1) := by decide +kernel
theorem dX6_shouldOpen_26 : decode cX6_shouldOpen 26 = .ok (.ireturn, 1) := by decide +kernel
theorem dX6_shouldOpen_27 : decode cX6_shouldOpen 27 = .ok (.aload_n 0, 1) := by decide +kernel
theorem dX6_shouldOpen_28 : decode cX6_shouldOpen 28 = .ok (.iload_n 1, 1) := by decide +kernel
theorem dX6_shouldOpen_29 : decode cX6_shouldOpen 29 = .ok (.iload_n 2, 1) := by decide +kernel
theorem dX6_shouldOpen_30 : decode cX6_shouldOpen 30 = .ok (.invokevirtual 150, 3) := by decide +kernel
theorem dX6_shouldOpen_33 : decode cX6_shouldOpen 33 = .ok (.ireturn, 1) := by decide +kernel
theorem dX6_notAsk_0 : decode cX6_notAsk 0 = .ok (.aload_n 0, 1) := by decide +kernel
theorem dX6_notAsk_1 : decode cX6_notAsk 1 = .ok (.iload_n 1, 1) := by decide +kernel
theorem dX6_notAsk_2 : decode cX6_notAsk 2 = .ok (.iload_n 2, 1) := by decide +kernel
theorem dX6_notAsk_3 : decode cX6_notAsk 3 = .ok (.iload_n 3, 1) := by decide +kernel
theorem dX6_notAsk_4 : decode cX6_notAsk 4 = .ok (.iconst 1, 1) := by decide +kernel
theorem dX6_notAsk_5 : decode cX6_notAsk 5 = .ok (.invokevirtual 120, 3) := by decide +kernel
theorem dX6_notAsk_8 : decode cX6_notAsk 8 = .ok (.ireturn, 1) := by decide +kernel
theorem dX6_wouldOpen_0 : decode cX6_wouldOpen 0 = .ok (.aload_n 0, 1) := by decide +kernel
theorem dX6_wouldOpen_1 : decode cX6_wouldOpen 1 = .ok (.iconst 0, 1) := by decide +kernel
theorem dX6_wouldOpen_2 : decode cX6_wouldOpen 2 = .ok (.putfield 1, 3) := by decide +kernel
theorem dX6_wouldOpen_5 : decode cX6_wouldOpen 5 = .ok (.aload_n 0, 1) := by decide +kernel
theorem dX6_wouldOpen_6 : decode cX6_wouldOpen 6 = .ok (.iload_n 1, 1) := by decide +kernel
theorem dX6_wouldOpen_7 : decode cX6_wouldOpen 7 = .ok (.iload_n 2, 1) := by decide +kernel
theorem dX6_wouldOpen_8 : decode cX6_wouldOpen 8 = .ok (.iload_n 3, 1) := by decide +kernel
theorem dX6_wouldOpen_9 : decode cX6_wouldOpen 9 = .ok (.invokevirtual 178, 3) := by decide +kernel
theorem dX6_wouldOpen_12 : decode cX6_wouldOpen 12 = .ok (.istore 4, 2) := by decide +kernel
theorem dX6_wouldOpen_14 : decode cX6_wouldOpen 14 = .ok (.iload 4, 2) := by decide +kernel
theorem dX6_wouldOpen_16 : decode cX6_wouldOpen 16 = .ok (.ifCond .eq 18, 3) := by decide +kernel
theorem dX6_wouldOpen_19 : decode cX6_wouldOpen 19 = .ok (.aload_n 0, 1) := by decide +kernel
theorem dX6_wouldOpen_20 : decode cX6_wouldOpen 20 = .ok (.iload 4, 2) := by decide +kernel
theorem dX6_wouldOpen_22 : decode cX6_wouldOpen 22 = .ok (.invokevirtual 84, 3) := by decide +kernel
theorem dX6_wouldOpen_25 : decode cX6_wouldOpen 25 = .ok (.ifCond .le 7, 3) := by decide +kernel
theorem dX6_wouldOpen_28 : decode cX6_wouldOpen 28 = .ok (.iconst 1, 1) := by decide +kernel
theorem dX6_wouldOpen_29 : decode cX6_wouldOpen 29 = .ok (.goto 4, 3) := by decide +kernel
theorem dX6_wouldOpen_32 : decode cX6_wouldOpen 32 = .ok (.iconst 0, 1) := by decide +kernel
theorem dX6_wouldOpen_33 : decode cX6_wouldOpen 33 = .ok (.ireturn, 1) := by decide +kernel
theorem dX6_wouldOpen_34 : decode cX6_wouldOpen 34 = .ok (.aload_n 0, 1) := by decide +kernel
theorem dX6_wouldOpen_35 : decode cX6_wouldOpen 35 = .ok (.iload_n 1, 1) := by decide +kernel
theorem dX6_wouldOpen_36 : decode cX6_wouldOpen 36 = .ok (.iload_n 2, 1) := by decide +kernel
theorem dX6_wouldOpen_37 : decode cX6_wouldOpen 37 = .ok (.iload_n 3, 1) := by decide +kernel
theorem dX6_wouldOpen_38 : decode cX6_wouldOpen 38 = .ok (.invokevirtual 96, 3) := by decide +kernel
theorem dX6_wouldOpen_41 : decode cX6_wouldOpen 41 = .ok (.iconst 1, 1) := by decide +kernel
theorem dX6_wouldOpen_42 : decode cX6_wouldOpen 42 = .ok (.if_icmp .ne 7, 3) := by decide +kernel
theorem dX6_wouldOpen_45 : decode cX6_wouldOpen 45 = .ok (.iconst 1, 1) := by decide +kernel
theorem dX6_wouldOpen_46 : decode cX6_wouldOpen 46 = .ok (.goto 4, 3) := by decide +kernel
theorem dX6_wouldOpen_49 : decode cX6_wouldOpen 49 = .ok (.iconst 0, 1) := by decide +kernel
theorem dX6_wouldOpen_50 : decode cX6_wouldOpen 50 = .ok (.ireturn, 1) := by decide +kernel
theorem dX6_exploresNext_0 : decode cX6_exploresNext 0 = .ok (.aload_n 0, 1) := by decide +kernel
theorem dX6_exploresNext_1 : decode cX6_exploresNext 1 = .ok (.iconst 0, 1) := by decide +kernel
theorem dX6_exploresNext_2 : decode cX6_exploresNext 2 = .ok (.putfield 1, 3) := by decide +kernel
theorem dX6_exploresNext_5 : decode cX6_exploresNext 5 = .ok (.aload_n 0, 1) := by decide +kernel
theorem dX6_exploresNext_6 : decode cX6_exploresNext 6 = .ok (.iload_n 1, 1) := by decide +kernel
theorem dX6_exploresNext_7 : decode cX6_exploresNext 7 = .ok (.invokevirtual 110, 3) := by decide +kernel
theorem dX6_exploresNext_10 : decode cX6_exploresNext 10 = .ok (.ifCond .ne 17, 3) := by decide +kernel
theorem dX6_exploresNext_13 : decode cX6_exploresNext 13 = .ok (.aload_n 0, 1) := by decide +kernel
theorem dX6_exploresNext_14 : decode cX6_exploresNext 14 = .ok (.iconst 1, 1) := by decide +kernel
theorem dX6_exploresNext_15 : decode cX6_exploresNext 15 = .ok (.invokevirtual 84, 3) := by decide +kernel
theorem dX6_exploresNext_18 : decode cX6_exploresNext 18 = .ok (.ifCond .le 7, 3) := by decide +kernel
theorem dX6_exploresNext_21 : decode cX6_exploresNext 21 = .ok (.iconst 1, 1) := by decide +kernel
theorem dX6_exploresNext_22 : decode cX6_exploresNext 22 = .ok (.goto 4, 3) := by decide +kernel
theorem dX6_exploresNext_25 : decode cX6_exploresNext 25 = .ok (.iconst 0, 1) := by decide +kernel
theorem dX6_exploresNext_26 : decode cX6_exploresNext 26 = .ok (.ireturn, 1) := by decide +kernel
theorem dX6_exploresNext_27 : decode cX6_exploresNext 27 = .ok (.aload_n 0, 1) := by decide +kernel
theorem dX6_exploresNext_28 : decode cX6_exploresNext 28 = .ok (.iload_n 1, 1) := by decide +kernel
theorem dX6_exploresNext_29 : decode cX6_exploresNext 29 = .ok (.invokevirtual 99, 3) := by decide +kernel
theorem dX6_exploresNext_32 : decode cX6_exploresNext 32 = .ok (.ireturn, 1) := by decide +kernel
theorem dX6_timesTried_0 : decode cX6_timesTried 0 = .ok (.aload_n 0, 1) := by decide +kernel
theorem dX6_timesTried_1 : decode cX6_timesTried 1 = .ok (.iconst 0, 1) := by decide +kernel
theorem dX6_timesTried_2 : decode cX6_timesTried 2 = .ok (.putfield 1, 3) := by decide +kernel
theorem dX6_timesTried_5 : decode cX6_timesTried 5 = .ok (.aload_n 0, 1) := by decide +kernel
theorem dX6_timesTried_6 : decode cX6_timesTried 6 = .ok (.iload_n 1, 1) := by decide +kernel
theorem dX6_timesTried_7 : decode cX6_timesTried 7 = .ok (.iload_n 2, 1) := by decide +kernel
theorem dX6_timesTried_8 : decode cX6_timesTried 8 = .ok (.iload_n 3, 1) := by decide +kernel
theorem dX6_timesTried_9 : decode cX6_timesTried 9 = .ok (.invokevirtual 178, 3) := by decide +kernel
theorem dX6_timesTried_12 : decode cX6_timesTried 12 = .ok (.istore 5, 2) := by decide +kernel
theorem dX6_timesTried_14 : decode cX6_timesTried 14 = .ok (.iload 5, 2) := by decide +kernel
theorem dX6_timesTried_16 : decode cX6_timesTried 16 = .ok (.ifCond .eq 12, 3) := by decide +kernel
theorem dX6_timesTried_19 : decode cX6_timesTried 19 = .ok (.aload_n 0, 1) := by decide +kernel
theorem dX6_timesTried_20 : decode cX6_timesTried 20 = .ok (.iload 5, 2) := by decide +kernel
theorem dX6_timesTried_22 : decode cX6_timesTried 22 = .ok (.invokevirtual 84, 3) := by decide +kernel
theorem dX6_timesTried_25 : decode cX6_timesTried 25 = .ok (.goto 20, 3) := by decide +kernel
theorem dX6_timesTried_28 : decode cX6_timesTried 28 = .ok (.aload_n 0, 1) := by decide +kernel
theorem dX6_timesTried_29 : decode cX6_timesTried 29 = .ok (.iload_n 1, 1) := by decide +kernel
theorem dX6_timesTried_30 : decode cX6_timesTried 30 = .ok (.iload_n 2, 1) := by decide +kernel
theorem dX6_timesTried_31 : decode cX6_timesTried 31 = .ok (.iload_n 3, 1) := by decide +kernel
theorem dX6_timesTried_32 : decode cX6_timesTried 32 = .ok (.iload 4, 2) := by decide +kernel
theorem dX6_timesTried_34 : decode cX6_timesTried 34 = .ok (.ifCond .eq 7, 3) := by decide +kernel
theorem dX6_timesTried_37 : decode cX6_timesTried 37 = .ok (.iconst 1, 1) := by decide +kernel
theorem dX6_timesTried_38 : decode cX6_timesTried 38 = .ok (.goto 4, 3) := by decide +kernel
theorem dX6_timesTried_41 : decode cX6_timesTried 41 = .ok (.iconst 0, 1) := by decide +kernel
theorem dX6_timesTried_42 : decode cX6_timesTried 42 = .ok (.invokevirtual 70, 3) := by decide +kernel
theorem dX6_timesTried_45 : decode cX6_timesTried 45 = .ok (.ireturn, 1) := by decide +kernel
theorem dX6_rewardSum_0 : decode cX6_rewardSum 0 = .ok (.aload_n 0, 1) := by decide +kernel
theorem dX6_rewardSum_1 : decode cX6_rewardSum 1 = .ok (.iconst 0, 1) := by decide +kernel
theorem dX6_rewardSum_2 : decode cX6_rewardSum 2 = .ok (.putfield 1, 3) := by decide +kernel
theorem dX6_rewardSum_5 : decode cX6_rewardSum 5 = .ok (.aload_n 0, 1) := by decide +kernel
theorem dX6_rewardSum_6 : decode cX6_rewardSum 6 = .ok (.iload_n 1, 1) := by decide +kernel
theorem dX6_rewardSum_7 : decode cX6_rewardSum 7 = .ok (.iload_n 2, 1) := by decide +kernel
theorem dX6_rewardSum_8 : decode cX6_rewardSum 8 = .ok (.iload_n 3, 1) := by decide +kernel
theorem dX6_rewardSum_9 : decode cX6_rewardSum 9 = .ok (.invokevirtual 178, 3) := by decide +kernel
theorem dX6_rewardSum_12 : decode cX6_rewardSum 12 = .ok (.istore 5, 2) := by decide +kernel
theorem dX6_rewardSum_14 : decode cX6_rewardSum 14 = .ok (.iload 5, 2) := by decide +kernel
theorem dX6_rewardSum_16 : decode cX6_rewardSum 16 = .ok (.ifCond .eq 12, 3) := by decide +kernel
theorem dX6_rewardSum_19 : decode cX6_rewardSum 19 = .ok (.aload_n 0, 1) := by decide +kernel
theorem dX6_rewardSum_20 : decode cX6_rewardSum 20 = .ok (.iload 5, 2) := by decide +kernel
theorem dX6_rewardSum_22 : decode cX6_rewardSum 22 = .ok (.invokevirtual 84, 3) := by decide +kernel
theorem dX6_rewardSum_25 : decode cX6_rewardSum 25 = .ok (.goto 20, 3) := by decide +kernel
theorem dX6_rewardSum_28 : decode cX6_rewardSum 28 = .ok (.aload_n 0, 1) := by decide +kernel
theorem dX6_rewardSum_29 : decode cX6_rewardSum 29 = .ok (.iload_n 1, 1) := by decide +kernel
theorem dX6_rewardSum_30 : decode cX6_rewardSum 30 = .ok (.iload_n 2, 1) := by decide +kernel
theorem dX6_rewardSum_31 : decode cX6_rewardSum 31 = .ok (.iload_n 3, 1) := by decide +kernel
theorem dX6_rewardSum_32 : decode cX6_rewardSum 32 = .ok (.iload 4, 2) := by decide +kernel
theorem dX6_rewardSum_34 : decode cX6_rewardSum 34 = .ok (.ifCond .eq 7, 3) := by decide +kernel
theorem dX6_rewardSum_37 : decode cX6_rewardSum 37 = .ok (.iconst 1, 1) := by decide +kernel
theorem dX6_rewardSum_38 : decode cX6_rewardSum 38 = .ok (.goto 4, 3) := by decide +kernel
theorem dX6_rewardSum_41 : decode cX6_rewardSum 41 = .ok (.iconst 0, 1) := by decide +kernel
theorem dX6_rewardSum_42 : decode cX6_rewardSum 42 = .ok (.invokevirtual 74, 3) := by decide +kernel
theorem dX6_rewardSum_45 : decode cX6_rewardSum 45 = .ok (.ireturn, 1) := by decide +kernel
theorem dX6_rewardSumByTrials_0 : decode cX6_rewardSumByTrials 0 = .ok (.aload_n 0, 1) := by decide +kernel
theorem dX6_rewardSumByTrials_1 : decode cX6_rewardSumByTrials 1 = .ok (.iload_n 1, 1) := by decide +kernel
theorem dX6_rewardSumByTrials_2 : decode cX6_rewardSumByTrials 2 = .ok (.iload_n 2, 1) := by decide +kernel
theorem dX6_rewardSumByTrials_3 : decode cX6_rewardSumByTrials 3 = .ok (.iload_n 3, 1) := by decide +kernel
theorem dX6_rewardSumByTrials_4 : decode cX6_rewardSumByTrials 4 = .ok (.iload 4, 2) := by decide +kernel
theorem dX6_rewardSumByTrials_6 : decode cX6_rewardSumByTrials 6 = .ok (.invokevirtual 181, 3) := by decide +kernel
theorem dX6_rewardSumByTrials_9 : decode cX6_rewardSumByTrials 9 = .ok (.ireturn, 1) := by decide +kernel
theorem dX6_meanReward_0 : decode cX6_meanReward 0 = .ok (.aload_n 0, 1) := by decide +kernel
theorem dX6_meanReward_1 : decode cX6_meanReward 1 = .ok (.iload_n 1, 1) := by decide +kernel
theorem dX6_meanReward_2 : decode cX6_meanReward 2 = .ok (.iload_n 2, 1) := by decide +kernel
theorem dX6_meanReward_3 : decode cX6_meanReward 3 = .ok (.iload_n 3, 1) := by decide +kernel
theorem dX6_meanReward_4 : decode cX6_meanReward 4 = .ok (.iload 4, 2) := by decide +kernel
theorem dX6_meanReward_6 : decode cX6_meanReward 6 = .ok (.invokevirtual 181, 3) := by decide +kernel
theorem dX6_meanReward_9 : decode cX6_meanReward 9 = .ok (.istore 5, 2) := by decide +kernel
theorem dX6_meanReward_11 : decode cX6_meanReward 11 = .ok (.aload_n 0, 1) := by decide +kernel
theorem dX6_meanReward_12 : decode cX6_meanReward 12 = .ok (.getfield 1, 3) := by decide +kernel
theorem dX6_meanReward_15 : decode cX6_meanReward 15 = .ok (.ifCond .eq 5, 3) := by decide +kernel
theorem dX6_meanReward_18 : decode cX6_meanReward 18 = .ok (.dconst 0, 1) := by decide +kernel
theorem dX6_meanReward_19 : decode cX6_meanReward 19 = .ok (.dreturn, 1) := by decide +kernel
theorem dX6_meanReward_20 : decode cX6_meanReward 20 = .ok (.aload_n 0, 1) := by decide +kernel
theorem dX6_meanReward_21 : decode cX6_meanReward 21 = .ok (.iload_n 1, 1) := by decide +kernel
theorem dX6_meanReward_22 : decode cX6_meanReward 22 = .ok (.iload_n 2, 1) := by decide +kernel
theorem dX6_meanReward_23 : decode cX6_meanReward 23 = .ok (.iload_n 3, 1) := by decide +kernel
theorem dX6_meanReward_24 : decode cX6_meanReward 24 = .ok (.iload 4, 2) := by decide +kernel
theorem dX6_meanReward_26 : decode cX6_meanReward 26 = .ok (.ifCond .eq 7, 3) := by decide +kernel
theorem dX6_meanReward_29 : decode cX6_meanReward 29 = .ok (.iconst 1, 1) := by decide +kernel
theorem dX6_meanReward_30 : decode cX6_meanReward 30 = .ok (.goto 4, 3) := by decide +kernel
theorem dX6_meanReward_33 : decode cX6_meanReward 33 = .ok (.iconst 0, 1) := by decide +kernel
theorem dX6_meanReward_34 : decode cX6_meanReward 34 = .ok (.invokevirtual 70, 3) := by decide +kernel
theorem dX6_meanReward_37 : decode cX6_meanReward 37 = .ok (.istore 6, 2) := by decide +kernel
theorem dX6_meanReward_39 : decode cX6_meanReward 39 = .ok (.iload 6, 2) := by decide +kernel
theorem dX6_meanReward_41 : decode cX6_meanReward 41 = .ok (.ifCond .ne 12, 3) := by decide +kernel
theorem dX6_meanReward_44 : decode cX6_meanReward 44 = .ok (.aload_n 0, 1) := by decide +kernel
theorem dX6_meanReward_45 : decode cX6_meanReward 45 = .ok (.iconst 3, 1) := by decide +kernel
theorem dX6_meanReward_46 : decode cX6_meanReward 46 = .ok (.invokevirtual 84, 3) := by decide +kernel
theorem dX6_meanReward_49 : decode cX6_meanReward 49 = .ok (.i2d, 1) := by decide +kernel
theorem dX6_meanReward_50 : decode cX6_meanReward 50 = .ok (.goto 10, 3) := by decide +kernel
theorem dX6_meanReward_53 : decode cX6_meanReward 53 = .ok (.iload 5, 2) := by decide +kernel
theorem dX6_meanReward_55 : decode cX6_meanReward 55 = .ok (.i2d, 1) := by decide +kernel
theorem dX6_meanReward_56 : decode cX6_meanReward 56 = .ok (.iload 6, 2) := by decide +kernel
theorem dX6_meanReward_58 : decode cX6_meanReward 58 = .ok (.i2d, 1) := by decide +kernel
theorem dX6_meanReward_59 : decode cX6_meanReward 59 = .ok (.ddiv, 1) := by decide +kernel
theorem dX6_meanReward_60 : decode cX6_meanReward 60 = .ok (.dreturn, 1) := by decide +kernel
theorem dX6_rightHabits_0 : decode cX6_rightHabits 0 = .ok (.aload_n 0, 1) := by decide +kernel
theorem dX6_rightHabits_1 : decode cX6_rightHabits 1 = .ok (.iconst 0, 1) := by decide +kernel
theorem dX6_rightHabits_2 : decode cX6_rightHabits 2 = .ok (.putfield 1, 3) := by decide +kernel
theorem dX6_rightHabits_5 : decode cX6_rightHabits 5 = .ok (.aload_n 0, 1) := by decide +kernel
theorem dX6_rightHabits_6 : decode cX6_rightHabits 6 = .ok (.iload_n 1, 1) := by decide +kernel
theorem dX6_rightHabits_7 : decode cX6_rightHabits 7 = .ok (.invokevirtual 110, 3) := by decide +kernel
theorem dX6_rightHabits_10 : decode cX6_rightHabits 10 = .ok (.ifCond .ne 9, 3) := by decide +kernel
theorem dX6_rightHabits_13 : decode cX6_rightHabits 13 = .ok (.aload_n 0, 1) := by decide +kernel
theorem dX6_rightHabits_14 : decode cX6_rightHabits 14 = .ok (.iconst 1, 1) := by decide +kernel
theorem dX6_rightHabits_15 : decode cX6_rightHabits 15 = .ok (.invokevirtual 84, 3) := by decide +kernel
theorem dX6_rightHabits_18 : decode cX6_rightHabits 18 = .ok (.ireturn, 1) := by decide +kernel
theorem dX6_rightHabits_19 : decode cX6_rightHabits 19 = .ok (.iconst 0, 1) := by decide +kernel
theorem dX6_rightHabits_20 : decode cX6_rightHabits 20 = .ok (.istore_n 2, 1) := by decide +kernel
theorem dX6_rightHabits_21 : decode cX6_rightHabits 21 = .ok (.iconst 0, 1) := by decide +kernel
theorem dX6_rightHabits_22 : decode cX6_rightHabits 22 = .ok (.istore_n 3, 1) := by decide +kernel
theorem dX6_rightHabits_23 : decode cX6_rightHabits 23 = .ok (.iload_n 3, 1) := by decide +kernel
theorem dX6_rightHabits_24 : decode cX6_rightHabits 24 = .ok (.bipush 16, 2) := by decide +kernel
theorem dX6_rightHabits_26 : decode cX6_rightHabits 26 = .ok (.if_icmp .ge 31, 3) := by decide +kernel
theorem dX6_rightHabits_29 : decode cX6_rightHabits 29 = .ok (.iload_n 2, 1) := by decide +kernel
theorem dX6_rightHabits_30 : decode cX6_rightHabits 30 = .ok (.aload_n 0, 1) := by decide +kernel
theorem dX6_rightHabits_31 : decode cX6_rightHabits 31 = .ok (.iload_n 1, 1) := by decide +kernel
theorem dX6_rightHabits_32 : decode cX6_rightHabits 32 = .ok (.iload_n 3, 1) := by decide +kernel
theorem dX6_rightHabits_33 : decode cX6_rightHabits 33 = .ok (.iconst 4, 1) := by decide +kernel
theorem dX6_rightHabits_34 : decode cX6_rightHabits 34 = .ok (.idiv, 1) := by decide +kernel
theorem dX6_rightHabits_35 : decode cX6_rightHabits 35 = .ok (.iload_n 3, 1) := by decide +kernel
theorem dX6_rightHabits_36 : decode cX6_rightHabits 36 = .ok (.iconst 4, 1) := by decide +kernel
theorem dX6_rightHabits_37 : decode cX6_rightHabits 37 = .ok (.irem, 1) := by decide +kernel
theorem dX6_rightHabits_38 : decode cX6_rightHabits 38 = .ok (.invokevirtual 153, 3) := by decide +kernel
theorem dX6_rightHabits_41 : decode cX6_rightHabits 41 = .ok (.ifCond .eq 7, 3) := by decide +kernel
theorem dX6_rightHabits_44 : decode cX6_rightHabits 44 = .ok (.iconst 1, 1) := by decide +kernel
theorem dX6_rightHabits_45 : decode cX6_rightHabits 45 = .ok (.goto 4, 3) := by decide +kernel
theorem dX6_rightHabits_48 : decode cX6_rightHabits 48 = .ok (.iconst 0, 1) := by decide +kernel
theorem dX6_rightHabits_49 : decode cX6_rightHabits 49 = .ok (.iadd, 1) := by decide +kernel
theorem dX6_rightHabits_50 : decode cX6_rightHabits 50 = .ok (.istore_n 2, 1) := by decide +kernel
theorem dX6_rightHabits_51 : decode cX6_rightHabits 51 = .ok (.iinc 3 1, 3) := by decide +kernel
theorem dX6_rightHabits_54 : decode cX6_rightHabits 54 = .ok (.goto (-31), 3) := by decide +kernel
theorem dX6_rightHabits_57 : decode cX6_rightHabits 57 = .ok (.iload_n 2, 1) := by decide +kernel
theorem dX6_rightHabits_58 : decode cX6_rightHabits 58 = .ok (.ireturn, 1) := by decide +kernel
theorem dX6_trialsIn_0 : decode cX6_trialsIn 0 = .ok (.aload_n 0, 1) := by decide +kernel
theorem dX6_trialsIn_1 : decode cX6_trialsIn 1 = .ok (.iload_n 1, 1) := by decide +kernel
theorem dX6_trialsIn_2 : decode cX6_trialsIn 2 = .ok (.iload_n 2, 1) := by decide +kernel
theorem dX6_trialsIn_3 : decode cX6_trialsIn 3 = .ok (.iconst 4, 1) := by decide +kernel
theorem dX6_trialsIn_4 : decode cX6_trialsIn 4 = .ok (.idiv, 1) := by decide +kernel
theorem dX6_trialsIn_5 : decode cX6_trialsIn 5 = .ok (.iload_n 2, 1) := by decide +kernel
theorem dX6_trialsIn_6 : decode cX6_trialsIn 6 = .ok (.iconst 4, 1) := by decide +kernel
theorem dX6_trialsIn_7 : decode cX6_trialsIn 7 = .ok (.irem, 1) := by decide +kernel
theorem dX6_trialsIn_8 : decode cX6_trialsIn 8 = .ok (.iconst 0, 1) := by decide +kernel
theorem dX6_trialsIn_9 : decode cX6_trialsIn 9 = .ok (.invokevirtual 70, 3) := by decide +kernel
theorem dX6_trialsIn_12 : decode cX6_trialsIn 12 = .ok (.aload_n 0, 1) := by decide +kernel
theorem dX6_trialsIn_13 : decode cX6_trialsIn 13 = .ok (.iload_n 1, 1) := by decide +kernel
theorem dX6_trialsIn_14 : decode cX6_trialsIn 14 = .ok (.iload_n 2, 1) := by decide +kernel
theorem dX6_trialsIn_15 : decode cX6_trialsIn 15 = .ok (.iconst 4, 1) := by decide +kernel
theorem dX6_trialsIn_16 : decode cX6_trialsIn 16 = .ok (.idiv, 1) := by decide +kernel
theorem dX6_trialsIn_17 : decode cX6_trialsIn 17 = .ok (.iload_n 2, 1) := by decide +kernel
theorem dX6_trialsIn_18 : decode cX6_trialsIn 18 = .ok (.iconst 4, 1) := by decide +kernel
theorem dX6_trialsIn_19 : decode cX6_trialsIn 19 = .ok (.irem, 1) := by decide +kernel
theorem dX6_trialsIn_20 : decode cX6_trialsIn 20 = .ok (.iconst 1, 1) := by decide +kernel
theorem dX6_trialsIn_21 : decode cX6_trialsIn 21 = .ok (.invokevirtual 70, 3) := by decide +kernel
theorem dX6_trialsIn_24 : decode cX6_trialsIn 24 = .ok (.iadd, 1) := by decide +kernel
theorem dX6_trialsIn_25 : decode cX6_trialsIn 25 = .ok (.ireturn, 1) := by decide +kernel
theorem dX6_knownSituations_0 : decode cX6_knownSituations 0 = .ok (.aload_n 0, 1) := by decide +kernel
theorem dX6_knownSituations_1 : decode cX6_knownSituations 1 = .ok (.iconst 0, 1) := by decide +kernel
theorem dX6_knownSituations_2 : decode cX6_knownSituations 2 = .ok (.putfield 1, 3) := by decide +kernel
theorem dX6_knownSituations_5 : decode cX6_knownSituations 5 = .ok (.aload_n 0, 1) := by decide +kernel
theorem dX6_knownSituations_6 : decode cX6_knownSituations 6 = .ok (.iload_n 1, 1) := by decide +kernel
theorem dX6_knownSituations_7 : decode cX6_knownSituations 7 = .ok (.invokevirtual 110, 3) := by decide +kernel
theorem dX6_knownSituations_10 : decode cX6_knownSituations 10 = .ok (.ifCond .ne 9, 3) := by decide +kernel
theorem dX6_knownSituations_13 : decode cX6_knownSituations 13 = .ok (.aload_n 0, 1) := by decide +kernel
theorem dX6_knownSituations_14 : decode cX6_knownSituations 14 = .ok (.iconst 1, 1) := by decide +kernel
theorem dX6_knownSituations_15 : decode cX6_knownSituations 15 = .ok (.invokevirtual 84, 3) := by decide +kernel
theorem dX6_knownSituations_18 : decode cX6_knownSituations 18 = .ok (.ireturn, 1) := by decide +kernel
theorem dX6_knownSituations_19 : decode cX6_knownSituations 19 = .ok (.iconst 0, 1) := by decide +kernel
theorem dX6_knownSituations_20 : decode cX6_knownSituations 20 = .ok (.istore_n 2, 1) := by decide +kernel
theorem dX6_knownSituations_21 : decode cX6_knownSituations 21 = .ok (.iconst 0, 1) := by decide +kernel
theorem dX6_knownSituations_22 : decode cX6_knownSituations 22 = .ok (.istore_n 3, 1) := by decide +kernel
theorem dX6_knownSituations_23 : decode cX6_knownSituations 23 = .ok (.iload_n 3, 1) := by decide +kernel
theorem dX6_knownSituations_24 : decode cX6_knownSituations 24 = .ok (.bipush 16, 2) := by decide +kernel
theorem dX6_knownSituations_26 : decode cX6_knownSituations 26 = .ok (.if_icmp .ge 26, 3) := by decide +kernel
theorem dX6_knownSituations_29 : decode cX6_knownSituations 29 = .ok (.iload_n 2, 1) := by decide +kernel
theorem dX6_knownSituations_30 : decode cX6_knownSituations 30 = .ok (.aload_n 0, 1) := by decide +kernel
theorem dX6_knownSituations_31 : decode cX6_knownSituations 31 = .ok (.iload_n 1, 1) := by decide +kernel
theorem dX6_knownSituations_32 : decode cX6_knownSituations 32 = .ok (.iload_n 3, 1) := by decide +kernel
theorem dX6_knownSituations_33 : decode cX6_knownSituations 33 = .ok (.invokevirtual 185, 3) := by decide +kernel
theorem dX6_knownSituations_36 : decode cX6_knownSituations 36 = .ok (.ifCond .le 7, 3) := by decide +kernel
theorem dX6_knownSituations_39 : decode cX6_knownSituations 39 = .ok (.iconst 1, 1) := by decide +kernel
theorem dX6_knownSituations_40 : decode cX6_knownSituations 40 = .ok (.goto 4, 3) := by decide +kernel
theorem dX6_knownSituations_43 : decode cX6_knownSituations 43 = .ok (.iconst 0, 1) := by decide +kernel
theorem dX6_knownSituations_44 : decode cX6_knownSituations 44 = .ok (.iadd, 1) := by decide +kernel
theorem dX6_knownSituations_45 : decode cX6_knownSituations 45 = .ok (.istore_n 2, 1) := by decide +kernel
theorem dX6_knownSituations_46 : decode cX6_knownSituations 46 = .ok (.iinc 3 1, 3) := by decide +kernel
theorem dX6_knownSituations_49 : decode cX6_knownSituations 49 = .ok (.goto (-26), 3) := by decide +kernel
theorem dX6_knownSituations_52 : decode cX6_knownSituations 52 = .ok (.iload_n 2, 1) := by decide +kernel
theorem dX6_knownSituations_53 : decode cX6_knownSituations 53 = .ok (.ireturn, 1) := by decide +kernel
theorem dX6_situationAt_0 : decode cX6_situationAt 0 = .ok (.aload_n 0, 1) := by decide +kernel
theorem dX6_situationAt_1 : decode cX6_situationAt 1 = .ok (.iconst 0, 1) := by decide +kernel
theorem dX6_situationAt_2 : decode cX6_situationAt 2 = .ok (.putfield 1, 3) := by decide +kernel
theorem dX6_situationAt_5 : decode cX6_situationAt 5 = .ok (.aload_n 0, 1) := by decide +kernel
theorem dX6_situationAt_6 : decode cX6_situationAt 6 = .ok (.iload_n 1, 1) := by decide +kernel
theorem dX6_situationAt_7 : decode cX6_situationAt 7 = .ok (.invokevirtual 110, 3) := by decide +kernel
theorem dX6_situationAt_10 : decode cX6_situationAt 10 = .ok (.ifCond .ne 9, 3) := by decide +kernel
theorem dX6_situationAt_13 : decode cX6_situationAt 13 = .ok (.aload_n 0, 1) := by decide +kernel
theorem dX6_situationAt_14 : decode cX6_situationAt 14 = .ok (.iconst 1, 1) := by decide +kernel
theorem dX6_situationAt_15 : decode cX6_situationAt 15 = .ok (.invokevirtual 84, 3) := by decide +kernel
theorem dX6_situationAt_18 : decode cX6_situationAt 18 = .ok (.ireturn, 1) := by decide +kernel
theorem dX6_situationAt_19 : decode cX6_situationAt 19 = .ok (.iconst 0, 1) := by decide +kernel
theorem dX6_situationAt_20 : decode cX6_situationAt 20 = .ok (.istore_n 3, 1) := by decide +kernel
theorem dX6_situationAt_21 : decode cX6_situationAt 21 = .ok (.iload_n 3, 1) := by decide +kernel
theorem dX6_situationAt_22 : decode cX6_situationAt 22 = .ok (.bipush 16, 2) := by decide +kernel
theorem dX6_situationAt_24 : decode cX6_situationAt 24 = .ok (.if_icmp .ge 90, 3) := by decide +kernel
theorem dX6_situationAt_27 : decode cX6_situationAt 27 = .ok (.aload_n 0, 1) := by decide +kernel
theorem dX6_situationAt_28 : decode cX6_situationAt 28 = .ok (.iload_n 1, 1) := by decide +kernel
theorem dX6_situationAt_29 : decode cX6_situationAt 29 = .ok (.iload_n 3, 1) := by decide +kernel
theorem dX6_situationAt_30 : decode cX6_situationAt 30 = .ok (.invokevirtual 185, 3) := by decide +kernel
theorem dX6_situationAt_33 : decode cX6_situationAt 33 = .ok (.ifCond .ne 6, 3) := by decide +kernel
theorem dX6_situationAt_36 : decode cX6_situationAt 36 = .ok (.goto 72, 3) := by decide +kernel
theorem dX6_situationAt_39 : decode cX6_situationAt 39 = .ok (.iconst 0, 1) := by decide +kernel
theorem dX6_situationAt_40 : decode cX6_situationAt 40 = .ok (.istore 4, 2) := by decide +kernel
theorem dX6_situationAt_42 : decode cX6_situationAt 42 = .ok (.iconst 0, 1) := by decide +kernel
theorem dX6_situationAt_43 : decode cX6_situationAt 43 = .ok (.istore 5, 2) := by decide +kernel
theorem dX6_situationAt_45 : decode cX6_situationAt 45 = .ok (.iload 5, 2) := by decide +kernel
theorem dX6_situationAt_47 : decode cX6_situationAt 47 = .ok (.bipush 16, 2) := by decide +kernel
theorem dX6_situationAt_49 : decode cX6_situationAt 49 = .ok (.if_icmp .ge 51, 3) := by decide +kernel
theorem dX6_situationAt_52 : decode cX6_situationAt 52 = .ok (.aload_n 0, 1) := by decide +kernel
theorem dX6_situationAt_53 : decode cX6_situationAt 53 = .ok (.iload_n 1, 1) := by decide +kernel
theorem dX6_situationAt_54 : decode cX6_situationAt 54 = .ok (.iload 5, 2) := by decide +kernel
theorem dX6_situationAt_56 : decode cX6_situationAt 56 = .ok (.invokevirtual 185, 3) := by decide +kernel
theorem dX6_situationAt_59 : decode cX6_situationAt 59 = .ok (.aload_n 0, 1) := by decide +kernel
theorem dX6_situationAt_60 : decode cX6_situationAt 60 = .ok (.iload_n 1, 1) := by decide +kernel
theorem dX6_situationAt_61 : decode cX6_situationAt 61 = .ok (.iload_n 3, 1) := by decide +kernel
theorem dX6_situationAt_62 : decode cX6_situationAt 62 = .ok (.invokevirtual 185, 3) := by decide +kernel
theorem dX6_situationAt_65 : decode cX6_situationAt 65 = .ok (.isub, 1) := by decide +kernel
theorem dX6_situationAt_66 : decode cX6_situationAt 66 = .ok (.istore 6, 2) := by decide +kernel
theorem dX6_situationAt_68 : decode cX6_situationAt 68 = .ok (.iload 4, 2) := by decide +kernel
theorem dX6_situationAt_70 : decode cX6_situationAt 70 = .ok (.iload 6, 2) := by decide +kernel
theorem dX6_situationAt_72 : decode cX6_situationAt 72 = .ok (.ifCond .gt 14, 3) := by decide +kernel
theorem dX6_situationAt_75 : decode cX6_situationAt 75 = .ok (.iload 6, 2) := by decide +kernel
theorem dX6_situationAt_77 : decode cX6_situationAt 77 = .ok (.ifCond .ne 13, 3) := by decide +kernel
theorem dX6_situationAt_80 : decode cX6_situationAt 80 = .ok (.iload 5, 2) := by decide +kernel
theorem dX6_situationAt_82 : decode cX6_situationAt 82 = .ok (.iload_n 3, 1) := by decide +kernel
theorem dX6_situationAt_83 : decode cX6_situationAt 83 = .ok (.if_icmp .ge 7, 3) := by decide +kernel
theorem dX6_situationAt_86 : decode cX6_situationAt 86 = .ok (.iconst 1, 1) := by decide +kernel
theorem dX6_situationAt_87 : decode cX6_situationAt 87 = .ok (.goto 4, 3) := by decide +kernel
theorem dX6_situationAt_90 : decode cX6_situationAt 90 = .ok (.iconst 0, 1) := by decide +kernel
theorem dX6_situationAt_91 : decode cX6_situationAt 91 = .ok (.iadd, 1) := by decide +kernel
theorem dX6_situationAt_92 : decode cX6_situationAt 92 = .ok (.istore 4, 2) := by decide +kernel
theorem dX6_situationAt_94 : decode cX6_situationAt 94 = .ok (.iinc 5 1, 3) := by decide +kernel
theorem dX6_situationAt_97 : decode cX6_situationAt 97 = .ok (.goto (-52), 3) := by decide +kernel
theorem dX6_situationAt_100 : decode cX6_situationAt 100 = .ok (.iload 4, 2) := by decide +kernel
theorem dX6_situationAt_102 : decode cX6_situationAt 102 = .ok (.iload_n 2, 1) := by decide +kernel
theorem dX6_situationAt_103 : decode cX6_situationAt 103 = .ok (.if_icmp .ne 5, 3) := by decide +kernel
theorem dX6_situationAt_106 : decode cX6_situationAt 106 = .ok (.iload_n 3, 1) := by decide +kernel
theorem dX6_situationAt_107 : decode cX6_situationAt 107 = .ok (.ireturn, 1) := by decide +kernel
theorem dX6_situationAt_108 : decode cX6_situationAt 108 = .ok (.iinc 3 1, 3) := by decide +kernel
theorem dX6_situationAt_111 : decode cX6_situationAt 111 = .ok (.goto (-90), 3) := by decide +kernel
theorem dX6_situationAt_114 : decode cX6_situationAt 114 = .ok (.aload_n 0, 1) := by decide +kernel
theorem dX6_situationAt_115 : decode cX6_situationAt 115 = .ok (.iconst 2, 1) := by decide +kernel
theorem dX6_situationAt_116 : decode cX6_situationAt 116 = .ok (.invokevirtual 84, 3) := by decide +kernel
theorem dX6_situationAt_119 : decode cX6_situationAt 119 = .ok (.ireturn, 1) := by decide +kernel
theorem dX6_situationRain_0 : decode cX6_situationRain 0 = .ok (.aload_n 0, 1) := by decide +kernel
theorem dX6_situationRain_1 : decode cX6_situationRain 1 = .ok (.iload_n 1, 1) := by decide +kernel
theorem dX6_situationRain_2 : decode cX6_situationRain 2 = .ok (.iload_n 2, 1) := by decide +kernel
theorem dX6_situationRain_3 : decode cX6_situationRain 3 = .ok (.invokevirtual 188, 3) := by decide +kernel
theorem dX6_situationRain_6 : decode cX6_situationRain 6 = .ok (.iconst 4, 1) := by decide +kernel
theorem dX6_situationRain_7 : decode cX6_situationRain 7 = .ok (.idiv, 1) := by decide +kernel
theorem dX6_situationRain_8 : decode cX6_situationRain 8 = .ok (.ireturn, 1) := by decide +kernel
theorem dX6_situationWind_0 : decode cX6_situationWind 0 = .ok (.aload_n 0, 1) := by decide +kernel
theorem dX6_situationWind_1 : decode cX6_situationWind 1 = .ok (.iload_n 1, 1) := by decide +kernel
theorem dX6_situationWind_2 : decode cX6_situationWind 2 = .ok (.iload_n 2, 1) := by decide +kernel
theorem dX6_situationWind_3 : decode cX6_situationWind 3 = .ok (.invokevirtual 188, 3) := by decide +kernel
theorem dX6_situationWind_6 : decode cX6_situationWind 6 = .ok (.iconst 4, 1) := by decide +kernel
theorem dX6_situationWind_7 : decode cX6_situationWind 7 = .ok (.irem, 1) := by decide +kernel
theorem dX6_situationWind_8 : decode cX6_situationWind 8 = .ok (.ireturn, 1) := by decide +kernel
theorem dX6_hasExam_0 : decode cX6_hasExam 0 = .ok (.aload_n 0, 1) := by decide +kernel
theorem dX6_hasExam_1 : decode cX6_hasExam 1 = .ok (.iconst 0, 1) := by decide +kernel
theorem dX6_hasExam_2 : decode cX6_hasExam 2 = .ok (.putfield 1, 3) := by decide +kernel
theorem dX6_hasExam_5 : decode cX6_hasExam 5 = .ok (.aload_n 0, 1) := by decide +kernel
theorem dX6_hasExam_6 : decode cX6_hasExam 6 = .ok (.iload_n 1, 1) := by decide +kernel
theorem dX6_hasExam_7 : decode cX6_hasExam 7 = .ok (.iload_n 2, 1) := by decide +kernel
theorem dX6_hasExam_8 : decode cX6_hasExam 8 = .ok (.invokevirtual 144, 3) := by decide +kernel
theorem dX6_hasExam_11 : decode cX6_hasExam 11 = .ok (.istore_n 3, 1) := by decide +kernel
theorem dX6_hasExam_12 : decode cX6_hasExam 12 = .ok (.iload_n 3, 1) := by decide +kernel
theorem dX6_hasExam_13 : decode cX6_hasExam 13 = .ok (.ifCond .eq 17, 3) := by decide +kernel
theorem dX6_hasExam_16 : decode cX6_hasExam 16 = .ok (.aload_n 0, 1) := by decide +kernel
theorem dX6_hasExam_17 : decode cX6_hasExam 17 = .ok (.iload_n 3, 1) := by decide +kernel
theorem dX6_hasExam_18 : decode cX6_hasExam 18 = .ok (.invokevirtual 84, 3) := by decide +kernel
theorem dX6_hasExam_21 : decode cX6_hasExam 21 = .ok (.ifCond .le 7, 3) := by decide +kernel
theorem dX6_hasExam_24 : decode cX6_hasExam 24 = .ok (.iconst 1, 1) := by decide +kernel
theorem dX6_hasExam_25 : decode cX6_hasExam 25 = .ok (.goto 4, 3) := by decide +kernel
theorem dX6_hasExam_28 : decode cX6_hasExam 28 = .ok (.iconst 0, 1) := by decide +kernel
theorem dX6_hasExam_29 : decode cX6_hasExam 29 = .ok (.ireturn, 1) := by decide +kernel
theorem dX6_hasExam_30 : decode cX6_hasExam 30 = .ok (.aload_n 0, 1) := by decide +kernel
theorem dX6_hasExam_31 : decode cX6_hasExam 31 = .ok (.iload_n 1, 1) := by decide +kernel
theorem dX6_hasExam_32 : decode cX6_hasExam 32 = .ok (.iload_n 2, 1) := by decide +kernel
theorem dX6_hasExam_33 : decode cX6_hasExam 33 = .ok (.invokevirtual 156, 3) := by decide +kernel
theorem dX6_hasExam_36 : decode cX6_hasExam 36 = .ok (.ireturn, 1) := by decide +kernel
theorem dX6_isGraduate_0 : decode cX6_isGraduate 0 = .ok (.aload_n 0, 1) := by decide +kernel
theorem dX6_isGraduate_1 : decode cX6_isGraduate 1 = .ok (.iconst 0, 1) := by decide +kernel
theorem dX6_isGraduate_2 : decode cX6_isGraduate 2 = .ok (.putfield 1, 3) := by decide +kernel
theorem dX6_isGraduate_5 : decode cX6_isGraduate 5 = .ok (.aload_n 0, 1) := by decide +kernel
theorem dX6_isGraduate_6 : decode cX6_isGraduate 6 = .ok (.iload_n 1, 1) := by decide +kernel
theorem dX6_isGraduate_7 : decode cX6_isGraduate 7 = .ok (.invokevirtual 110, 3) := by decide +kernel
theorem dX6_isGraduate_10 : decode cX6_isGraduate 10 = .ok (.ifCond .ne 17, 3) := by decide +kernel
theorem dX6_isGraduate_13 : decode cX6_isGraduate 13 = .ok (.aload_n 0, 1) := by decide +kernel
theorem dX6_isGraduate_14 : decode cX6_isGraduate 14 = .ok (.iconst 1, 1) := by decide +kernel
theorem dX6_isGraduate_15 : decode cX6_isGraduate 15 = .ok (.invokevirtual 84, 3) := by decide +kernel
theorem dX6_isGraduate_18 : decode cX6_isGraduate 18 = .ok (.ifCond .le 7, 3) := by decide +kernel
theorem dX6_isGraduate_21 : decode cX6_isGraduate 21 = .ok (.iconst 1, 1) := by decide +kernel
theorem dX6_isGraduate_22 : decode cX6_isGraduate 22 = .ok (.goto 4, 3) := by decide +kernel
theorem dX6_isGraduate_25 : decode cX6_isGraduate 25 = .ok (.iconst 0, 1) := by decide +kernel
theorem dX6_isGraduate_26 : decode cX6_isGraduate 26 = .ok (.ireturn, 1) := by decide +kernel
theorem dX6_isGraduate_27 : decode cX6_isGraduate 27 = .ok (.aload_n 0, 1) := by decide +kernel
theorem dX6_isGraduate_28 : decode cX6_isGraduate 28 = .ok (.iload_n 1, 1) := by decide +kernel
theorem dX6_isGraduate_29 : decode cX6_isGraduate 29 = .ok (.bipush 7, 2) := by decide +kernel
theorem dX6_isGraduate_31 : decode cX6_isGraduate 31 = .ok (.invokevirtual 62, 3) := by decide +kernel
theorem dX6_isGraduate_34 : decode cX6_isGraduate 34 = .ok (.bipush 15, 2) := by decide +kernel
theorem dX6_isGraduate_36 : decode cX6_isGraduate 36 = .ok (.if_icmp .ne 7, 3) := by decide +kernel
theorem dX6_isGraduate_39 : decode cX6_isGraduate 39 = .ok (.iconst 1, 1) := by decide +kernel
theorem dX6_isGraduate_40 : decode cX6_isGraduate 40 = .ok (.goto 4, 3) := by decide +kernel
theorem dX6_isGraduate_43 : decode cX6_isGraduate 43 = .ok (.iconst 0, 1) := by decide +kernel
theorem dX6_isGraduate_44 : decode cX6_isGraduate 44 = .ok (.ireturn, 1) := by decide +kernel
theorem dX6_totalReward_0 : decode cX6_totalReward 0 = .ok (.aload_n 0, 1) := by decide +kernel
theorem dX6_totalReward_1 : decode cX6_totalReward 1 = .ok (.iload_n 1, 1) := by decide +kernel
theorem dX6_totalReward_2 : decode cX6_totalReward 2 = .ok (.iconst 4, 1) := by decide +kernel
theorem dX6_totalReward_3 : decode cX6_totalReward 3 = .ok (.invokevirtual 172, 3) := by decide +kernel
theorem dX6_totalReward_6 : decode cX6_totalReward 6 = .ok (.ireturn, 1) := by decide +kernel
theorem dX6_termReward_0 : decode cX6_termReward 0 = .ok (.aload_n 0, 1) := by decide +kernel
theorem dX6_termReward_1 : decode cX6_termReward 1 = .ok (.iload_n 1, 1) := by decide +kernel
theorem dX6_termReward_2 : decode cX6_termReward 2 = .ok (.iconst 5, 1) := by decide +kernel
theorem dX6_termReward_3 : decode cX6_termReward 3 = .ok (.invokevirtual 172, 3) := by decide +kernel
theorem dX6_termReward_6 : decode cX6_termReward 6 = .ok (.ireturn, 1) := by decide +kernel
theorem dX6_stars_0 : decode cX6_stars 0 = .ok (.aload_n 0, 1) := by decide +kernel
theorem dX6_stars_1 : decode cX6_stars 1 = .ok (.iload_n 1, 1) := by decide +kernel
theorem dX6_stars_2 : decode cX6_stars 2 = .ok (.bipush 6, 2) := by decide +kernel
theorem dX6_stars_4 : decode cX6_stars 4 = .ok (.invokevirtual 172, 3) := by decide +kernel
theorem dX6_stars_7 : decode cX6_stars 7 = .ok (.ireturn, 1) := by decide +kernel
theorem dX6_isAhead_0 : decode cX6_isAhead 0 = .ok (.aload_n 0, 1) := by decide +kernel
theorem dX6_isAhead_1 : decode cX6_isAhead 1 = .ok (.iload_n 1, 1) := by decide +kernel
theorem dX6_isAhead_2 : decode cX6_isAhead 2 = .ok (.bipush 6, 2) := by decide +kernel
theorem dX6_isAhead_4 : decode cX6_isAhead 4 = .ok (.invokevirtual 62, 3) := by decide +kernel
theorem dX6_isAhead_7 : decode cX6_isAhead 7 = .ok (.aload_n 0, 1) := by decide +kernel
theorem dX6_isAhead_8 : decode cX6_isAhead 8 = .ok (.iload_n 2, 1) := by decide +kernel
theorem dX6_isAhead_9 : decode cX6_isAhead 9 = .ok (.bipush 6, 2) := by decide +kernel
theorem dX6_isAhead_11 : decode cX6_isAhead 11 = .ok (.invokevirtual 62, 3) := by decide +kernel
theorem dX6_isAhead_14 : decode cX6_isAhead 14 = .ok (.isub, 1) := by decide +kernel
theorem dX6_isAhead_15 : decode cX6_isAhead 15 = .ok (.istore_n 3, 1) := by decide +kernel
theorem dX6_isAhead_16 : decode cX6_isAhead 16 = .ok (.aload_n 0, 1) := by decide +kernel
theorem dX6_isAhead_17 : decode cX6_isAhead 17 = .ok (.iload_n 1, 1) := by decide +kernel
theorem dX6_isAhead_18 : decode cX6_isAhead 18 = .ok (.iconst 4, 1) := by decide +kernel
theorem dX6_isAhead_19 : decode cX6_isAhead 19 = .ok (.invokevirtual 62, 3) := by decide +kernel
theorem dX6_isAhead_22 : decode cX6_isAhead 22 = .ok (.aload_n 0, 1) := by decide +kernel
theorem dX6_isAhead_23 : decode cX6_isAhead 23 = .ok (.iload_n 2, 1) := by decide +kernel
theorem dX6_isAhead_24 : decode cX6_isAhead 24 = .ok (.iconst 4, 1) := by decide +kernel
theorem dX6_isAhead_25 : decode cX6_isAhead 25 = .ok (.invokevirtual 62, 3) := by decide +kernel
theorem dX6_isAhead_28 : decode cX6_isAhead 28 = .ok (.isub, 1) := by decide +kernel
theorem dX6_isAhead_29 : decode cX6_isAhead 29 = .ok (.istore 4, 2) := by decide +kernel
theorem dX6_isAhead_31 : decode cX6_isAhead 31 = .ok (.iload_n 3, 1) := by decide +kernel
theorem dX6_isAhead_32 : decode cX6_isAhead 32 = .ok (.ifCond .eq 13, 3) := by decide +kernel
theorem dX6_isAhead_35 : decode cX6_isAhead 35 = .ok (.iload_n 3, 1) := by decide +kernel
theorem dX6_isAhead_36 : decode cX6_isAhead 36 = .ok (.ifCond .le 7, 3) := by decide +kernel
theorem dX6_isAhead_39 : decode cX6_isAhead 39 = .ok (.iconst 1, 1) := by decide +kernel
theorem dX6_isAhead_40 : decode cX6_isAhead 40 = .ok (.goto 4, 3) := by decide +kernel
theorem dX6_isAhead_43 : decode cX6_isAhead 43 = .ok (.iconst 0, 1) := by decide +kernel
theorem dX6_isAhead_44 : decode cX6_isAhead 44 = .ok (.ireturn, 1) := by decide +kernel
theorem dX6_isAhead_45 : decode cX6_isAhead 45 = .ok (.iload 4, 2) := by decide +kernel
theorem dX6_isAhead_47 : decode cX6_isAhead 47 = .ok (.ifCond .eq 16, 3) := by decide +kernel
theorem dX6_isAhead_50 : decode cX6_isAhead 50 = .ok (.iload 4, 2) := by decide +kernel
theorem dX6_isAhead_52 : decode cX6_isAhead 52 = .ok (.ifCond .le 7, 3) := by decide +kernel
theorem dX6_isAhead_55 : decode cX6_isAhead 55 = .ok (.iconst 1, 1) := by decide +kernel
theorem dX6_isAhead_56 : decode cX6_isAhead 56 = .ok (.goto 17, 3) := by decide +kernel
theorem dX6_isAhead_59 : decode cX6_isAhead 59 = .ok (.iconst 0, 1) := by decide +kernel
theorem dX6_isAhead_60 : decode cX6_isAhead 60 = .ok (.goto 13, 3) := by decide +kernel
theorem dX6_isAhead_63 : decode cX6_isAhead 63 = .ok (.iload_n 1, 1) := by decide +kernel
theorem dX6_isAhead_64 : decode cX6_isAhead 64 = .ok (.iload_n 2, 1) := by decide +kernel
theorem dX6_isAhead_65 : decode cX6_isAhead 65 = .ok (.if_icmp .ge 7, 3) := by decide +kernel
theorem dX6_isAhead_68 : decode cX6_isAhead 68 = .ok (.iconst 1, 1) := by decide +kernel
theorem dX6_isAhead_69 : decode cX6_isAhead 69 = .ok (.goto 4, 3) := by decide +kernel
theorem dX6_isAhead_72 : decode cX6_isAhead 72 = .ok (.iconst 0, 1) := by decide +kernel
theorem dX6_isAhead_73 : decode cX6_isAhead 73 = .ok (.ireturn, 1) := by decide +kernel
theorem dX6_umbrellaByStars_0 : decode cX6_umbrellaByStars 0 = .ok (.aload_n 0, 1) := by decide +kernel
theorem dX6_umbrellaByStars_1 : decode cX6_umbrellaByStars 1 = .ok (.iconst 0, 1) := by decide +kernel
theorem dX6_umbrellaByStars_2 : decode cX6_umbrellaByStars 2 = .ok (.putfield 1, 3) := by decide +kernel
theorem dX6_umbrellaByStars_5 : decode cX6_umbrellaByStars 5 = .ok (.iconst 0, 1) := by decide +kernel
theorem dX6_umbrellaByStars_6 : decode cX6_umbrellaByStars 6 = .ok (.istore_n 2, 1) := by decide +kernel
theorem dX6_umbrellaByStars_7 : decode cX6_umbrellaByStars 7 = .ok (.iload_n 2, 1) := by decide +kernel
theorem dX6_umbrellaByStars_8 : decode cX6_umbrellaByStars 8 = .ok (.aload_n 0, 1) := by decide +kernel
theorem dX6_umbrellaByStars_9 : decode cX6_umbrellaByStars 9 = .ok (.getfield 13, 3) := by decide +kernel
theorem dX6_umbrellaByStars_12 : decode cX6_umbrellaByStars 12 = .ok (.iconst 0, 1) := by decide +kernel
theorem dX6_umbrellaByStars_13 : decode cX6_umbrellaByStars 13 = .ok (.iaload, 1) := by decide +kernel
theorem dX6_umbrellaByStars_14 : decode cX6_umbrellaByStars 14 = .ok (.if_icmp .ge 56, 3) := by decide +kernel
theorem dX6_umbrellaByStars_17 : decode cX6_umbrellaByStars 17 = .ok (.iconst 0, 1) := by decide +kernel
theorem dX6_umbrellaByStars_18 : decode cX6_umbrellaByStars 18 = .ok (.istore_n 3, 1) := by decide +kernel
theorem dX6_umbrellaByStars_19 : decode cX6_umbrellaByStars 19 = .ok (.iconst 0, 1) := by decide +kernel
theorem dX6_umbrellaByStars_20 : decode cX6_umbrellaByStars 20 = .ok (.istore 4, 2) := by decide +kernel
theorem dX6_umbrellaByStars_22 : decode cX6_umbrellaByStars 22 = .ok (.iload 4, 2) := by decide +kernel
theorem dX6_umbrellaByStars_24 : decode cX6_umbrellaByStars 24 = .ok (.aload_n 0, 1) := by decide +kernel
theorem dX6_umbrellaByStars_25 : decode cX6_umbrellaByStars 25 = .ok (.getfield 13, 3) := by decide +kernel
theorem dX6_umbrellaByStars_28 : decode cX6_umbrellaByStars 28 = .ok (.iconst 0, 1) := by decide +kernel
theorem dX6_umbrellaByStars_29 : decode cX6_umbrellaByStars 29 = .ok (.iaload, 1) := by decide +kernel
theorem dX6_umbrellaByStars_30 : decode cX6_umbrellaByStars 30 = .ok (.if_icmp .ge 27, 3) := by decide +kernel
theorem dX6_umbrellaByStars_33 : decode cX6_umbrellaByStars 33 = .ok (.iload_n 3, 1) := by decide +kernel
theorem dX6_umbrellaByStars_34 : decode cX6_umbrellaByStars 34 = .ok (.aload_n 0, 1) := by decide +kernel
theorem dX6_umbrellaByStars_35 : decode cX6_umbrellaByStars 35 = .ok (.iload 4, 2) := by decide +kernel
theorem dX6_umbrellaByStars_37 : decode cX6_umbrellaByStars 37 = .ok (.iload_n 2, 1) := by decide +kernel
theorem dX6_umbrellaByStars_38 : decode cX6_umbrellaByStars 38 = .ok (.invokevirtual 191, 3) := by decide +kernel
theorem dX6_umbrellaByStars_41 : decode cX6_umbrellaByStars 41 = .ok (.ifCond .eq 7, 3) := by decide +kernel
theorem dX6_umbrellaByStars_44 : decode cX6_umbrellaByStars 44 = .ok (.iconst 1, 1) := by decide +kernel
theorem dX6_umbrellaByStars_45 : decode cX6_umbrellaByStars 45 = .ok (.goto 4, 3) := by decide +kernel
theorem dX6_umbrellaByStars_48 : decode cX6_umbrellaByStars 48 = .ok (.iconst 0, 1) := by decide +kernel
theorem dX6_umbrellaByStars_49 : decode cX6_umbrellaByStars 49 = .ok (.iadd, 1) := by decide +kernel
theorem dX6_umbrellaByStars_50 : decode cX6_umbrellaByStars 50 = .ok (.istore_n 3, 1) := by decide +kernel
theorem dX6_umbrellaByStars_51 : decode cX6_umbrellaByStars 51 = .ok (.iinc 4 1, 3) := by decide +kernel
theorem dX6_umbrellaByStars_54 : decode cX6_umbrellaByStars 54 = .ok (.goto (-32), 3) := by decide +kernel
theorem dX6_umbrellaByStars_57 : decode cX6_umbrellaByStars 57 = .ok (.iload_n 3, 1) := by decide +kernel
theorem dX6_umbrellaByStars_58 : decode cX6_umbrellaByStars 58 = .ok (.iload_n 1, 1) := by decide +kernel
theorem dX6_umbrellaByStars_59 : decode cX6_umbrellaByStars 59 = .ok (.if_icmp .ne 5, 3) := by decide +kernel
theorem dX6_umbrellaByStars_62 : decode cX6_umbrellaByStars 62 = .ok (.iload_n 2, 1) := by decide +kernel
theorem dX6_umbrellaByStars_63 : decode cX6_umbrellaByStars 63 = .ok (.ireturn, 1) := by decide +kernel
theorem dX6_umbrellaByStars_64 : decode cX6_umbrellaByStars 64 = .ok (.iinc 2 1, 3) := by decide +kernel
theorem dX6_umbrellaByStars_67 : decode cX6_umbrellaByStars 67 = .ok (.goto (-60), 3) := by decide +kernel
theorem dX6_umbrellaByStars_70 : decode cX6_umbrellaByStars 70 = .ok (.aload_n 0, 1) := by decide +kernel
theorem dX6_umbrellaByStars_71 : decode cX6_umbrellaByStars 71 = .ok (.iconst 1, 1) := by decide +kernel
theorem dX6_umbrellaByStars_72 : decode cX6_umbrellaByStars 72 = .ok (.invokevirtual 84, 3) := by decide +kernel
theorem dX6_umbrellaByStars_75 : decode cX6_umbrellaByStars 75 = .ok (.ireturn, 1) := by decide +kernel
theorem dX6_wetPenalty_0 : decode cX6_wetPenalty 0 = .ok (.aload_n 0, 1) := by decide +kernel
theorem dX6_wetPenalty_1 : decode cX6_wetPenalty 1 = .ok (.iconst 1, 1) := by decide +kernel
theorem dX6_wetPenalty_2 : decode cX6_wetPenalty 2 = .ok (.invokevirtual 169, 3) := by decide +kernel
theorem dX6_wetPenalty_5 : decode cX6_wetPenalty 5 = .ok (.ireturn, 1) := by decide +kernel
theorem dX6_galePenalty_0 : decode cX6_galePenalty 0 = .ok (.aload_n 0, 1) := by decide +kernel
theorem dX6_galePenalty_1 : decode cX6_galePenalty 1 = .ok (.iconst 2, 1) := by decide +kernel
theorem dX6_galePenalty_2 : decode cX6_galePenalty 2 = .ok (.invokevirtual 169, 3) := by decide +kernel
theorem dX6_galePenalty_5 : decode cX6_galePenalty 5 = .ok (.ireturn, 1) := by decide +kernel
theorem dX6_term_0 : decode cX6_term 0 = .ok (.aload_n 0, 1) := by decide +kernel
theorem dX6_term_1 : decode cX6_term 1 = .ok (.iconst 3, 1) := by decide +kernel
theorem dX6_term_2 : decode cX6_term 2 = .ok (.invokevirtual 169, 3) := by decide +kernel
theorem dX6_term_5 : decode cX6_term 5 = .ok (.ireturn, 1) := by decide +kernel
theorem dX6_rewardAll_0 : decode cX6_rewardAll 0 = .ok (.iconst 0, 1) := by decide +kernel
theorem dX6_rewardAll_1 : decode cX6_rewardAll 1 = .ok (.istore_n 1, 1) := by decide +kernel
theorem dX6_rewardAll_2 : decode cX6_rewardAll 2 = .ok (.iconst 0, 1) := by decide +kernel
theorem dX6_rewardAll_3 : decode cX6_rewardAll 3 = .ok (.istore_n 2, 1) := by decide +kernel
theorem dX6_rewardAll_4 : decode cX6_rewardAll 4 = .ok (.iload_n 2, 1) := by decide +kernel
theorem dX6_rewardAll_5 : decode cX6_rewardAll 5 = .ok (.aload_n 0, 1) := by decide +kernel
theorem dX6_rewardAll_6 : decode cX6_rewardAll 6 = .ok (.getfield 13, 3) := by decide +kernel
theorem dX6_rewardAll_9 : decode cX6_rewardAll 9 = .ok (.iconst 0, 1) := by decide +kernel
theorem dX6_rewardAll_10 : decode cX6_rewardAll 10 = .ok (.iaload, 1) := by decide +kernel
theorem dX6_rewardAll_11 : decode cX6_rewardAll 11 = .ok (.if_icmp .ge 18, 3) := by decide +kernel
theorem dX6_rewardAll_14 : decode cX6_rewardAll 14 = .ok (.iload_n 1, 1) := by decide +kernel
theorem dX6_rewardAll_15 : decode cX6_rewardAll 15 = .ok (.aload_n 0, 1) := by decide +kernel
theorem dX6_rewardAll_16 : decode cX6_rewardAll 16 = .ok (.iload_n 2, 1) := by decide +kernel
theorem dX6_rewardAll_17 : decode cX6_rewardAll 17 = .ok (.iconst 4, 1) := by decide +kernel
theorem dX6_rewardAll_18 : decode cX6_rewardAll 18 = .ok (.invokevirtual 62, 3) := by decide +kernel
theorem dX6_rewardAll_21 : decode cX6_rewardAll 21 = .ok (.iadd, 1) := by decide +kernel
theorem dX6_rewardAll_22 : decode cX6_rewardAll 22 = .ok (.istore_n 1, 1) := by decide +kernel
theorem dX6_rewardAll_23 : decode cX6_rewardAll 23 = .ok (.iinc 2 1, 3) := by decide +kernel
theorem dX6_rewardAll_26 : decode cX6_rewardAll 26 = .ok (.goto (-22), 3) := by decide +kernel
theorem dX6_rewardAll_29 : decode cX6_rewardAll 29 = .ok (.iload_n 1, 1) := by decide +kernel
theorem dX6_rewardAll_30 : decode cX6_rewardAll 30 = .ok (.ireturn, 1) := by decide +kernel
theorem dX6_schoolReward_0 : decode cX6_schoolReward 0 = .ok (.aload_n 0, 1) := by decide +kernel
theorem dX6_schoolReward_1 : decode cX6_schoolReward 1 = .ok (.iconst 0, 1) := by decide +kernel
theorem dX6_schoolReward_2 : decode cX6_schoolReward 2 = .ok (.putfield 1, 3) := by decide +kernel
theorem dX6_schoolReward_5 : decode cX6_schoolReward 5 = .ok (.aload_n 0, 1) := by decide +kernel
theorem dX6_schoolReward_6 : decode cX6_schoolReward 6 = .ok (.invokevirtual 194, 3) := by decide +kernel
theorem dX6_schoolReward_9 : decode cX6_schoolReward 9 = .ok (.ireturn, 1) := by decide +kernel
theorem dX6_schoolRewardByActions_0 : decode cX6_schoolRewardByActions 0 = .ok (.aload_n 0, 1) := by decide +kernel
theorem dX6_schoolRewardByActions_1 : decode cX6_schoolRewardByActions 1 = .ok (.iconst 0, 1) := by decide +kernel
theorem dX6_schoolRewardByActions_2 : decode cX6_schoolRewardByActions 2 = .ok (.putfield 1, 3) := by decide +kernel
theorem dX6_schoolRewardByActions_5 : decode cX6_schoolRewardByActions 5 = .ok (.aload_n 0, 1) := by decide +kernel
theorem dX6_schoolRewardByActions_6 : decode cX6_schoolRewardByActions 6 = .ok (.getfield 13, 3) := by decide +kernel
theorem dX6_schoolRewardByActions_9 : decode cX6_schoolRewardByActions 9 = .ok (.iconst 4, 1) := by decide +kernel
theorem dX6_schoolRewardByActions_10 : decode cX6_schoolRewardByActions 10 = .ok (.iaload, 1) := by decide +kernel
theorem dX6_schoolRewardByActions_11 : decode cX6_schoolRewardByActions 11 = .ok (.aload_n 0, 1) := by decide +kernel
theorem dX6_schoolRewardByActions_12 : decode cX6_schoolRewardByActions 12 = .ok (.getfield 13, 3) := by decide +kernel
theorem dX6_schoolRewardByActions_15 : decode cX6_schoolRewardByActions 15 = .ok (.iconst 5, 1) := by decide +kernel
theorem dX6_schoolRewardByActions_16 : decode cX6_schoolRewardByActions 16 = .ok (.iaload, 1) := by decide +kernel
theorem dX6_schoolRewardByActions_17 : decode cX6_schoolRewardByActions 17 = .ok (.iadd, 1) := by decide +kernel
theorem dX6_schoolRewardByActions_18 : decode cX6_schoolRewardByActions 18 = .ok (.ireturn, 1) := by decide +kernel
theorem dX6_meanSchoolReward_0 : decode cX6_meanSchoolReward 0 = .ok (.aload_n 0, 1) := by decide +kernel
theorem dX6_meanSchoolReward_1 : decode cX6_meanSchoolReward 1 = .ok (.iconst 0, 1) := by decide +kernel
theorem dX6_meanSchoolReward_2 : decode cX6_meanSchoolReward 2 = .ok (.putfield 1, 3) := by decide +kernel
theorem dX6_meanSchoolReward_5 : decode cX6_meanSchoolReward 5 = .ok (.aload_n 0, 1) := by decide +kernel
theorem dX6_meanSchoolReward_6 : decode cX6_meanSchoolReward 6 = .ok (.getfield 13, 3) := by decide +kernel
theorem dX6_meanSchoolReward_9 : decode cX6_meanSchoolReward 9 = .ok (.bipush 7, 2) := by decide +kernel
theorem dX6_meanSchoolReward_11 : decode cX6_meanSchoolReward 11 = .ok (.iaload, 1) := by decide +kernel
theorem dX6_meanSchoolReward_12 : decode cX6_meanSchoolReward 12 = .ok (.ifCond .ne 12, 3) := by decide +kernel
theorem dX6_meanSchoolReward_15 : decode cX6_meanSchoolReward 15 = .ok (.aload_n 0, 1) := by decide +kernel
theorem dX6_meanSchoolReward_16 : decode cX6_meanSchoolReward 16 = .ok (.iconst 1, 1) := by decide +kernel
theorem dX6_meanSchoolReward_17 : decode cX6_meanSchoolReward 17 = .ok (.invokevirtual 84, 3) := by decide +kernel
theorem dX6_meanSchoolReward_20 : decode cX6_meanSchoolReward 20 = .ok (.i2d, 1) := by decide +kernel
theorem dX6_meanSchoolReward_21 : decode cX6_meanSchoolReward 21 = .ok (.goto 17, 3) := by decide +kernel
theorem dX6_meanSchoolReward_24 : decode cX6_meanSchoolReward 24 = .ok (.aload_n 0, 1) := by decide +kernel
theorem dX6_meanSchoolReward_25 : decode cX6_meanSchoolReward 25 = .ok (.invokevirtual 194, 3) := by decide +kernel
theorem dX6_meanSchoolReward_28 : decode cX6_meanSchoolReward 28 = .ok (.i2d, 1) := by decide +kernel
theorem dX6_meanSchoolReward_29 : decode cX6_meanSchoolReward 29 = .ok (.aload_n 0, 1) := by decide +kernel
theorem dX6_meanSchoolReward_30 : decode cX6_meanSchoolReward 30 = .ok (.getfield 13, 3) := by decide +kernel
theorem dX6_meanSchoolReward_33 : decode cX6_meanSchoolReward 33 = .ok (.bipush 7, 2) := by decide +kernel
theorem dX6_meanSchoolReward_35 : decode cX6_meanSchoolReward 35 = .ok (.iaload, 1) := by decide +kernel
theorem dX6_meanSchoolReward_36 : decode cX6_meanSchoolReward 36 = .ok (.i2d, 1) := by decide +kernel
theorem dX6_meanSchoolReward_37 : decode cX6_meanSchoolReward 37 = .ok (.ddiv, 1) := by decide +kernel
theorem dX6_meanSchoolReward_38 : decode cX6_meanSchoolReward 38 = .ok (.dreturn, 1) := by decide +kernel
theorem dX6_openShare_0 : decode cX6_openShare 0 = .ok (.aload_n 0, 1) := by decide +kernel
theorem dX6_openShare_1 : decode cX6_openShare 1 = .ok (.iconst 0, 1) := by decide +kernel
theorem dX6_openShare_2 : decode cX6_openShare 2 = .ok (.putfield 1, 3) := by decide +kernel
theorem dX6_openShare_5 : decode cX6_openShare 5 = .ok (.aload_n 0, 1) := by decide +kernel
theorem dX6_openShare_6 : decode cX6_openShare 6 = .ok (.getfield 13, 3) := by decide +kernel
theorem dX6_openShare_9 : decode cX6_openShare 9 = .ok (.bipush 7, 2) := by decide +kernel
theorem dX6_openShare_11 : decode cX6_openShare 11 = .ok (.iaload, 1) := by decide +kernel
theorem dX6_openShare_12 : decode cX6_openShare 12 = .ok (.ifCond .ne 12, 3) := by decide +kernel
theorem dX6_openShare_15 : decode cX6_openShare 15 = .ok (.aload_n 0, 1) := by decide +kernel
theorem dX6_openShare_16 : decode cX6_openShare 16 = .ok (.iconst 1, 1) := by decide +kernel
theorem dX6_openShare_17 : decode cX6_openShare 17 = .ok (.invokevirtual 84, 3) := by decide +kernel
theorem dX6_openShare_20 : decode cX6_openShare 20 = .ok (.i2f, 1) := by decide +kernel
theorem dX6_openShare_21 : decode cX6_openShare 21 = .ok (.goto 20, 3) := by decide +kernel
theorem dX6_openShare_24 : decode cX6_openShare 24 = .ok (.aload_n 0, 1) := by decide +kernel
theorem dX6_openShare_25 : decode cX6_openShare 25 = .ok (.getfield 13, 3) := by decide +kernel
theorem dX6_openShare_28 : decode cX6_openShare 28 = .ok (.bipush 6, 2) := by decide +kernel
theorem dX6_openShare_30 : decode cX6_openShare 30 = .ok (.iaload, 1) := by decide +kernel
theorem dX6_openShare_31 : decode cX6_openShare 31 = .ok (.i2f, 1) := by decide +kernel
theorem dX6_openShare_32 : decode cX6_openShare 32 = .ok (.aload_n 0, 1) := by decide +kernel
theorem dX6_openShare_33 : decode cX6_openShare 33 = .ok (.getfield 13, 3) := by decide +kernel
theorem dX6_openShare_36 : decode cX6_openShare 36 = .ok (.bipush 7, 2) := by decide +kernel
theorem dX6_openShare_38 : decode cX6_openShare 38 = .ok (.iaload, 1) := by decide +kernel
theorem dX6_openShare_39 : decode cX6_openShare 39 = .ok (.i2f, 1) := by decide +kernel
theorem dX6_openShare_40 : decode cX6_openShare 40 = .ok (.fdiv, 1) := by decide +kernel
theorem dX6_openShare_41 : decode cX6_openShare 41 = .ok (.freturn, 1) := by decide +kernel
theorem dX6_isConsistent_0 : decode cX6_isConsistent 0 = .ok (.aload_n 0, 1) := by decide +kernel
theorem dX6_isConsistent_1 : decode cX6_isConsistent 1 = .ok (.iconst 0, 1) := by decide +kernel
theorem dX6_isConsistent_2 : decode cX6_isConsistent 2 = .ok (.putfield 1, 3) := by decide +kernel
theorem dX6_isConsistent_5 : decode cX6_isConsistent 5 = .ok (.iconst 0, 1) := by decide +kernel
theorem dX6_isConsistent_6 : decode cX6_isConsistent 6 = .ok (.istore_n 1, 1) := by decide +kernel
theorem dX6_isConsistent_7 : decode cX6_isConsistent 7 = .ok (.iconst 0, 1) := by decide +kernel
theorem dX6_isConsistent_8 : decode cX6_isConsistent 8 = .ok (.istore_n 2, 1) := by decide +kernel
theorem dX6_isConsistent_9 : decode cX6_isConsistent 9 = .ok (.iload_n 2, 1) := by decide +kernel
theorem dX6_isConsistent_10 : decode cX6_isConsistent 10 = .ok (.aload_n 0, 1) := by decide +kernel
theorem dX6_isConsistent_11 : decode cX6_isConsistent 11 = .ok (.getfield 13, 3) := by decide +kernel
theorem dX6_isConsistent_14 : decode cX6_isConsistent 14 = .ok (.iconst 0, 1) := by decide +kernel
theorem dX6_isConsistent_15 : decode cX6_isConsistent 15 = .ok (.iaload, 1) := by decide +kernel
theorem dX6_isConsistent_16 : decode cX6_isConsistent 16 = .ok (.if_icmp .ge 36, 3) := by decide +kernel
theorem dX6_isConsistent_19 : decode cX6_isConsistent 19 = .ok (.iload_n 1, 1) := by decide +kernel
theorem dX6_isConsistent_20 : decode cX6_isConsistent 20 = .ok (.aload_n 0, 1) := by decide +kernel
theorem dX6_isConsistent_21 : decode cX6_isConsistent 21 = .ok (.iload_n 2, 1) := by decide +kernel
theorem dX6_isConsistent_22 : decode cX6_isConsistent 22 = .ok (.bipush 6, 2) := by decide +kernel
theorem dX6_isConsistent_24 : decode cX6_isConsistent 24 = .ok (.invokevirtual 62, 3) := by decide +kernel
theorem dX6_isConsistent_27 : decode cX6_isConsistent 27 = .ok (.iadd, 1) := by decide +kernel
theorem dX6_isConsistent_28 : decode cX6_isConsistent 28 = .ok (.istore_n 1, 1) := by decide +kernel
theorem dX6_isConsistent_29 : decode cX6_isConsistent 29 = .ok (.aload_n 0, 1) := by decide +kernel
theorem dX6_isConsistent_30 : decode cX6_isConsistent 30 = .ok (.iload_n 2, 1) := by decide +kernel
theorem dX6_isConsistent_31 : decode cX6_isConsistent 31 = .ok (.iconst 3, 1) := by decide +kernel
theorem dX6_isConsistent_32 : decode cX6_isConsistent 32 = .ok (.invokevirtual 62, 3) := by decide +kernel
theorem dX6_isConsistent_35 : decode cX6_isConsistent 35 = .ok (.aload_n 0, 1) := by decide +kernel
theorem dX6_isConsistent_36 : decode cX6_isConsistent 36 = .ok (.iload_n 2, 1) := by decide +kernel
theorem dX6_isConsistent_37 : decode cX6_isConsistent 37 = .ok (.iconst 0, 1) := by decide +kernel
theorem dX6_isConsistent_38 : decode cX6_isConsistent 38 = .ok (.invokevirtual 62, 3) := by decide +kernel
theorem dX6_isConsistent_41 : decode cX6_isConsistent 41 = .ok (.if_icmp .le 5, 3) := by decide +kernel
theorem dX6_isConsistent_44 : decode cX6_isConsistent 44 = .ok (.iconst 0, 1) := by decide +kernel
theorem dX6_isConsistent_45 : decode cX6_isConsistent 45 = .ok (.ireturn, 1) := by decide +kernel
theorem dX6_isConsistent_46 : decode cX6_isConsistent 46 = .ok (.iinc 2 1, 3) := by decide +kernel
theorem dX6_isConsistent_49 : decode cX6_isConsistent 49 = .ok (.goto (-40), 3) := by decide +kernel
theorem dX6_isConsistent_52 : decode cX6_isConsistent 52 = .ok (.iload_n 1, 1) := by decide +kernel
theorem dX6_isConsistent_53 : decode cX6_isConsistent 53 = .ok (.aload_n 0, 1) := by decide +kernel
theorem dX6_isConsistent_54 : decode cX6_isConsistent 54 = .ok (.getfield 13, 3) := by decide +kernel
theorem dX6_isConsistent_57 : decode cX6_isConsistent 57 = .ok (.iconst 3, 1) := by decide +kernel
theorem dX6_isConsistent_58 : decode cX6_isConsistent 58 = .ok (.iaload, 1) := by decide +kernel
theorem dX6_isConsistent_59 : decode cX6_isConsistent 59 = .ok (.if_icmp .ne 27, 3) := by decide +kernel
theorem dX6_isConsistent_62 : decode cX6_isConsistent 62 = .ok (.aload_n 0, 1) := by decide +kernel
theorem dX6_isConsistent_63 : decode cX6_isConsistent 63 = .ok (.invokevirtual 194, 3) := by decide +kernel
theorem dX6_isConsistent_66 : decode cX6_isConsistent 66 = .ok (.aload_n 0, 1) := by decide +kernel
theorem dX6_isConsistent_67 : decode cX6_isConsistent 67 = .ok (.getfield 13, 3) := by decide +kernel
theorem dX6_isConsistent_70 : decode cX6_isConsistent 70 = .ok (.iconst 4, 1) := by decide +kernel
theorem dX6_isConsistent_71 : decode cX6_isConsistent 71 = .ok (.iaload, 1) := by decide +kernel
theorem dX6_isConsistent_72 : decode cX6_isConsistent 72 = .ok (.aload_n 0, 1) := by decide +kernel
theorem dX6_isConsistent_73 : decode cX6_isConsistent 73 = .ok (.getfield 13, 3) := by decide +kernel
theorem dX6_isConsistent_76 : decode cX6_isConsistent 76 = .ok (.iconst 5, 1) := by decide +kernel
theorem dX6_isConsistent_77 : decode cX6_isConsistent 77 = .ok (.iaload, 1) := by decide +kernel
theorem dX6_isConsistent_78 : decode cX6_isConsistent 78 = .ok (.iadd, 1) := by decide +kernel
theorem dX6_isConsistent_79 : decode cX6_isConsistent 79 = .ok (.if_icmp .ne 7, 3) := by decide +kernel
theorem dX6_isConsistent_82 : decode cX6_isConsistent 82 = .ok (.iconst 1, 1) := by decide +kernel
theorem dX6_isConsistent_83 : decode cX6_isConsistent 83 = .ok (.goto 4, 3) := by decide +kernel
theorem dX6_isConsistent_86 : decode cX6_isConsistent 86 = .ok (.iconst 0, 1) := by decide +kernel
theorem dX6_isConsistent_87 : decode cX6_isConsistent 87 = .ok (.ireturn, 1) := by decide +kernel
theorem dX6_writes_0 : decode cX6_writes 0 = .ok (.aload_n 0, 1) := by decide +kernel
theorem dX6_writes_1 : decode cX6_writes 1 = .ok (.getfield 26, 3) := by decide +kernel
theorem dX6_writes_4 : decode cX6_writes 4 = .ok (.aload_n 0, 1) := by decide +kernel
theorem dX6_writes_5 : decode cX6_writes 5 = .ok (.getfield 197, 3) := by decide +kernel
theorem dX6_writes_8 : decode cX6_writes 8 = .ok (.iload_n 1, 1) := by decide +kernel
theorem dX6_writes_9 : decode cX6_writes 9 = .ok (.i2c, 1) := by decide +kernel
theorem dX6_writes_10 : decode cX6_writes 10 = .ok (.castore, 1) := by decide +kernel
theorem dX6_writes_11 : decode cX6_writes 11 = .ok (.aload_n 0, 1) := by decide +kernel
theorem dX6_writes_12 : decode cX6_writes 12 = .ok (.dup, 1) := by decide +kernel
theorem dX6_writes_13 : decode cX6_writes 13 = .ok (.getfield 197, 3) := by decide +kernel
theorem dX6_writes_16 : decode cX6_writes 16 = .ok (.iconst 1, 1) := by decide +kernel
theorem dX6_writes_17 : decode cX6_writes 17 = .ok (.iadd, 1) := by decide +kernel
theorem dX6_writes_18 : decode cX6_writes 18 = .ok (.putfield 197, 3) := by decide +kernel
theorem dX6_writes_21 : decode cX6_writes 21 = .ok (.return_, 1) := by decide +kernel
theorem dX6_writesNumber_0 : decode cX6_writesNumber 0 = .ok (.iconst 1, 1) := by decide +kernel
theorem dX6_writesNumber_1 : decode cX6_writesNumber 1 = .ok (.istore_n 2, 1) := by decide +kernel
theorem dX6_writesNumber_2 : decode cX6_writesNumber 2 = .ok (.iload_n 1, 1) := by decide +kernel
theorem dX6_writesNumber_3 : decode cX6_writesNumber 3 = .ok (.iload_n 2, 1) := by decide +kernel
theorem dX6_writesNumber_4 : decode cX6_writesNumber 4 = .ok (.idiv, 1) := by decide +kernel
theorem dX6_writesNumber_5 : decode cX6_writesNumber 5 = .ok (.bipush 9, 2) := by decide +kernel
theorem dX6_writesNumber_7 : decode cX6_writesNumber 7 = .ok (.if_icmp .le 11, 3) := by decide +kernel
theorem dX6_writesNumber_10 : decode cX6_writesNumber 10 = .ok (.iload_n 2, 1) := by decide +kernel
theorem dX6_writesNumber_11 : decode cX6_writesNumber 11 = .ok (.bipush 10, 2) := by decide +kernel
theorem dX6_writesNumber_13 : decode cX6_writesNumber 13 = .ok (.imul, 1) := by decide +kernel
theorem dX6_writesNumber_14 : decode cX6_writesNumber 14 = .ok (.istore_n 2, 1) := by decide +kernel
theorem dX6_writesNumber_15 : decode cX6_writesNumber 15 = .ok (.goto (-13), 3) := by decide +kernel
theorem dX6_writesNumber_18 : decode cX6_writesNumber 18 = .ok (.iload_n 2, 1) := by decide +kernel
theorem dX6_writesNumber_19 : decode cX6_writesNumber 19 = .ok (.istore_n 3, 1) := by decide +kernel
theorem dX6_writesNumber_20 : decode cX6_writesNumber 20 = .ok (.iload_n 3, 1) := by decide +kernel
theorem dX6_writesNumber_21 : decode cX6_writesNumber 21 = .ok (.ifCond .le 24, 3) := by decide +kernel
theorem dX6_writesNumber_24 : decode cX6_writesNumber 24 = .ok (.aload_n 0, 1) := by decide +kernel
theorem dX6_writesNumber_25 : decode cX6_writesNumber 25 = .ok (.bipush 48, 2) := by decide +kernel
theorem dX6_writesNumber_27 : decode cX6_writesNumber 27 = .ok (.iload_n 1, 1) := by decide +kernel
theorem dX6_writesNumber_28 : decode cX6_writesNumber 28 = .ok (.iload_n 3, 1) := by decide +kernel
theorem dX6_writesNumber_29 : decode cX6_writesNumber 29 = .ok (.idiv, 1) := by decide +kernel
theorem dX6_writesNumber_30 : decode cX6_writesNumber 30 = .ok (.bipush 10, 2) := by decide +kernel
theorem dX6_writesNumber_32 : decode cX6_writesNumber 32 = .ok (.irem, 1) := by decide +kernel
theorem dX6_writesNumber_33 : decode cX6_writesNumber 33 = .ok (.iadd, 1) := by decide +kernel
theorem dX6_writesNumber_34 : decode cX6_writesNumber 34 = .ok (.invokevirtual 200, 3) := by decide +kernel
theorem dX6_writesNumber_37 : decode cX6_writesNumber 37 = .ok (.iload_n 3, 1) := by decide +kernel
theorem dX6_writesNumber_38 : decode cX6_writesNumber 38 = .ok (.bipush 10, 2) := by decide +kernel
theorem dX6_writesNumber_40 : decode cX6_writesNumber 40 = .ok (.idiv, 1) := by decide +kernel
theorem dX6_writesNumber_41 : decode cX6_writesNumber 41 = .ok (.istore_n 3, 1) := by decide +kernel
theorem dX6_writesNumber_42 : decode cX6_writesNumber 42 = .ok (.goto (-22), 3) := by decide +kernel
theorem dX6_writesNumber_45 : decode cX6_writesNumber 45 = .ok (.return_, 1) := by decide +kernel
theorem dX6_renderHabits_0 : decode cX6_renderHabits 0 = .ok (.aload_n 0, 1) := by decide +kernel
theorem dX6_renderHabits_1 : decode cX6_renderHabits 1 = .ok (.iconst 0, 1) := by decide +kernel
theorem dX6_renderHabits_2 : decode cX6_renderHabits 2 = .ok (.putfield 1, 3) := by decide +kernel
theorem dX6_renderHabits_5 : decode cX6_renderHabits 5 = .ok (.aload_n 0, 1) := by decide +kernel
theorem dX6_renderHabits_6 : decode cX6_renderHabits 6 = .ok (.iload_n 1, 1) := by decide +kernel
theorem dX6_renderHabits_7 : decode cX6_renderHabits 7 = .ok (.invokevirtual 110, 3) := by decide +kernel
theorem dX6_renderHabits_10 : decode cX6_renderHabits 10 = .ok (.ifCond .ne 9, 3) := by decide +kernel
theorem dX6_renderHabits_13 : decode cX6_renderHabits 13 = .ok (.aload_n 0, 1) := by decide +kernel
theorem dX6_renderHabits_14 : decode cX6_renderHabits 14 = .ok (.iconst 1, 1) := by decide +kernel
theorem dX6_renderHabits_15 : decode cX6_renderHabits 15 = .ok (.invokevirtual 84, 3) := by decide +kernel
theorem dX6_renderHabits_18 : decode cX6_renderHabits 18 = .ok (.ireturn, 1) := by decide +kernel
theorem dX6_renderHabits_19 : decode cX6_renderHabits 19 = .ok (.aload_n 0, 1) := by decide +kernel
theorem dX6_renderHabits_20 : decode cX6_renderHabits 20 = .ok (.iconst 0, 1) := by decide +kernel
theorem dX6_renderHabits_21 : decode cX6_renderHabits 21 = .ok (.putfield 197, 3) := by decide +kernel
theorem dX6_renderHabits_24 : decode cX6_renderHabits 24 = .ok (.iconst 0, 1) := by decide +kernel
theorem dX6_renderHabits_25 : decode cX6_renderHabits 25 = .ok (.istore_n 2, 1) := by decide +kernel
theorem dX6_renderHabits_26 : decode cX6_renderHabits 26 = .ok (.iload_n 2, 1) := by decide +kernel
theorem dX6_renderHabits_27 : decode cX6_renderHabits 27 = .ok (.bipush 16, 2) := by decide +kernel
theorem dX6_renderHabits_29 : decode cX6_renderHabits 29 = .ok (.if_icmp .ge 51, 3) := by decide +kernel
theorem dX6_renderHabits_32 : decode cX6_renderHabits 32 = .ok (.iload_n 2, 1) := by decide +kernel
theorem dX6_renderHabits_33 : decode cX6_renderHabits 33 = .ok (.ifCond .le 15, 3) := by decide +kernel
theorem dX6_renderHabits_36 : decode cX6_renderHabits 36 = .ok (.iload_n 2, 1) := by decide +kernel
theorem dX6_renderHabits_37 : decode cX6_renderHabits 37 = .ok (.iconst 4, 1) := by decide +kernel
theorem dX6_renderHabits_38 : decode cX6_renderHabits 38 = .ok (.irem, 1) := by decide +kernel
theorem dX6_renderHabits_39 : decode cX6_renderHabits 39 = .ok (.ifCond .ne 9, 3) := by decide +kernel
theorem dX6_renderHabits_42 : decode cX6_renderHabits 42 = .ok (.aload_n 0, 1) := by decide +kernel
theorem dX6_renderHabits_43 : decode cX6_renderHabits 43 = .ok (.bipush 47, 2) := by decide +kernel
theorem dX6_renderHabits_45 : decode cX6_renderHabits 45 = .ok (.invokevirtual 200, 3) := by decide +kernel
theorem dX6_renderHabits_48 : decode cX6_renderHabits 48 = .ok (.aload_n 0, 1) := by decide +kernel
theorem dX6_renderHabits_49 : decode cX6_renderHabits 49 = .ok (.aload_n 0, 1) := by decide +kernel
theorem dX6_renderHabits_50 : decode cX6_renderHabits 50 = .ok (.iload_n 1, 1) := by decide +kernel
theorem dX6_renderHabits_51 : decode cX6_renderHabits 51 = .ok (.iload_n 2, 1) := by decide +kernel
theorem dX6_renderHabits_52 : decode cX6_renderHabits 52 = .ok (.iconst 4, 1) := by decide +kernel
theorem dX6_renderHabits_53 : decode cX6_renderHabits 53 = .ok (.idiv, 1) := by decide +kernel
theorem dX6_renderHabits_54 : decode cX6_renderHabits 54 = .ok (.iload_n 2, 1) := by decide +kernel
theorem dX6_renderHabits_55 : decode cX6_renderHabits 55 = .ok (.iconst 4, 1) := by decide +kernel
theorem dX6_renderHabits_56 : decode cX6_renderHabits 56 = .ok (.irem, 1) := by decide +kernel
theorem dX6_renderHabits_57 : decode cX6_renderHabits 57 = .ok (.invokevirtual 96, 3) := by decide +kernel
theorem dX6_renderHabits_60 : decode cX6_renderHabits 60 = .ok (.iconst 1, 1) := by decide +kernel
theorem dX6_renderHabits_61 : decode cX6_renderHabits 61 = .ok (.if_icmp .ne 8, 3) := by decide +kernel
theorem dX6_renderHabits_64 : decode cX6_renderHabits 64 = .ok (.bipush 111, 2) := by decide +kernel
theorem dX6_renderHabits_66 : decode cX6_renderHabits 66 = .ok (.goto 5, 3) := by decide +kernel
theorem dX6_renderHabits_69 : decode cX6_renderHabits 69 = .ok (.bipush 99, 2) := by decide +kernel
theorem dX6_renderHabits_71 : decode cX6_renderHabits 71 = .ok (.invokevirtual 200, 3) := by decide +kernel
theorem dX6_renderHabits_74 : decode cX6_renderHabits 74 = .ok (.iinc 2 1, 3) := by decide +kernel
theorem dX6_renderHabits_77 : decode cX6_renderHabits 77 = .ok (.goto (-51), 3) := by decide +kernel
theorem dX6_renderHabits_80 : decode cX6_renderHabits 80 = .ok (.aload_n 0, 1) := by decide +kernel
theorem dX6_renderHabits_81 : decode cX6_renderHabits 81 = .ok (.getfield 197, 3) := by decide +kernel
theorem dX6_renderHabits_84 : decode cX6_renderHabits 84 = .ok (.ireturn, 1) := by decide +kernel
theorem dX6_renderUmbrella_0 : decode cX6_renderUmbrella 0 = .ok (.aload_n 0, 1) := by decide +kernel
theorem dX6_renderUmbrella_1 : decode cX6_renderUmbrella 1 = .ok (.iconst 0, 1) := by decide +kernel
theorem dX6_renderUmbrella_2 : decode cX6_renderUmbrella 2 = .ok (.putfield 1, 3) := by decide +kernel
theorem dX6_renderUmbrella_5 : decode cX6_renderUmbrella 5 = .ok (.aload_n 0, 1) := by decide +kernel
theorem dX6_renderUmbrella_6 : decode cX6_renderUmbrella 6 = .ok (.iload_n 1, 1) := by decide +kernel
theorem dX6_renderUmbrella_7 : decode cX6_renderUmbrella 7 = .ok (.invokevirtual 110, 3) := by decide +kernel
theorem dX6_renderUmbrella_10 : decode cX6_renderUmbrella 10 = .ok (.ifCond .ne 9, 3) := by decide +kernel
theorem dX6_renderUmbrella_13 : decode cX6_renderUmbrella 13 = .ok (.aload_n 0, 1) := by decide +kernel
theorem dX6_renderUmbrella_14 : decode cX6_renderUmbrella 14 = .ok (.iconst 1, 1) := by decide +kernel
theorem dX6_renderUmbrella_15 : decode cX6_renderUmbrella 15 = .ok (.invokevirtual 84, 3) := by decide +kernel
theorem dX6_renderUmbrella_18 : decode cX6_renderUmbrella 18 = .ok (.ireturn, 1) := by decide +kernel
theorem dX6_renderUmbrella_19 : decode cX6_renderUmbrella 19 = .ok (.aload_n 0, 1) := by decide +kernel
theorem dX6_renderUmbrella_20 : decode cX6_renderUmbrella 20 = .ok (.iconst 0, 1) := by decide +kernel
theorem dX6_renderUmbrella_21 : decode cX6_renderUmbrella 21 = .ok (.putfield 197, 3) := by decide +kernel
theorem dX6_renderUmbrella_24 : decode cX6_renderUmbrella 24 = .ok (.aload_n 0, 1) := by decide +kernel
theorem dX6_renderUmbrella_25 : decode cX6_renderUmbrella 25 = .ok (.aload_n 0, 1) := by decide +kernel
theorem dX6_renderUmbrella_26 : decode cX6_renderUmbrella 26 = .ok (.iload_n 1, 1) := by decide +kernel
theorem dX6_renderUmbrella_27 : decode cX6_renderUmbrella 27 = .ok (.iconst 3, 1) := by decide +kernel
theorem dX6_renderUmbrella_28 : decode cX6_renderUmbrella 28 = .ok (.invokevirtual 62, 3) := by decide +kernel
theorem dX6_renderUmbrella_31 : decode cX6_renderUmbrella 31 = .ok (.invokevirtual 204, 3) := by decide +kernel
theorem dX6_renderUmbrella_34 : decode cX6_renderUmbrella 34 = .ok (.aload_n 0, 1) := by decide +kernel
theorem dX6_renderUmbrella_35 : decode cX6_renderUmbrella 35 = .ok (.bipush 47, 2) := by decide +kernel
theorem dX6_renderUmbrella_37 : decode cX6_renderUmbrella 37 = .ok (.invokevirtual 200, 3) := by decide +kernel
theorem dX6_renderUmbrella_40 : decode cX6_renderUmbrella 40 = .ok (.aload_n 0, 1) := by decide +kernel
theorem dX6_renderUmbrella_41 : decode cX6_renderUmbrella 41 = .ok (.aload_n 0, 1) := by decide +kernel
theorem dX6_renderUmbrella_42 : decode cX6_renderUmbrella 42 = .ok (.iload_n 1, 1) := by decide +kernel
theorem dX6_renderUmbrella_43 : decode cX6_renderUmbrella 43 = .ok (.iconst 0, 1) := by decide +kernel
theorem dX6_renderUmbrella_44 : decode cX6_renderUmbrella 44 = .ok (.invokevirtual 62, 3) := by decide +kernel
theorem dX6_renderUmbrella_47 : decode cX6_renderUmbrella 47 = .ok (.invokevirtual 204, 3) := by decide +kernel
theorem dX6_renderUmbrella_50 : decode cX6_renderUmbrella 50 = .ok (.aload_n 0, 1) := by decide +kernel
theorem dX6_renderUmbrella_51 : decode cX6_renderUmbrella 51 = .ok (.bipush 112, 2) := by decide +kernel
theorem dX6_renderUmbrella_53 : decode cX6_renderUmbrella 53 = .ok (.invokevirtual 200, 3) := by decide +kernel
theorem dX6_renderUmbrella_56 : decode cX6_renderUmbrella 56 = .ok (.aload_n 0, 1) := by decide +kernel
theorem dX6_renderUmbrella_57 : decode cX6_renderUmbrella 57 = .ok (.aload_n 0, 1) := by decide +kernel
theorem dX6_renderUmbrella_58 : decode cX6_renderUmbrella 58 = .ok (.iload_n 1, 1) := by decide +kernel
theorem dX6_renderUmbrella_59 : decode cX6_renderUmbrella 59 = .ok (.iconst 1, 1) := by decide +kernel
theorem dX6_renderUmbrella_60 : decode cX6_renderUmbrella 60 = .ok (.invokevirtual 62, 3) := by decide +kernel
theorem dX6_renderUmbrella_63 : decode cX6_renderUmbrella 63 = .ok (.invokevirtual 204, 3) := by decide +kernel
theorem dX6_renderUmbrella_66 : decode cX6_renderUmbrella 66 = .ok (.aload_n 0, 1) := by decide +kernel
theorem dX6_renderUmbrella_67 : decode cX6_renderUmbrella 67 = .ok (.bipush 42, 2) := by decide +kernel
theorem dX6_renderUmbrella_69 : decode cX6_renderUmbrella 69 = .ok (.invokevirtual 200, 3) := by decide +kernel
theorem dX6_renderUmbrella_72 : decode cX6_renderUmbrella 72 = .ok (.aload_n 0, 1) := by decide +kernel
theorem dX6_renderUmbrella_73 : decode cX6_renderUmbrella 73 = .ok (.aload_n 0, 1) := by decide +kernel
theorem dX6_renderUmbrella_74 : decode cX6_renderUmbrella 74 = .ok (.iload_n 1, 1) := by decide +kernel
theorem dX6_renderUmbrella_75 : decode cX6_renderUmbrella 75 = .ok (.bipush 6, 2) := by decide +kernel
theorem dX6_renderUmbrella_77 : decode cX6_renderUmbrella 77 = .ok (.invokevirtual 62, 3) := by decide +kernel
theorem dX6_renderUmbrella_80 : decode cX6_renderUmbrella 80 = .ok (.invokevirtual 204, 3) := by decide +kernel
theorem dX6_renderUmbrella_83 : decode cX6_renderUmbrella 83 = .ok (.aload_n 0, 1) := by decide +kernel
theorem dX6_renderUmbrella_84 : decode cX6_renderUmbrella 84 = .ok (.bipush 58, 2) := by decide +kernel
theorem dX6_renderUmbrella_86 : decode cX6_renderUmbrella 86 = .ok (.invokevirtual 200, 3) := by decide +kernel
theorem dX6_renderUmbrella_89 : decode cX6_renderUmbrella 89 = .ok (.iconst 0, 1) := by decide +kernel
theorem dX6_renderUmbrella_90 : decode cX6_renderUmbrella 90 = .ok (.istore_n 2, 1) := by decide +kernel
theorem dX6_renderUmbrella_91 : decode cX6_renderUmbrella 91 = .ok (.iload_n 2, 1) := by decide +kernel
theorem dX6_renderUmbrella_92 : decode cX6_renderUmbrella 92 = .ok (.iconst 4, 1) := by decide +kernel
theorem dX6_renderUmbrella_93 : decode cX6_renderUmbrella 93 = .ok (.if_icmp .ge 26, 3) := by decide +kernel
theorem dX6_renderUmbrella_96 : decode cX6_renderUmbrella 96 = .ok (.aload_n 0, 1) := by decide +kernel
theorem dX6_renderUmbrella_97 : decode cX6_renderUmbrella 97 = .ok (.iload_n 1, 1) := by decide +kernel
theorem dX6_renderUmbrella_98 : decode cX6_renderUmbrella 98 = .ok (.iload_n 2, 1) := by decide +kernel
theorem dX6_renderUmbrella_99 : decode cX6_renderUmbrella 99 = .ok (.invokevirtual 156, 3) := by decide +kernel
theorem dX6_renderUmbrella_102 : decode cX6_renderUmbrella 102 = .ok (.ifCond .eq 11, 3) := by decide +kernel
theorem dX6_renderUmbrella_105 : decode cX6_renderUmbrella 105 = .ok (.aload_n 0, 1) := by decide +kernel
theorem dX6_renderUmbrella_106 : decode cX6_renderUmbrella 106 = .ok (.bipush 48, 2) := by decide +kernel
theorem dX6_renderUmbrella_108 : decode cX6_renderUmbrella 108 = .ok (.iload_n 2, 1) := by decide +kernel
theorem dX6_renderUmbrella_109 : decode cX6_renderUmbrella 109 = .ok (.iadd, 1) := by decide +kernel
theorem dX6_renderUmbrella_110 : decode cX6_renderUmbrella 110 = .ok (.invokevirtual 200, 3) := by decide +kernel
theorem dX6_renderUmbrella_113 : decode cX6_renderUmbrella 113 = .ok (.iinc 2 1, 3) := by decide +kernel
theorem dX6_renderUmbrella_116 : decode cX6_renderUmbrella 116 = .ok (.goto (-25), 3) := by decide +kernel
theorem dX6_renderUmbrella_119 : decode cX6_renderUmbrella 119 = .ok (.aload_n 0, 1) := by decide +kernel
theorem dX6_renderUmbrella_120 : decode cX6_renderUmbrella 120 = .ok (.getfield 197, 3) := by decide +kernel
theorem dX6_renderUmbrella_123 : decode cX6_renderUmbrella 123 = .ok (.ireturn, 1) := by decide +kernel
theorem dX6_outputAt_0 : decode cX6_outputAt 0 = .ok (.aload_n 0, 1) := by decide +kernel
theorem dX6_outputAt_1 : decode cX6_outputAt 1 = .ok (.iconst 0, 1) := by decide +kernel
theorem dX6_outputAt_2 : decode cX6_outputAt 2 = .ok (.putfield 1, 3) := by decide +kernel
theorem dX6_outputAt_5 : decode cX6_outputAt 5 = .ok (.iload_n 1, 1) := by decide +kernel
theorem dX6_outputAt_6 : decode cX6_outputAt 6 = .ok (.iconst 0, 1) := by decide +kernel
theorem dX6_outputAt_7 : decode cX6_outputAt 7 = .ok (.aload_n 0, 1) := by decide +kernel
theorem dX6_outputAt_8 : decode cX6_outputAt 8 = .ok (.getfield 197, 3) := by decide +kernel
theorem dX6_outputAt_11 : decode cX6_outputAt 11 = .ok (.iconst 1, 1) := by decide +kernel
theorem dX6_outputAt_12 : decode cX6_outputAt 12 = .ok (.isub, 1) := by decide +kernel
theorem dX6_outputAt_13 : decode cX6_outputAt 13 = .ok (.invokestatic 54, 3) := by decide +kernel
theorem dX6_outputAt_16 : decode cX6_outputAt 16 = .ok (.ifCond .eq 10, 3) := by decide +kernel
theorem dX6_outputAt_19 : decode cX6_outputAt 19 = .ok (.aload_n 0, 1) := by decide +kernel
theorem dX6_outputAt_20 : decode cX6_outputAt 20 = .ok (.getfield 26, 3) := by decide +kernel
theorem dX6_outputAt_23 : decode cX6_outputAt 23 = .ok (.iload_n 1, 1) := by decide +kernel
theorem dX6_outputAt_24 : decode cX6_outputAt 24 = .ok (.caload, 1) := by decide +kernel
theorem dX6_outputAt_25 : decode cX6_outputAt 25 = .ok (.ireturn, 1) := by decide +kernel
theorem dX6_outputAt_26 : decode cX6_outputAt 26 = .ok (.aload_n 0, 1) := by decide +kernel
theorem dX6_outputAt_27 : decode cX6_outputAt 27 = .ok (.iconst 1, 1) := by decide +kernel
theorem dX6_outputAt_28 : decode cX6_outputAt 28 = .ok (.invokevirtual 84, 3) := by decide +kernel
theorem dX6_outputAt_31 : decode cX6_outputAt 31 = .ok (.i2c, 1) := by decide +kernel
theorem dX6_outputAt_32 : decode cX6_outputAt 32 = .ok (.ireturn, 1) := by decide +kernel
theorem dX6_type_0 : decode cX6_type 0 = .ok (.aload_n 0, 1) := by decide +kernel
theorem dX6_type_1 : decode cX6_type 1 = .ok (.iconst 0, 1) := by decide +kernel
theorem dX6_type_2 : decode cX6_type 2 = .ok (.putfield 1, 3) := by decide +kernel
theorem dX6_type_5 : decode cX6_type 5 = .ok (.iload_n 1, 1) := by decide +kernel
theorem dX6_type_6 : decode cX6_type 6 = .ok (.bipush 32, 2) := by decide +kernel
theorem dX6_type_8 : decode cX6_type 8 = .ok (.bipush 126, 2) := by decide +kernel
theorem dX6_type_10 : decode cX6_type 10 = .ok (.invokestatic 54, 3) := by decide +kernel
theorem dX6_type_13 : decode cX6_type 13 = .ok (.ifCond .ne 9, 3) := by decide +kernel
theorem dX6_type_16 : decode cX6_type 16 = .ok (.aload_n 0, 1) := by decide +kernel
theorem dX6_type_17 : decode cX6_type 17 = .ok (.iconst 1, 1) := by decide +kernel
theorem dX6_type_18 : decode cX6_type 18 = .ok (.invokevirtual 84, 3) := by decide +kernel
theorem dX6_type_21 : decode cX6_type 21 = .ok (.ireturn, 1) := by decide +kernel
theorem dX6_type_22 : decode cX6_type 22 = .ok (.aload_n 0, 1) := by decide +kernel
theorem dX6_type_23 : decode cX6_type 23 = .ok (.getfield 207, 3) := by decide +kernel
theorem dX6_type_26 : decode cX6_type 26 = .ok (.bipush 60, 2) := by decide +kernel
theorem dX6_type_28 : decode cX6_type 28 = .ok (.if_icmp .ne 9, 3) := by decide +kernel
theorem dX6_type_31 : decode cX6_type 31 = .ok (.aload_n 0, 1) := by decide +kernel
theorem dX6_type_32 : decode cX6_type 32 = .ok (.iconst 2, 1) := by decide +kernel
theorem dX6_type_33 : decode cX6_type 33 = .ok (.invokevirtual 84, 3) := by decide +kernel
theorem dX6_type_36 : decode cX6_type 36 = .ok (.ireturn, 1) := by decide +kernel
theorem dX6_type_37 : decode cX6_type 37 = .ok (.aload_n 0, 1) := by decide +kernel
theorem dX6_type_38 : decode cX6_type 38 = .ok (.getfield 30, 3) := by decide +kernel
theorem dX6_type_41 : decode cX6_type 41 = .ok (.aload_n 0, 1) := by decide +kernel
theorem dX6_type_42 : decode cX6_type 42 = .ok (.getfield 207, 3) := by decide +kernel
theorem dX6_type_45 : decode cX6_type 45 = .ok (.iload_n 1, 1) := by decide +kernel
theorem dX6_type_46 : decode cX6_type 46 = .ok (.castore, 1) := by decide +kernel
theorem dX6_type_47 : decode cX6_type 47 = .ok (.aload_n 0, 1) := by decide +kernel
theorem dX6_type_48 : decode cX6_type 48 = .ok (.dup, 1) := by decide +kernel
theorem dX6_type_49 : decode cX6_type 49 = .ok (.getfield 207, 3) := by decide +kernel
theorem dX6_type_52 : decode cX6_type 52 = .ok (.iconst 1, 1) := by decide +kernel
theorem dX6_type_53 : decode cX6_type 53 = .ok (.iadd, 1) := by decide +kernel
theorem dX6_type_54 : decode cX6_type 54 = .ok (.putfield 207, 3) := by decide +kernel
theorem dX6_type_57 : decode cX6_type 57 = .ok (.aload_n 0, 1) := by decide +kernel
theorem dX6_type_58 : decode cX6_type 58 = .ok (.getfield 207, 3) := by decide +kernel
theorem dX6_type_61 : decode cX6_type 61 = .ok (.ireturn, 1) := by decide +kernel
theorem dX6_nextChar_0 : decode cX6_nextChar 0 = .ok (.aload_n 0, 1) := by decide +kernel
theorem dX6_nextChar_1 : decode cX6_nextChar 1 = .ok (.getfield 210, 3) := by decide +kernel
theorem dX6_nextChar_4 : decode cX6_nextChar 4 = .ok (.aload_n 0, 1) := by decide +kernel
theorem dX6_nextChar_5 : decode cX6_nextChar 5 = .ok (.getfield 207, 3) := by decide +kernel
theorem dX6_nextChar_8 : decode cX6_nextChar 8 = .ok (.if_icmp .ge 15, 3) := by decide +kernel
theorem dX6_nextChar_11 : decode cX6_nextChar 11 = .ok (.aload_n 0, 1) := by decide +kernel
theorem dX6_nextChar_12 : decode cX6_nextChar 12 = .ok (.getfield 30, 3) := by decide +kernel
theorem dX6_nextChar_15 : decode cX6_nextChar 15 = .ok (.aload_n 0, 1) := by decide +kernel
theorem dX6_nextChar_16 : decode cX6_nextChar 16 = .ok (.getfield 210, 3) := by decide +kernel
theorem dX6_nextChar_19 : decode cX6_nextChar 19 = .ok (.caload, 1) := by decide +kernel
theorem dX6_nextChar_20 : decode cX6_nextChar 20 = .ok (.goto 4, 3) := by decide +kernel
theorem dX6_nextChar_23 : decode cX6_nextChar 23 = .ok (.iconst (-1), 1) := by decide +kernel
theorem dX6_nextChar_24 : decode cX6_nextChar 24 = .ok (.ireturn, 1) := by decide +kernel
theorem dX6_reads_0 : decode cX6_reads 0 = .ok (.aload_n 0, 1) := by decide +kernel
theorem dX6_reads_1 : decode cX6_reads 1 = .ok (.invokevirtual 213, 3) := by decide +kernel
theorem dX6_reads_4 : decode cX6_reads 4 = .ok (.iload_n 1, 1) := by decide +kernel
theorem dX6_reads_5 : decode cX6_reads 5 = .ok (.if_icmp .eq 5, 3) := by decide +kernel
theorem dX6_reads_8 : decode cX6_reads 8 = .ok (.iconst 0, 1) := by decide +kernel
theorem dX6_reads_9 : decode cX6_reads 9 = .ok (.ireturn, 1) := by decide +kernel
theorem dX6_reads_10 : decode cX6_reads 10 = .ok (.aload_n 0, 1) := by decide +kernel
theorem dX6_reads_11 : decode cX6_reads 11 = .ok (.dup, 1) := by decide +kernel
theorem dX6_reads_12 : decode cX6_reads 12 = .ok (.getfield 210, 3) := by decide +kernel
theorem dX6_reads_15 : decode cX6_reads 15 = .ok (.iconst 1, 1) := by decide +kernel
theorem dX6_reads_16 : decode cX6_reads 16 = .ok (.iadd, 1) := by decide +kernel
theorem dX6_reads_17 : decode cX6_reads 17 = .ok (.putfield 210, 3) := by decide +kernel
theorem dX6_reads_20 : decode cX6_reads 20 = .ok (.iconst 1, 1) := by decide +kernel
theorem dX6_reads_21 : decode cX6_reads 21 = .ok (.ireturn, 1) := by decide +kernel
theorem dX6_readsDigit_0 : decode cX6_readsDigit 0 = .ok (.aload_n 0, 1) := by decide +kernel
theorem dX6_readsDigit_1 : decode cX6_readsDigit 1 = .ok (.invokevirtual 213, 3) := by decide +kernel
theorem dX6_readsDigit_4 : decode cX6_readsDigit 4 = .ok (.bipush 48, 2) := by decide +kernel
theorem dX6_readsDigit_6 : decode cX6_readsDigit 6 = .ok (.bipush 57, 2) := by decide +kernel
theorem dX6_readsDigit_8 : decode cX6_readsDigit 8 = .ok (.invokestatic 54, 3) := by decide +kernel
theorem dX6_readsDigit_11 : decode cX6_readsDigit 11 = .ok (.ifCond .ne 5, 3) := by decide +kernel
theorem dX6_readsDigit_14 : decode cX6_readsDigit 14 = .ok (.iconst 0, 1) := by decide +kernel
theorem dX6_readsDigit_15 : decode cX6_readsDigit 15 = .ok (.ireturn, 1) := by decide +kernel
theorem dX6_readsDigit_16 : decode cX6_readsDigit 16 = .ok (.aload_n 0, 1) := by decide +kernel
theorem dX6_readsDigit_17 : decode cX6_readsDigit 17 = .ok (.getfield 39, 3) := by decide +kernel
theorem dX6_readsDigit_20 : decode cX6_readsDigit 20 = .ok (.iload_n 1, 1) := by decide +kernel
theorem dX6_readsDigit_21 : decode cX6_readsDigit 21 = .ok (.aload_n 0, 1) := by decide +kernel
theorem dX6_readsDigit_22 : decode cX6_readsDigit 22 = .ok (.invokevirtual 213, 3) := by decide +kernel
theorem dX6_readsDigit_25 : decode cX6_readsDigit 25 = .ok (.bipush 48, 2) := by decide +kernel
theorem dX6_readsDigit_27 : decode cX6_readsDigit 27 = .ok (.isub, 1) := by decide +kernel
theorem dX6_readsDigit_28 : decode cX6_readsDigit 28 = .ok (.iastore, 1) := by decide +kernel
theorem dX6_readsDigit_29 : decode cX6_readsDigit 29 = .ok (.aload_n 0, 1) := by decide +kernel
theorem dX6_readsDigit_30 : decode cX6_readsDigit 30 = .ok (.dup, 1) := by decide +kernel
theorem dX6_readsDigit_31 : decode cX6_readsDigit 31 = .ok (.getfield 210, 3) := by decide +kernel
theorem dX6_readsDigit_34 : decode cX6_readsDigit 34 = .ok (.iconst 1, 1) := by decide +kernel
theorem dX6_readsDigit_35 : decode cX6_readsDigit 35 = .ok (.iadd, 1) := by decide +kernel
theorem dX6_readsDigit_36 : decode cX6_readsDigit 36 = .ok (.putfield 210, 3) := by decide +kernel
theorem dX6_readsDigit_39 : decode cX6_readsDigit 39 = .ok (.iconst 1, 1) := by decide +kernel
theorem dX6_readsDigit_40 : decode cX6_readsDigit 40 = .ok (.ireturn, 1) := by decide +kernel
theorem dX6_readsNumber_0 : decode cX6_readsNumber 0 = .ok (.aload_n 0, 1) := by decide +kernel
theorem dX6_readsNumber_1 : decode cX6_readsNumber 1 = .ok (.iload_n 1, 1) := by decide +kernel
theorem dX6_readsNumber_2 : decode cX6_readsNumber 2 = .ok (.invokevirtual 216, 3) := by decide +kernel
theorem dX6_readsNumber_5 : decode cX6_readsNumber 5 = .ok (.ifCond .ne 5, 3) := by decide +kernel
theorem dX6_readsNumber_8 : decode cX6_readsNumber 8 = .ok (.iconst 0, 1) := by decide +kernel
theorem dX6_readsNumber_9 : decode cX6_readsNumber 9 = .ok (.ireturn, 1) := by decide +kernel
theorem dX6_readsNumber_10 : decode cX6_readsNumber 10 = .ok (.aload_n 0, 1) := by decide +kernel
theorem dX6_readsNumber_11 : decode cX6_readsNumber 11 = .ok (.invokevirtual 213, 3) := by decide +kernel
theorem dX6_readsNumber_14 : decode cX6_readsNumber 14 = .ok (.bipush 48, 2) := by decide +kernel
theorem dX6_readsNumber_16 : decode cX6_readsNumber 16 = .ok (.bipush 57, 2) := by decide +kernel
theorem dX6_readsNumber_18 : decode cX6_readsNumber 18 = .ok (.invokestatic 54, 3) := by decide +kernel
theorem dX6_readsNumber_21 : decode cX6_readsNumber 21 = .ok (.ifCond .ne 5, 3) := by decide +kernel
theorem dX6_readsNumber_24 : decode cX6_readsNumber 24 = .ok (.iconst 1, 1) := by decide +kernel
theorem dX6_readsNumber_25 : decode cX6_readsNumber 25 = .ok (.ireturn, 1) := by decide +kernel
theorem dX6_readsNumber_26 : decode cX6_readsNumber 26 = .ok (.aload_n 0, 1) := by decide +kernel
theorem dX6_readsNumber_27 : decode cX6_readsNumber 27 = .ok (.getfield 39, 3) := by decide +kernel
theorem dX6_readsNumber_30 : decode cX6_readsNumber 30 = .ok (.iload_n 1, 1) := by decide +kernel
theorem dX6_readsNumber_31 : decode cX6_readsNumber 31 = .ok (.bipush 10, 2) := by decide +kernel
theorem dX6_readsNumber_33 : decode cX6_readsNumber 33 = .ok (.aload_n 0, 1) := by decide +kernel
theorem dX6_readsNumber_34 : decode cX6_readsNumber 34 = .ok (.getfield 39, 3) := by decide +kernel
theorem dX6_readsNumber_37 : decode cX6_readsNumber 37 = .ok (.iload_n 1, 1) := by decide +kernel
theorem dX6_readsNumber_38 : decode cX6_readsNumber 38 = .ok (.iaload, 1) := by decide +kernel
theorem dX6_readsNumber_39 : decode cX6_readsNumber 39 = .ok (.imul, 1) := by decide +kernel
theorem dX6_readsNumber_40 : decode cX6_readsNumber 40 = .ok (.aload_n 0, 1) := by decide +kernel
theorem dX6_readsNumber_41 : decode cX6_readsNumber 41 = .ok (.invokevirtual 213, 3) := by decide +kernel
theorem dX6_readsNumber_44 : decode cX6_readsNumber 44 = .ok (.iadd, 1) := by decide +kernel
theorem dX6_readsNumber_45 : decode cX6_readsNumber 45 = .ok (.bipush 48, 2) := by decide +kernel
theorem dX6_readsNumber_47 : decode cX6_readsNumber 47 = .ok (.isub, 1) := by decide +kernel
theorem dX6_readsNumber_48 : decode cX6_readsNumber 48 = .ok (.iastore, 1) := by decide +kernel
theorem dX6_readsNumber_49 : decode cX6_readsNumber 49 = .ok (.aload_n 0, 1) := by decide +kernel
theorem dX6_readsNumber_50 : decode cX6_readsNumber 50 = .ok (.dup, 1) := by decide +kernel
theorem dX6_readsNumber_51 : decode cX6_readsNumber 51 = .ok (.getfield 210, 3) := by decide +kernel
theorem dX6_readsNumber_54 : decode cX6_readsNumber 54 = .ok (.iconst 1, 1) := by decide +kernel
theorem dX6_readsNumber_55 : decode cX6_readsNumber 55 = .ok (.iadd, 1) := by decide +kernel
theorem dX6_readsNumber_56 : decode cX6_readsNumber 56 = .ok (.putfield 210, 3) := by decide +kernel
theorem dX6_readsNumber_59 : decode cX6_readsNumber 59 = .ok (.iconst 1, 1) := by decide +kernel
theorem dX6_readsNumber_60 : decode cX6_readsNumber 60 = .ok (.ireturn, 1) := by decide +kernel
theorem dX6_readsTwo_0 : decode cX6_readsTwo 0 = .ok (.aload_n 0, 1) := by decide +kernel
theorem dX6_readsTwo_1 : decode cX6_readsTwo 1 = .ok (.bipush 32, 2) := by decide +kernel
theorem dX6_readsTwo_3 : decode cX6_readsTwo 3 = .ok (.invokevirtual 219, 3) := by decide +kernel
theorem dX6_readsTwo_6 : decode cX6_readsTwo 6 = .ok (.ifCond .eq 32, 3) := by decide +kernel
theorem dX6_readsTwo_9 : decode cX6_readsTwo 9 = .ok (.aload_n 0, 1) := by decide +kernel
theorem dX6_readsTwo_10 : decode cX6_readsTwo 10 = .ok (.iconst 0, 1) := by decide +kernel
theorem dX6_readsTwo_11 : decode cX6_readsTwo 11 = .ok (.invokevirtual 216, 3) := by decide +kernel
theorem dX6_readsTwo_14 : decode cX6_readsTwo 14 = .ok (.ifCond .eq 24, 3) := by decide +kernel
theorem dX6_readsTwo_17 : decode cX6_readsTwo 17 = .ok (.aload_n 0, 1) := by decide +kernel
theorem dX6_readsTwo_18 : decode cX6_readsTwo 18 = .ok (.bipush 32, 2) := by decide +kernel
theorem dX6_readsTwo_20 : decode cX6_readsTwo 20 = .ok (.invokevirtual 219, 3) := by decide +kernel
theorem dX6_readsTwo_23 : decode cX6_readsTwo 23 = .ok (.ifCond .eq 15, 3) := by decide +kernel
theorem dX6_readsTwo_26 : decode cX6_readsTwo 26 = .ok (.aload_n 0, 1) := by decide +kernel
theorem dX6_readsTwo_27 : decode cX6_readsTwo 27 = .ok (.iconst 1, 1) := by decide +kernel
theorem dX6_readsTwo_28 : decode cX6_readsTwo 28 = .ok (.invokevirtual 216, 3) := by decide +kernel
theorem dX6_readsTwo_31 : decode cX6_readsTwo 31 = .ok (.ifCond .eq 7, 3) := by decide +kernel
theorem dX6_readsTwo_34 : decode cX6_readsTwo 34 = .ok (.iconst 1, 1) := by decide +kernel
theorem dX6_readsTwo_35 : decode cX6_readsTwo 35 = .ok (.goto 4, 3) := by decide +kernel
theorem dX6_readsTwo_38 : decode cX6_readsTwo 38 = .ok (.iconst 0, 1) := by decide +kernel
theorem dX6_readsTwo_39 : decode cX6_readsTwo 39 = .ok (.ireturn, 1) := by decide +kernel
theorem dX6_readsTrain_0 : decode cX6_readsTrain 0 = .ok (.aload_n 0, 1) := by decide +kernel
theorem dX6_readsTrain_1 : decode cX6_readsTrain 1 = .ok (.bipush 97, 2) := by decide +kernel
theorem dX6_readsTrain_3 : decode cX6_readsTrain 3 = .ok (.invokevirtual 219, 3) := by decide +kernel
theorem dX6_readsTrain_6 : decode cX6_readsTrain 6 = .ok (.ifCond .eq 36, 3) := by decide +kernel
theorem dX6_readsTrain_9 : decode cX6_readsTrain 9 = .ok (.aload_n 0, 1) := by decide +kernel
theorem dX6_readsTrain_10 : decode cX6_readsTrain 10 = .ok (.bipush 105, 2) := by decide +kernel
theorem dX6_readsTrain_12 : decode cX6_readsTrain 12 = .ok (.invokevirtual 219, 3) := by decide +kernel
theorem dX6_readsTrain_15 : decode cX6_readsTrain 15 = .ok (.ifCond .eq 27, 3) := by decide +kernel
theorem dX6_readsTrain_18 : decode cX6_readsTrain 18 = .ok (.aload_n 0, 1) := by decide +kernel
theorem dX6_readsTrain_19 : decode cX6_readsTrain 19 = .ok (.bipush 110, 2) := by decide +kernel
theorem dX6_readsTrain_21 : decode cX6_readsTrain 21 = .ok (.invokevirtual 219, 3) := by decide +kernel
theorem dX6_readsTrain_24 : decode cX6_readsTrain 24 = .ok (.ifCond .eq 18, 3) := by decide +kernel
theorem dX6_readsTrain_27 : decode cX6_readsTrain 27 = .ok (.aload_n 0, 1) := by decide +kernel
theorem dX6_readsTrain_28 : decode cX6_readsTrain 28 = .ok (.invokevirtual 222, 3) := by decide +kernel
theorem dX6_readsTrain_31 : decode cX6_readsTrain 31 = .ok (.ifCond .eq 11, 3) := by decide +kernel
theorem dX6_readsTrain_34 : decode cX6_readsTrain 34 = .ok (.aload_n 0, 1) := by decide +kernel
theorem dX6_readsTrain_35 : decode cX6_readsTrain 35 = .ok (.iconst 2, 1) := by decide +kernel
theorem dX6_readsTrain_36 : decode cX6_readsTrain 36 = .ok (.invokevirtual 216, 3) := by decide +kernel
theorem dX6_readsTrain_39 : decode cX6_readsTrain 39 = .ok (.ifCond .ne 5, 3) := by decide +kernel
theorem dX6_readsTrain_42 : decode cX6_readsTrain 42 = .ok (.iconst 0, 1) := by decide +kernel
theorem dX6_readsTrain_43 : decode cX6_readsTrain 43 = .ok (.ireturn, 1) := by decide +kernel
theorem dX6_readsTrain_44 : decode cX6_readsTrain 44 = .ok (.aload_n 0, 1) := by decide +kernel
theorem dX6_readsTrain_45 : decode cX6_readsTrain 45 = .ok (.getfield 39, 3) := by decide +kernel
theorem dX6_readsTrain_48 : decode cX6_readsTrain 48 = .ok (.iconst 3, 1) := by decide +kernel
theorem dX6_readsTrain_49 : decode cX6_readsTrain 49 = .ok (.iconst 1, 1) := by decide +kernel
theorem dX6_readsTrain_50 : decode cX6_readsTrain 50 = .ok (.iastore, 1) := by decide +kernel
theorem dX6_readsTrain_51 : decode cX6_readsTrain 51 = .ok (.aload_n 0, 1) := by decide +kernel
theorem dX6_readsTrain_52 : decode cX6_readsTrain 52 = .ok (.bipush 120, 2) := by decide +kernel
theorem dX6_readsTrain_54 : decode cX6_readsTrain 54 = .ok (.invokevirtual 219, 3) := by decide +kernel
theorem dX6_readsTrain_57 : decode cX6_readsTrain 57 = .ok (.ifCond .eq 11, 3) := by decide +kernel
theorem dX6_readsTrain_60 : decode cX6_readsTrain 60 = .ok (.aload_n 0, 1) := by decide +kernel
theorem dX6_readsTrain_61 : decode cX6_readsTrain 61 = .ok (.iconst 3, 1) := by decide +kernel
theorem dX6_readsTrain_62 : decode cX6_readsTrain 62 = .ok (.invokevirtual 216, 3) := by decide +kernel
theorem dX6_readsTrain_65 : decode cX6_readsTrain 65 = .ok (.ifCond .eq 7, 3) := by decide +kernel
theorem dX6_readsTrain_68 : decode cX6_readsTrain 68 = .ok (.iconst 1, 1) := by decide +kernel
theorem dX6_readsTrain_69 : decode cX6_readsTrain 69 = .ok (.goto 4, 3) := by decide +kernel
theorem dX6_readsTrain_72 : decode cX6_readsTrain 72 = .ok (.iconst 0, 1) := by decide +kernel
theorem dX6_readsTrain_73 : decode cX6_readsTrain 73 = .ok (.ireturn, 1) := by decide +kernel
theorem dX6_readsT_0 : decode cX6_readsT 0 = .ok (.aload_n 0, 1) := by decide +kernel
theorem dX6_readsT_1 : decode cX6_readsT 1 = .ok (.bipush 114, 2) := by decide +kernel
theorem dX6_readsT_3 : decode cX6_readsT 3 = .ok (.invokevirtual 219, 3) := by decide +kernel
theorem dX6_readsT_6 : decode cX6_readsT 6 = .ok (.ifCond .eq 8, 3) := by decide +kernel
theorem dX6_readsT_9 : decode cX6_readsT 9 = .ok (.aload_n 0, 1) := by decide +kernel
theorem dX6_readsT_10 : decode cX6_readsT 10 = .ok (.invokevirtual 226, 3) := by decide +kernel
theorem dX6_readsT_13 : decode cX6_readsT 13 = .ok (.ireturn, 1) := by decide +kernel
theorem dX6_readsT_14 : decode cX6_readsT 14 = .ok (.aload_n 0, 1) := by decide +kernel
theorem dX6_readsT_15 : decode cX6_readsT 15 = .ok (.bipush 109, 2) := by decide +kernel
theorem dX6_readsT_17 : decode cX6_readsT 17 = .ok (.putfield 229, 3) := by decide +kernel
theorem dX6_readsT_20 : decode cX6_readsT 20 = .ok (.aload_n 0, 1) := by decide +kernel
theorem dX6_readsT_21 : decode cX6_readsT 21 = .ok (.bipush 101, 2) := by decide +kernel
theorem dX6_readsT_23 : decode cX6_readsT 23 = .ok (.invokevirtual 219, 3) := by decide +kernel
theorem dX6_readsT_26 : decode cX6_readsT 26 = .ok (.ifCond .eq 25, 3) := by decide +kernel
theorem dX6_readsT_29 : decode cX6_readsT 29 = .ok (.aload_n 0, 1) := by decide +kernel
theorem dX6_readsT_30 : decode cX6_readsT 30 = .ok (.bipush 114, 2) := by decide +kernel
theorem dX6_readsT_32 : decode cX6_readsT 32 = .ok (.invokevirtual 219, 3) := by decide +kernel
theorem dX6_readsT_35 : decode cX6_readsT 35 = .ok (.ifCond .eq 16, 3) := by decide +kernel
theorem dX6_readsT_38 : decode cX6_readsT 38 = .ok (.aload_n 0, 1) := by decide +kernel
theorem dX6_readsT_39 : decode cX6_readsT 39 = .ok (.bipush 109, 2) := by decide +kernel
theorem dX6_readsT_41 : decode cX6_readsT 41 = .ok (.invokevirtual 219, 3) := by decide +kernel
theorem dX6_readsT_44 : decode cX6_readsT 44 = .ok (.ifCond .eq 7, 3) := by decide +kernel
theorem dX6_readsT_47 : decode cX6_readsT 47 = .ok (.iconst 1, 1) := by decide +kernel
theorem dX6_readsT_48 : decode cX6_readsT 48 = .ok (.goto 4, 3) := by decide +kernel
theorem dX6_readsT_51 : decode cX6_readsT 51 = .ok (.iconst 0, 1) := by decide +kernel
theorem dX6_readsT_52 : decode cX6_readsT 52 = .ok (.ireturn, 1) := by decide +kernel
theorem dX6_readsCommand_0 : decode cX6_readsCommand 0 = .ok (.aload_n 0, 1) := by decide +kernel
theorem dX6_readsCommand_1 : decode cX6_readsCommand 1 = .ok (.aload_n 0, 1) := by decide +kernel
theorem dX6_readsCommand_2 : decode cX6_readsCommand 2 = .ok (.invokevirtual 213, 3) := by decide +kernel
theorem dX6_readsCommand_5 : decode cX6_readsCommand 5 = .ok (.putfield 229, 3) := by decide +kernel
theorem dX6_readsCommand_8 : decode cX6_readsCommand 8 = .ok (.aload_n 0, 1) := by decide +kernel
theorem dX6_readsCommand_9 : decode cX6_readsCommand 9 = .ok (.bipush 97, 2) := by decide +kernel
theorem dX6_readsCommand_11 : decode cX6_readsCommand 11 = .ok (.invokevirtual 219, 3) := by decide +kernel
theorem dX6_readsCommand_14 : decode cX6_readsCommand 14 = .ok (.ifCond .eq 44, 3) := by decide +kernel
theorem dX6_readsCommand_17 : decode cX6_readsCommand 17 = .ok (.aload_n 0, 1) := by decide +kernel
theorem dX6_readsCommand_18 : decode cX6_readsCommand 18 = .ok (.bipush 100, 2) := by decide +kernel
theorem dX6_readsCommand_20 : decode cX6_readsCommand 20 = .ok (.invokevirtual 219, 3) := by decide +kernel
theorem dX6_readsCommand_23 : decode cX6_readsCommand 23 = .ok (.ifCond .eq 33, 3) := by decide +kernel
theorem dX6_readsCommand_26 : decode cX6_readsCommand 26 = .ok (.aload_n 0, 1) := by decide +kernel
theorem dX6_readsCommand_27 : decode cX6_readsCommand 27 = .ok (.bipush 100, 2) := by decide +kernel
theorem dX6_readsCommand_29 : decode cX6_readsCommand 29 = .ok (.invokevirtual 219, 3) := by decide +kernel
theorem dX6_readsCommand_32 : decode cX6_readsCommand 32 = .ok (.ifCond .eq 24, 3) := by decide +kernel
theorem dX6_readsCommand_35 : decode cX6_readsCommand 35 = .ok (.aload_n 0, 1) := by decide +kernel
theorem dX6_readsCommand_36 : decode cX6_readsCommand 36 = .ok (.bipush 32, 2) := by decide +kernel
theorem dX6_readsCommand_38 : decode cX6_readsCommand 38 = .ok (.invokevirtual 219, 3) := by decide +kernel
theorem dX6_readsCommand_41 : decode cX6_readsCommand 41 = .ok (.ifCond .eq 15, 3) := by decide +kernel
theorem dX6_readsCommand_44 : decode cX6_readsCommand 44 = .ok (.aload_n 0, 1) := by decide +kernel
theorem dX6_readsCommand_45 : decode cX6_readsCommand 45 = .ok (.iconst 0, 1) := by decide +kernel
theorem dX6_readsCommand_46 : decode cX6_readsCommand 46 = .ok (.invokevirtual 232, 3) := by decide +kernel
theorem dX6_readsCommand_49 : decode cX6_readsCommand 49 = .ok (.ifCond .eq 7, 3) := by decide +kernel
theorem dX6_readsCommand_52 : decode cX6_readsCommand 52 = .ok (.iconst 1, 1) := by decide +kernel
theorem dX6_readsCommand_53 : decode cX6_readsCommand 53 = .ok (.goto 4, 3) := by decide +kernel
theorem dX6_readsCommand_56 : decode cX6_readsCommand 56 = .ok (.iconst 0, 1) := by decide +kernel
theorem dX6_readsCommand_57 : decode cX6_readsCommand 57 = .ok (.ireturn, 1) := by decide +kernel
theorem dX6_readsCommand_58 : decode cX6_readsCommand 58 = .ok (.aload_n 0, 1) := by decide +kernel
theorem dX6_readsCommand_59 : decode cX6_readsCommand 59 = .ok (.bipush 116, 2) := by decide +kernel
theorem dX6_readsCommand_61 : decode cX6_readsCommand 61 = .ok (.invokevirtual 219, 3) := by decide +kernel
theorem dX6_readsCommand_64 : decode cX6_readsCommand 64 = .ok (.ifCond .eq 8, 3) := by decide +kernel
theorem dX6_readsCommand_67 : decode cX6_readsCommand 67 = .ok (.aload_n 0, 1) := by decide +kernel
theorem dX6_readsCommand_68 : decode cX6_readsCommand 68 = .ok (.invokevirtual 235, 3) := by decide +kernel
theorem dX6_readsCommand_71 : decode cX6_readsCommand 71 = .ok (.ireturn, 1) := by decide +kernel
theorem dX6_readsCommand_72 : decode cX6_readsCommand 72 = .ok (.aload_n 0, 1) := by decide +kernel
theorem dX6_readsCommand_73 : decode cX6_readsCommand 73 = .ok (.bipush 112, 2) := by decide +kernel
theorem dX6_readsCommand_75 : decode cX6_readsCommand 75 = .ok (.invokevirtual 219, 3) := by decide +kernel
theorem dX6_readsCommand_78 : decode cX6_readsCommand 78 = .ok (.ifCond .eq 61, 3) := by decide +kernel
theorem dX6_readsCommand_81 : decode cX6_readsCommand 81 = .ok (.aload_n 0, 1) := by decide +kernel
theorem dX6_readsCommand_82 : decode cX6_readsCommand 82 = .ok (.bipush 101, 2) := by decide +kernel
theorem dX6_readsCommand_84 : decode cX6_readsCommand 84 = .ok (.invokevirtual 219, 3) := by decide +kernel
theorem dX6_readsCommand_87 : decode cX6_readsCommand 87 = .ok (.ifCond .eq 50, 3) := by decide +kernel
theorem dX6_readsCommand_90 : decode cX6_readsCommand 90 = .ok (.aload_n 0, 1) := by decide +kernel
theorem dX6_readsCommand_91 : decode cX6_readsCommand 91 = .ok (.bipush 114, 2) := by decide +kernel
theorem dX6_readsCommand_93 : decode cX6_readsCommand 93 = .ok (.invokevirtual 219, 3) := by decide +kernel
theorem dX6_readsCommand_96 : decode cX6_readsCommand 96 = .ok (.ifCond .eq 41, 3) := by decide +kernel
theorem dX6_readsCommand_99 : decode cX6_readsCommand 99 = .ok (.aload_n 0, 1) := by decide +kernel
theorem dX6_readsCommand_100 : decode cX6_readsCommand 100 = .ok (.bipush 105, 2) := by decide +kernel
theorem dX6_readsCommand_102 : decode cX6_readsCommand 102 = .ok (.invokevirtual 219, 3) := by decide +kernel
theorem dX6_readsCommand_105 : decode cX6_readsCommand 105 = .ok (.ifCond .eq 32, 3) := by decide +kernel
theorem dX6_readsCommand_108 : decode cX6_readsCommand 108 = .ok (.aload_n 0, 1) := by decide +kernel
theorem dX6_readsCommand_109 : decode cX6_readsCommand 109 = .ok (.bipush 111, 2) := by decide +kernel
theorem dX6_readsCommand_111 : decode cX6_readsCommand 111 = .ok (.invokevirtual 219, 3) := by decide +kernel
theorem dX6_readsCommand_114 : decode cX6_readsCommand 114 = .ok (.ifCond .eq 23, 3) := by decide +kernel
theorem dX6_readsCommand_117 : decode cX6_readsCommand 117 = .ok (.aload_n 0, 1) := by decide +kernel
theorem dX6_readsCommand_118 : decode cX6_readsCommand 118 = .ok (.bipush 100, 2) := by decide +kernel
theorem dX6_readsCommand_120 : decode cX6_readsCommand 120 = .ok (.invokevirtual 219, 3) := by decide +kernel
theorem dX6_readsCommand_123 : decode cX6_readsCommand 123 = .ok (.ifCond .eq 14, 3) := by decide +kernel
theorem dX6_readsCommand_126 : decode cX6_readsCommand 126 = .ok (.aload_n 0, 1) := by decide +kernel
theorem dX6_readsCommand_127 : decode cX6_readsCommand 127 = .ok (.invokevirtual 222, 3) := by decide +kernel
theorem dX6_readsCommand_130 : decode cX6_readsCommand 130 = .ok (.ifCond .eq 7, 3) := by decide +kernel
theorem dX6_readsCommand_133 : decode cX6_readsCommand 133 = .ok (.iconst 1, 1) := by decide +kernel
theorem dX6_readsCommand_134 : decode cX6_readsCommand 134 = .ok (.goto 4, 3) := by decide +kernel
theorem dX6_readsCommand_137 : decode cX6_readsCommand 137 = .ok (.iconst 0, 1) := by decide +kernel
theorem dX6_readsCommand_138 : decode cX6_readsCommand 138 = .ok (.ireturn, 1) := by decide +kernel
theorem dX6_readsCommand_139 : decode cX6_readsCommand 139 = .ok (.aload_n 0, 1) := by decide +kernel
theorem dX6_readsCommand_140 : decode cX6_readsCommand 140 = .ok (.bipush 119, 2) := by decide +kernel
theorem dX6_readsCommand_142 : decode cX6_readsCommand 142 = .ok (.invokevirtual 219, 3) := by decide +kernel
theorem dX6_readsCommand_145 : decode cX6_readsCommand 145 = .ok (.ifCond .eq 44, 3) := by decide +kernel
theorem dX6_readsCommand_148 : decode cX6_readsCommand 148 = .ok (.aload_n 0, 1) := by decide +kernel
theorem dX6_readsCommand_149 : decode cX6_readsCommand 149 = .ok (.bipush 101, 2) := by decide +kernel
theorem dX6_readsCommand_151 : decode cX6_readsCommand 151 = .ok (.invokevirtual 219, 3) := by decide +kernel
theorem dX6_readsCommand_154 : decode cX6_readsCommand 154 = .ok (.ifCond .eq 33, 3) := by decide +kernel
theorem dX6_readsCommand_157 : decode cX6_readsCommand 157 = .ok (.aload_n 0, 1) := by decide +kernel
theorem dX6_readsCommand_158 : decode cX6_readsCommand 158 = .ok (.bipush 116, 2) := by decide +kernel
theorem dX6_readsCommand_160 : decode cX6_readsCommand 160 = .ok (.invokevirtual 219, 3) := by decide +kernel
theorem dX6_readsCommand_163 : decode cX6_readsCommand 163 = .ok (.ifCond .eq 24, 3) := by decide +kernel
theorem dX6_readsCommand_166 : decode cX6_readsCommand 166 = .ok (.aload_n 0, 1) := by decide +kernel
theorem dX6_readsCommand_167 : decode cX6_readsCommand 167 = .ok (.bipush 32, 2) := by decide +kernel
theorem dX6_readsCommand_169 : decode cX6_readsCommand 169 = .ok (.invokevirtual 219, 3) := by decide +kernel
theorem dX6_readsCommand_172 : decode cX6_readsCommand 172 = .ok (.ifCond .eq 15, 3) := by decide +kernel
theorem dX6_readsCommand_175 : decode cX6_readsCommand 175 = .ok (.aload_n 0, 1) := by decide +kernel
theorem dX6_readsCommand_176 : decode cX6_readsCommand 176 = .ok (.iconst 0, 1) := by decide +kernel
theorem dX6_readsCommand_177 : decode cX6_readsCommand 177 = .ok (.invokevirtual 216, 3) := by decide +kernel
theorem dX6_readsCommand_180 : decode cX6_readsCommand 180 = .ok (.ifCond .eq 7, 3) := by decide +kernel
theorem dX6_readsCommand_183 : decode cX6_readsCommand 183 = .ok (.iconst 1, 1) := by decide +kernel
theorem dX6_readsCommand_184 : decode cX6_readsCommand 184 = .ok (.goto 4, 3) := by decide +kernel
theorem dX6_readsCommand_187 : decode cX6_readsCommand 187 = .ok (.iconst 0, 1) := by decide +kernel
theorem dX6_readsCommand_188 : decode cX6_readsCommand 188 = .ok (.ireturn, 1) := by decide +kernel
theorem dX6_readsCommand_189 : decode cX6_readsCommand 189 = .ok (.aload_n 0, 1) := by decide +kernel
theorem dX6_readsCommand_190 : decode cX6_readsCommand 190 = .ok (.bipush 103, 2) := by decide +kernel
theorem dX6_readsCommand_192 : decode cX6_readsCommand 192 = .ok (.invokevirtual 219, 3) := by decide +kernel
theorem dX6_readsCommand_195 : decode cX6_readsCommand 195 = .ok (.ifCond .eq 53, 3) := by decide +kernel
theorem dX6_readsCommand_198 : decode cX6_readsCommand 198 = .ok (.aload_n 0, 1) := by decide +kernel
theorem dX6_readsCommand_199 : decode cX6_readsCommand 199 = .ok (.bipush 97, 2) := by decide +kernel
theorem dX6_readsCommand_201 : decode cX6_readsCommand 201 = .ok (.invokevirtual 219, 3) := by decide +kernel
theorem dX6_readsCommand_204 : decode cX6_readsCommand 204 = .ok (.ifCond .eq 42, 3) := by decide +kernel
theorem dX6_readsCommand_207 : decode cX6_readsCommand 207 = .ok (.aload_n 0, 1) := by decide +kernel
theorem dX6_readsCommand_208 : decode cX6_readsCommand 208 = .ok (.bipush 108, 2) := by decide +kernel
theorem dX6_readsCommand_210 : decode cX6_readsCommand 210 = .ok (.invokevirtual 219, 3) := by decide +kernel
theorem dX6_readsCommand_213 : decode cX6_readsCommand 213 = .ok (.ifCond .eq 33, 3) := by decide +kernel
theorem dX6_readsCommand_216 : decode cX6_readsCommand 216 = .ok (.aload_n 0, 1) := by decide +kernel
theorem dX6_readsCommand_217 : decode cX6_readsCommand 217 = .ok (.bipush 101, 2) := by decide +kernel
theorem dX6_readsCommand_219 : decode cX6_readsCommand 219 = .ok (.invokevirtual 219, 3) := by decide +kernel
theorem dX6_readsCommand_222 : decode cX6_readsCommand 222 = .ok (.ifCond .eq 24, 3) := by decide +kernel
theorem dX6_readsCommand_225 : decode cX6_readsCommand 225 = .ok (.aload_n 0, 1) := by decide +kernel
theorem dX6_readsCommand_226 : decode cX6_readsCommand 226 = .ok (.bipush 32, 2) := by decide +kernel
theorem dX6_readsCommand_228 : decode cX6_readsCommand 228 = .ok (.invokevirtual 219, 3) := by decide +kernel
theorem dX6_readsCommand_231 : decode cX6_readsCommand 231 = .ok (.ifCond .eq 15, 3) := by decide +kernel
theorem dX6_readsCommand_234 : decode cX6_readsCommand 234 = .ok (.aload_n 0, 1) := by decide +kernel
theorem dX6_readsCommand_235 : decode cX6_readsCommand 235 = .ok (.iconst 0, 1) := by decide +kernel
theorem dX6_readsCommand_236 : decode cX6_readsCommand 236 = .ok (.invokevirtual 216, 3) := by decide +kernel
theorem dX6_readsCommand_239 : decode cX6_readsCommand 239 = .ok (.ifCond .eq 7, 3) := by decide +kernel
theorem dX6_readsCommand_242 : decode cX6_readsCommand 242 = .ok (.iconst 1, 1) := by decide +kernel
theorem dX6_readsCommand_243 : decode cX6_readsCommand 243 = .ok (.goto 4, 3) := by decide +kernel
theorem dX6_readsCommand_246 : decode cX6_readsCommand 246 = .ok (.iconst 0, 1) := by decide +kernel
theorem dX6_readsCommand_247 : decode cX6_readsCommand 247 = .ok (.ireturn, 1) := by decide +kernel
theorem dX6_readsCommand_248 : decode cX6_readsCommand 248 = .ok (.aload_n 0, 1) := by decide +kernel
theorem dX6_readsCommand_249 : decode cX6_readsCommand 249 = .ok (.bipush 102, 2) := by decide +kernel
theorem dX6_readsCommand_251 : decode cX6_readsCommand 251 = .ok (.invokevirtual 219, 3) := by decide +kernel
theorem dX6_readsCommand_254 : decode cX6_readsCommand 254 = .ok (.ifCond .eq 61, 3) := by decide +kernel
theorem dX6_readsCommand_257 : decode cX6_readsCommand 257 = .ok (.aload_n 0, 1) := by decide +kernel
theorem dX6_readsCommand_258 : decode cX6_readsCommand 258 = .ok (.bipush 111, 2) := by decide +kernel
theorem dX6_readsCommand_260 : decode cX6_readsCommand 260 = .ok (.invokevirtual 219, 3) := by decide +kernel
theorem dX6_readsCommand_263 : decode cX6_readsCommand 263 = .ok (.ifCond .eq 50, 3) := by decide +kernel
theorem dX6_readsCommand_266 : decode cX6_readsCommand 266 = .ok (.aload_n 0, 1) := by decide +kernel
theorem dX6_readsCommand_267 : decode cX6_readsCommand 267 = .ok (.bipush 114, 2) := by decide +kernel
theorem dX6_readsCommand_269 : decode cX6_readsCommand 269 = .ok (.invokevirtual 219, 3) := by decide +kernel
theorem dX6_readsCommand_272 : decode cX6_readsCommand 272 = .ok (.ifCond .eq 41, 3) := by decide +kernel
theorem dX6_readsCommand_275 : decode cX6_readsCommand 275 = .ok (.aload_n 0, 1) := by decide +kernel
theorem dX6_readsCommand_276 : decode cX6_readsCommand 276 = .ok (.bipush 103, 2) := by decide +kernel
theorem dX6_readsCommand_278 : decode cX6_readsCommand 278 = .ok (.invokevirtual 219, 3) := by decide +kernel
theorem dX6_readsCommand_281 : decode cX6_readsCommand 281 = .ok (.ifCond .eq 32, 3) := by decide +kernel
theorem dX6_readsCommand_284 : decode cX6_readsCommand 284 = .ok (.aload_n 0, 1) := by decide +kernel
theorem dX6_readsCommand_285 : decode cX6_readsCommand 285 = .ok (.bipush 101, 2) := by decide +kernel
theorem dX6_readsCommand_287 : decode cX6_readsCommand 287 = .ok (.invokevirtual 219, 3) := by decide +kernel
theorem dX6_readsCommand_290 : decode cX6_readsCommand 290 = .ok (.ifCond .eq 23, 3) := by decide +kernel
theorem dX6_readsCommand_293 : decode cX6_readsCommand 293 = .ok (.aload_n 0, 1) := by decide +kernel
theorem dX6_readsCommand_294 : decode cX6_readsCommand 294 = .ok (.bipush 116, 2) := by decide +kernel
theorem dX6_readsCommand_296 : decode cX6_readsCommand 296 = .ok (.invokevirtual 219, 3) := by decide +kernel
theorem dX6_readsCommand_299 : decode cX6_readsCommand 299 = .ok (.ifCond .eq 14, 3) := by decide +kernel
theorem dX6_readsCommand_302 : decode cX6_readsCommand 302 = .ok (.aload_n 0, 1) := by decide +kernel
theorem dX6_readsCommand_303 : decode cX6_readsCommand 303 = .ok (.invokevirtual 222, 3) := by decide +kernel
theorem dX6_readsCommand_306 : decode cX6_readsCommand 306 = .ok (.ifCond .eq 7, 3) := by decide +kernel
theorem dX6_readsCommand_309 : decode cX6_readsCommand 309 = .ok (.iconst 1, 1) := by decide +kernel
theorem dX6_readsCommand_310 : decode cX6_readsCommand 310 = .ok (.goto 4, 3) := by decide +kernel
theorem dX6_readsCommand_313 : decode cX6_readsCommand 313 = .ok (.iconst 0, 1) := by decide +kernel
theorem dX6_readsCommand_314 : decode cX6_readsCommand 314 = .ok (.ireturn, 1) := by decide +kernel
theorem dX6_readsCommand_315 : decode cX6_readsCommand 315 = .ok (.aload_n 0, 1) := by decide +kernel
theorem dX6_readsCommand_316 : decode cX6_readsCommand 316 = .ok (.bipush 101, 2) := by decide +kernel
theorem dX6_readsCommand_318 : decode cX6_readsCommand 318 = .ok (.invokevirtual 219, 3) := by decide +kernel
theorem dX6_readsCommand_321 : decode cX6_readsCommand 321 = .ok (.ifCond .eq 41, 3) := by decide +kernel
theorem dX6_readsCommand_324 : decode cX6_readsCommand 324 = .ok (.aload_n 0, 1) := by decide +kernel
theorem dX6_readsCommand_325 : decode cX6_readsCommand 325 = .ok (.bipush 120, 2) := by decide +kernel
theorem dX6_readsCommand_327 : decode cX6_readsCommand 327 = .ok (.invokevirtual 219, 3) := by decide +kernel
theorem dX6_readsCommand_330 : decode cX6_readsCommand 330 = .ok (.ifCond .eq 32, 3) := by decide +kernel
theorem dX6_readsCommand_333 : decode cX6_readsCommand 333 = .ok (.aload_n 0, 1) := by decide +kernel
theorem dX6_readsCommand_334 : decode cX6_readsCommand 334 = .ok (.bipush 97, 2) := by decide +kernel
theorem dX6_readsCommand_336 : decode cX6_readsCommand 336 = .ok (.invokevirtual 219, 3) := by decide +kernel
theorem dX6_readsCommand_339 : decode cX6_readsCommand 339 = .ok (.ifCond .eq 23, 3) := by decide +kernel
theorem dX6_readsCommand_342 : decode cX6_readsCommand 342 = .ok (.aload_n 0, 1) := by decide +kernel
theorem dX6_readsCommand_343 : decode cX6_readsCommand 343 = .ok (.bipush 109, 2) := by decide +kernel
theorem dX6_readsCommand_345 : decode cX6_readsCommand 345 = .ok (.invokevirtual 219, 3) := by decide +kernel
theorem dX6_readsCommand_348 : decode cX6_readsCommand 348 = .ok (.ifCond .eq 14, 3) := by decide +kernel
theorem dX6_readsCommand_351 : decode cX6_readsCommand 351 = .ok (.aload_n 0, 1) := by decide +kernel
theorem dX6_readsCommand_352 : decode cX6_readsCommand 352 = .ok (.invokevirtual 222, 3) := by decide +kernel
theorem dX6_readsCommand_355 : decode cX6_readsCommand 355 = .ok (.ifCond .eq 7, 3) := by decide +kernel
theorem dX6_readsCommand_358 : decode cX6_readsCommand 358 = .ok (.iconst 1, 1) := by decide +kernel
theorem dX6_readsCommand_359 : decode cX6_readsCommand 359 = .ok (.goto 4, 3) := by decide +kernel
theorem dX6_readsCommand_362 : decode cX6_readsCommand 362 = .ok (.iconst 0, 1) := by decide +kernel
theorem dX6_readsCommand_363 : decode cX6_readsCommand 363 = .ok (.ireturn, 1) := by decide +kernel
theorem dX6_readsAll_0 : decode cX6_readsAll 0 = .ok (.aload_n 0, 1) := by decide +kernel
theorem dX6_readsAll_1 : decode cX6_readsAll 1 = .ok (.iconst 0, 1) := by decide +kernel
theorem dX6_readsAll_2 : decode cX6_readsAll 2 = .ok (.putfield 210, 3) := by decide +kernel
theorem dX6_readsAll_5 : decode cX6_readsAll 5 = .ok (.iconst 1, 1) := by decide +kernel
theorem dX6_readsAll_6 : decode cX6_readsAll 6 = .ok (.istore_n 1, 1) := by decide +kernel
theorem dX6_readsAll_7 : decode cX6_readsAll 7 = .ok (.iload_n 1, 1) := by decide +kernel
theorem dX6_readsAll_8 : decode cX6_readsAll 8 = .ok (.ifCond .eq 22, 3) := by decide +kernel
theorem dX6_readsAll_11 : decode cX6_readsAll 11 = .ok (.aload_n 0, 1) := by decide +kernel
theorem dX6_readsAll_12 : decode cX6_readsAll 12 = .ok (.invokevirtual 238, 3) := by decide +kernel
theorem dX6_readsAll_15 : decode cX6_readsAll 15 = .ok (.ifCond .ne 5, 3) := by decide +kernel
theorem dX6_readsAll_18 : decode cX6_readsAll 18 = .ok (.iconst 0, 1) := by decide +kernel
theorem dX6_readsAll_19 : decode cX6_readsAll 19 = .ok (.ireturn, 1) := by decide +kernel
theorem dX6_readsAll_20 : decode cX6_readsAll 20 = .ok (.aload_n 0, 1) := by decide +kernel
theorem dX6_readsAll_21 : decode cX6_readsAll 21 = .ok (.bipush 59, 2) := by decide +kernel
theorem dX6_readsAll_23 : decode cX6_readsAll 23 = .ok (.invokevirtual 219, 3) := by decide +kernel
theorem dX6_readsAll_26 : decode cX6_readsAll 26 = .ok (.istore_n 1, 1) := by decide +kernel
theorem dX6_readsAll_27 : decode cX6_readsAll 27 = .ok (.goto (-20), 3) := by decide +kernel
theorem dX6_readsAll_30 : decode cX6_readsAll 30 = .ok (.aload_n 0, 1) := by decide +kernel
theorem dX6_readsAll_31 : decode cX6_readsAll 31 = .ok (.getfield 210, 3) := by decide +kernel
theorem dX6_readsAll_34 : decode cX6_readsAll 34 = .ok (.aload_n 0, 1) := by decide +kernel
theorem dX6_readsAll_35 : decode cX6_readsAll 35 = .ok (.getfield 207, 3) := by decide +kernel
theorem dX6_readsAll_38 : decode cX6_readsAll 38 = .ok (.if_icmp .ne 7, 3) := by decide +kernel
theorem dX6_readsAll_41 : decode cX6_readsAll 41 = .ok (.iconst 1, 1) := by decide +kernel
theorem dX6_readsAll_42 : decode cX6_readsAll 42 = .ok (.goto 4, 3) := by decide +kernel
theorem dX6_readsAll_45 : decode cX6_readsAll 45 = .ok (.iconst 0, 1) := by decide +kernel
theorem dX6_readsAll_46 : decode cX6_readsAll 46 = .ok (.ireturn, 1) := by decide +kernel
theorem dX6_notNow_0 : decode cX6_notNow 0 = .ok (.aload_n 0, 1) := by decide +kernel
theorem dX6_notNow_1 : decode cX6_notNow 1 = .ok (.getfield 39, 3) := by decide +kernel
theorem dX6_notNow_4 : decode cX6_notNow 4 = .ok (.iconst 0, 1) := by decide +kernel
theorem dX6_notNow_5 : decode cX6_notNow 5 = .ok (.iaload, 1) := by decide +kernel
theorem dX6_notNow_6 : decode cX6_notNow 6 = .ok (.istore_n 1, 1) := by decide +kernel
theorem dX6_notNow_7 : decode cX6_notNow 7 = .ok (.aload_n 0, 1) := by decide +kernel
theorem dX6_notNow_8 : decode cX6_notNow 8 = .ok (.getfield 39, 3) := by decide +kernel
theorem dX6_notNow_11 : decode cX6_notNow 11 = .ok (.iconst 1, 1) := by decide +kernel
theorem dX6_notNow_12 : decode cX6_notNow 12 = .ok (.iaload, 1) := by decide +kernel
theorem dX6_notNow_13 : decode cX6_notNow 13 = .ok (.istore_n 2, 1) := by decide +kernel
theorem dX6_notNow_14 : decode cX6_notNow 14 = .ok (.aload_n 0, 1) := by decide +kernel
theorem dX6_notNow_15 : decode cX6_notNow 15 = .ok (.getfield 229, 3) := by decide +kernel
theorem dX6_notNow_18 : decode cX6_notNow 18 = .ok (.lookupswitch 100 #[(97, 58), (103, 90), (109, 95), (112, 83), (116, 64), (119, 90)], 58) := by decide +kernel
theorem dX6_notNow_76 : decode cX6_notNow 76 = .ok (.aload_n 0, 1) := by decide +kernel
theorem dX6_notNow_77 : decode cX6_notNow 77 = .ok (.iload_n 1, 1) := by decide +kernel
theorem dX6_notNow_78 : decode cX6_notNow 78 = .ok (.invokevirtual 81, 3) := by decide +kernel
theorem dX6_notNow_81 : decode cX6_notNow 81 = .ok (.ireturn, 1) := by decide +kernel
theorem dX6_notNow_82 : decode cX6_notNow 82 = .ok (.aload_n 0, 1) := by decide +kernel
theorem dX6_notNow_83 : decode cX6_notNow 83 = .ok (.iload_n 1, 1) := by decide +kernel
theorem dX6_notNow_84 : decode cX6_notNow 84 = .ok (.iload_n 2, 1) := by decide +kernel
theorem dX6_notNow_85 : decode cX6_notNow 85 = .ok (.aload_n 0, 1) := by decide +kernel
theorem dX6_notNow_86 : decode cX6_notNow 86 = .ok (.getfield 39, 3) := by decide +kernel
theorem dX6_notNow_89 : decode cX6_notNow 89 = .ok (.iconst 2, 1) := by decide +kernel
theorem dX6_notNow_90 : decode cX6_notNow 90 = .ok (.iaload, 1) := by decide +kernel
theorem dX6_notNow_91 : decode cX6_notNow 91 = .ok (.aload_n 0, 1) := by decide +kernel
theorem dX6_notNow_92 : decode cX6_notNow 92 = .ok (.getfield 39, 3) := by decide +kernel
theorem dX6_notNow_95 : decode cX6_notNow 95 = .ok (.iconst 3, 1) := by decide +kernel
theorem dX6_notNow_96 : decode cX6_notNow 96 = .ok (.iaload, 1) := by decide +kernel
theorem dX6_notNow_97 : decode cX6_notNow 97 = .ok (.invokevirtual 120, 3) := by decide +kernel
theorem dX6_notNow_100 : decode cX6_notNow 100 = .ok (.ireturn, 1) := by decide +kernel
theorem dX6_notNow_101 : decode cX6_notNow 101 = .ok (.aload_n 0, 1) := by decide +kernel
theorem dX6_notNow_102 : decode cX6_notNow 102 = .ok (.iload_n 1, 1) := by decide +kernel
theorem dX6_notNow_103 : decode cX6_notNow 103 = .ok (.iload_n 2, 1) := by decide +kernel
theorem dX6_notNow_104 : decode cX6_notNow 104 = .ok (.invokevirtual 126, 3) := by decide +kernel
theorem dX6_notNow_107 : decode cX6_notNow 107 = .ok (.ireturn, 1) := by decide +kernel
theorem dX6_notNow_108 : decode cX6_notNow 108 = .ok (.iload_n 1, 1) := by decide +kernel
theorem dX6_notNow_109 : decode cX6_notNow 109 = .ok (.invokestatic 132, 3) := by decide +kernel
theorem dX6_notNow_112 : decode cX6_notNow 112 = .ok (.ireturn, 1) := by decide +kernel
theorem dX6_notNow_113 : decode cX6_notNow 113 = .ok (.aload_n 0, 1) := by decide +kernel
theorem dX6_notNow_114 : decode cX6_notNow 114 = .ok (.invokevirtual 162, 3) := by decide +kernel
theorem dX6_notNow_117 : decode cX6_notNow 117 = .ok (.ireturn, 1) := by decide +kernel
theorem dX6_notNow_118 : decode cX6_notNow 118 = .ok (.aload_n 0, 1) := by decide +kernel
theorem dX6_notNow_119 : decode cX6_notNow 119 = .ok (.iload_n 1, 1) := by decide +kernel
theorem dX6_notNow_120 : decode cX6_notNow 120 = .ok (.iload_n 2, 1) := by decide +kernel
theorem dX6_notNow_121 : decode cX6_notNow 121 = .ok (.invokevirtual 144, 3) := by decide +kernel
theorem dX6_notNow_124 : decode cX6_notNow 124 = .ok (.ireturn, 1) := by decide +kernel
theorem dX6_doesNow_0 : decode cX6_doesNow 0 = .ok (.aload_n 0, 1) := by decide +kernel
theorem dX6_doesNow_1 : decode cX6_doesNow 1 = .ok (.getfield 39, 3) := by decide +kernel
theorem dX6_doesNow_4 : decode cX6_doesNow 4 = .ok (.iconst 0, 1) := by decide +kernel
theorem dX6_doesNow_5 : decode cX6_doesNow 5 = .ok (.iaload, 1) := by decide +kernel
theorem dX6_doesNow_6 : decode cX6_doesNow 6 = .ok (.istore_n 1, 1) := by decide +kernel
theorem dX6_doesNow_7 : decode cX6_doesNow 7 = .ok (.aload_n 0, 1) := by decide +kernel
theorem dX6_doesNow_8 : decode cX6_doesNow 8 = .ok (.getfield 39, 3) := by decide +kernel
theorem dX6_doesNow_11 : decode cX6_doesNow 11 = .ok (.iconst 1, 1) := by decide +kernel
theorem dX6_doesNow_12 : decode cX6_doesNow 12 = .ok (.iaload, 1) := by decide +kernel
theorem dX6_doesNow_13 : decode cX6_doesNow 13 = .ok (.istore_n 2, 1) := by decide +kernel
theorem dX6_doesNow_14 : decode cX6_doesNow 14 = .ok (.aload_n 0, 1) := by decide +kernel
theorem dX6_doesNow_15 : decode cX6_doesNow 15 = .ok (.getfield 229, 3) := by decide +kernel
theorem dX6_doesNow_18 : decode cX6_doesNow 18 = .ok (.tableswitch 164 97 119 #[106, 164, 164, 164, 164, 157, 145, 164, 164, 164, 164, 164, 152, 164, 164, 131, 164, 164, 164, 112, 164, 164, 138], 106) := by decide +kernel
theorem dX6_doesNow_124 : decode cX6_doesNow 124 = .ok (.aload_n 0, 1) := by decide +kernel
theorem dX6_doesNow_125 : decode cX6_doesNow 125 = .ok (.iload_n 1, 1) := by decide +kernel
theorem dX6_doesNow_126 : decode cX6_doesNow 126 = .ok (.invokevirtual 90, 3) := by decide +kernel
theorem dX6_doesNow_129 : decode cX6_doesNow 129 = .ok (.ireturn, 1) := by decide +kernel
theorem dX6_doesNow_130 : decode cX6_doesNow 130 = .ok (.aload_n 0, 1) := by decide +kernel
theorem dX6_doesNow_131 : decode cX6_doesNow 131 = .ok (.iload_n 1, 1) := by decide +kernel
theorem dX6_doesNow_132 : decode cX6_doesNow 132 = .ok (.iload_n 2, 1) := by decide +kernel
theorem dX6_doesNow_133 : decode cX6_doesNow 133 = .ok (.aload_n 0, 1) := by decide +kernel
theorem dX6_doesNow_134 : decode cX6_doesNow 134 = .ok (.getfield 39, 3) := by decide +kernel
theorem dX6_doesNow_137 : decode cX6_doesNow 137 = .ok (.iconst 2, 1) := by decide +kernel
theorem dX6_doesNow_138 : decode cX6_doesNow 138 = .ok (.iaload, 1) := by decide +kernel
theorem dX6_doesNow_139 : decode cX6_doesNow 139 = .ok (.aload_n 0, 1) := by decide +kernel
theorem dX6_doesNow_140 : decode cX6_doesNow 140 = .ok (.getfield 39, 3) := by decide +kernel
theorem dX6_doesNow_143 : decode cX6_doesNow 143 = .ok (.iconst 3, 1) := by decide +kernel
theorem dX6_doesNow_144 : decode cX6_doesNow 144 = .ok (.iaload, 1) := by decide +kernel
theorem dX6_doesNow_145 : decode cX6_doesNow 145 = .ok (.invokevirtual 123, 3) := by decide +kernel
theorem dX6_doesNow_148 : decode cX6_doesNow 148 = .ok (.ireturn, 1) := by decide +kernel
theorem dX6_doesNow_149 : decode cX6_doesNow 149 = .ok (.aload_n 0, 1) := by decide +kernel
theorem dX6_doesNow_150 : decode cX6_doesNow 150 = .ok (.iload_n 1, 1) := by decide +kernel
theorem dX6_doesNow_151 : decode cX6_doesNow 151 = .ok (.iload_n 2, 1) := by decide +kernel
theorem dX6_doesNow_152 : decode cX6_doesNow 152 = .ok (.invokevirtual 129, 3) := by decide +kernel
theorem dX6_doesNow_155 : decode cX6_doesNow 155 = .ok (.ireturn, 1) := by decide +kernel
theorem dX6_doesNow_156 : decode cX6_doesNow 156 = .ok (.aload_n 0, 1) := by decide +kernel
theorem dX6_doesNow_157 : decode cX6_doesNow 157 = .ok (.iconst 1, 1) := by decide +kernel
theorem dX6_doesNow_158 : decode cX6_doesNow 158 = .ok (.iload_n 1, 1) := by decide +kernel
theorem dX6_doesNow_159 : decode cX6_doesNow 159 = .ok (.invokevirtual 135, 3) := by decide +kernel
theorem dX6_doesNow_162 : decode cX6_doesNow 162 = .ok (.ireturn, 1) := by decide +kernel
theorem dX6_doesNow_163 : decode cX6_doesNow 163 = .ok (.aload_n 0, 1) := by decide +kernel
theorem dX6_doesNow_164 : decode cX6_doesNow 164 = .ok (.iconst 2, 1) := by decide +kernel
theorem dX6_doesNow_165 : decode cX6_doesNow 165 = .ok (.iload_n 1, 1) := by decide +kernel
theorem dX6_doesNow_166 : decode cX6_doesNow 166 = .ok (.invokevirtual 135, 3) := by decide +kernel
theorem dX6_doesNow_169 : decode cX6_doesNow 169 = .ok (.ireturn, 1) := by decide +kernel
theorem dX6_doesNow_170 : decode cX6_doesNow 170 = .ok (.aload_n 0, 1) := by decide +kernel
theorem dX6_doesNow_171 : decode cX6_doesNow 171 = .ok (.invokevirtual 166, 3) := by decide +kernel
theorem dX6_doesNow_174 : decode cX6_doesNow 174 = .ok (.ireturn, 1) := by decide +kernel
theorem dX6_doesNow_175 : decode cX6_doesNow 175 = .ok (.aload_n 0, 1) := by decide +kernel
theorem dX6_doesNow_176 : decode cX6_doesNow 176 = .ok (.iload_n 1, 1) := by decide +kernel
theorem dX6_doesNow_177 : decode cX6_doesNow 177 = .ok (.iload_n 2, 1) := by decide +kernel
theorem dX6_doesNow_178 : decode cX6_doesNow 178 = .ok (.invokevirtual 147, 3) := by decide +kernel
theorem dX6_doesNow_181 : decode cX6_doesNow 181 = .ok (.ireturn, 1) := by decide +kernel
theorem dX6_doesNow_182 : decode cX6_doesNow 182 = .ok (.aload_n 0, 1) := by decide +kernel
theorem dX6_doesNow_183 : decode cX6_doesNow 183 = .ok (.iload_n 1, 1) := by decide +kernel
theorem dX6_doesNow_184 : decode cX6_doesNow 184 = .ok (.iload_n 2, 1) := by decide +kernel
theorem dX6_doesNow_185 : decode cX6_doesNow 185 = .ok (.invokevirtual 159, 3) := by decide +kernel
theorem dX6_doesNow_188 : decode cX6_doesNow 188 = .ok (.ireturn, 1) := by decide +kernel
theorem dX6_doesAll_0 : decode cX6_doesAll 0 = .ok (.aload_n 0, 1) := by decide +kernel
theorem dX6_doesAll_1 : decode cX6_doesAll 1 = .ok (.iconst 0, 1) := by decide +kernel
theorem dX6_doesAll_2 : decode cX6_doesAll 2 = .ok (.putfield 241, 3) := by decide +kernel
theorem dX6_doesAll_5 : decode cX6_doesAll 5 = .ok (.aload_n 0, 1) := by decide +kernel
theorem dX6_doesAll_6 : decode cX6_doesAll 6 = .ok (.iconst 0, 1) := by decide +kernel
theorem dX6_doesAll_7 : decode cX6_doesAll 7 = .ok (.putfield 210, 3) := by decide +kernel
theorem dX6_doesAll_10 : decode cX6_doesAll 10 = .ok (.iconst 1, 1) := by decide +kernel
theorem dX6_doesAll_11 : decode cX6_doesAll 11 = .ok (.istore_n 1, 1) := by decide +kernel
theorem dX6_doesAll_12 : decode cX6_doesAll 12 = .ok (.iload_n 1, 1) := by decide +kernel
theorem dX6_doesAll_13 : decode cX6_doesAll 13 = .ok (.ifCond .eq 42, 3) := by decide +kernel
theorem dX6_doesAll_16 : decode cX6_doesAll 16 = .ok (.aload_n 0, 1) := by decide +kernel
theorem dX6_doesAll_17 : decode cX6_doesAll 17 = .ok (.invokevirtual 238, 3) := by decide +kernel
theorem dX6_doesAll_20 : decode cX6_doesAll 20 = .ok (.pop, 1) := by decide +kernel
theorem dX6_doesAll_21 : decode cX6_doesAll 21 = .ok (.aload_n 0, 1) := by decide +kernel
theorem dX6_doesAll_22 : decode cX6_doesAll 22 = .ok (.invokevirtual 244, 3) := by decide +kernel
theorem dX6_doesAll_25 : decode cX6_doesAll 25 = .ok (.ifCond .eq 5, 3) := by decide +kernel
theorem dX6_doesAll_28 : decode cX6_doesAll 28 = .ok (.iconst 0, 1) := by decide +kernel
theorem dX6_doesAll_29 : decode cX6_doesAll 29 = .ok (.ireturn, 1) := by decide +kernel
theorem dX6_doesAll_30 : decode cX6_doesAll 30 = .ok (.aload_n 0, 1) := by decide +kernel
theorem dX6_doesAll_31 : decode cX6_doesAll 31 = .ok (.invokevirtual 247, 3) := by decide +kernel
theorem dX6_doesAll_34 : decode cX6_doesAll 34 = .ok (.pop, 1) := by decide +kernel
theorem dX6_doesAll_35 : decode cX6_doesAll 35 = .ok (.aload_n 0, 1) := by decide +kernel
theorem dX6_doesAll_36 : decode cX6_doesAll 36 = .ok (.dup, 1) := by decide +kernel
theorem dX6_doesAll_37 : decode cX6_doesAll 37 = .ok (.getfield 241, 3) := by decide +kernel
theorem dX6_doesAll_40 : decode cX6_doesAll 40 = .ok (.iconst 1, 1) := by decide +kernel
theorem dX6_doesAll_41 : decode cX6_doesAll 41 = .ok (.iadd, 1) := by decide +kernel
theorem dX6_doesAll_42 : decode cX6_doesAll 42 = .ok (.putfield 241, 3) := by decide +kernel
theorem dX6_doesAll_45 : decode cX6_doesAll 45 = .ok (.aload_n 0, 1) := by decide +kernel
theorem dX6_doesAll_46 : decode cX6_doesAll 46 = .ok (.bipush 59, 2) := by decide +kernel
theorem dX6_doesAll_48 : decode cX6_doesAll 48 = .ok (.invokevirtual 219, 3) := by decide +kernel
theorem dX6_doesAll_51 : decode cX6_doesAll 51 = .ok (.istore_n 1, 1) := by decide +kernel
theorem dX6_doesAll_52 : decode cX6_doesAll 52 = .ok (.goto (-40), 3) := by decide +kernel
theorem dX6_doesAll_55 : decode cX6_doesAll 55 = .ok (.iconst 1, 1) := by decide +kernel
theorem dX6_doesAll_56 : decode cX6_doesAll 56 = .ok (.ireturn, 1) := by decide +kernel
theorem dX6_runScript_0 : decode cX6_runScript 0 = .ok (.aload_n 0, 1) := by decide +kernel
theorem dX6_runScript_1 : decode cX6_runScript 1 = .ok (.iconst 0, 1) := by decide +kernel
theorem dX6_runScript_2 : decode cX6_runScript 2 = .ok (.putfield 1, 3) := by decide +kernel
theorem dX6_runScript_5 : decode cX6_runScript 5 = .ok (.aload_n 0, 1) := by decide +kernel
theorem dX6_runScript_6 : decode cX6_runScript 6 = .ok (.invokevirtual 250, 3) := by decide +kernel
theorem dX6_runScript_9 : decode cX6_runScript 9 = .ok (.ifCond .ne 22, 3) := by decide +kernel
theorem dX6_runScript_12 : decode cX6_runScript 12 = .ok (.aload_n 0, 1) := by decide +kernel
theorem dX6_runScript_13 : decode cX6_runScript 13 = .ok (.aload_n 0, 1) := by decide +kernel
theorem dX6_runScript_14 : decode cX6_runScript 14 = .ok (.getfield 210, 3) := by decide +kernel
theorem dX6_runScript_17 : decode cX6_runScript 17 = .ok (.putfield 33, 3) := by decide +kernel
theorem dX6_runScript_20 : decode cX6_runScript 20 = .ok (.aload_n 0, 1) := by decide +kernel
theorem dX6_runScript_21 : decode cX6_runScript 21 = .ok (.iconst 0, 1) := by decide +kernel
theorem dX6_runScript_22 : decode cX6_runScript 22 = .ok (.putfield 207, 3) := by decide +kernel
theorem dX6_runScript_25 : decode cX6_runScript 25 = .ok (.aload_n 0, 1) := by decide +kernel
theorem dX6_runScript_26 : decode cX6_runScript 26 = .ok (.iconst 1, 1) := by decide +kernel
theorem dX6_runScript_27 : decode cX6_runScript 27 = .ok (.invokevirtual 84, 3) := by decide +kernel
theorem dX6_runScript_30 : decode cX6_runScript 30 = .ok (.ireturn, 1) := by decide +kernel
theorem dX6_runScript_31 : decode cX6_runScript 31 = .ok (.aload_n 0, 1) := by decide +kernel
theorem dX6_runScript_32 : decode cX6_runScript 32 = .ok (.invokevirtual 48, 3) := by decide +kernel
theorem dX6_runScript_35 : decode cX6_runScript 35 = .ok (.aload_n 0, 1) := by decide +kernel
theorem dX6_runScript_36 : decode cX6_runScript 36 = .ok (.invokevirtual 253, 3) := by decide +kernel
theorem dX6_runScript_39 : decode cX6_runScript 39 = .ok (.istore_n 1, 1) := by decide +kernel
theorem dX6_runScript_40 : decode cX6_runScript 40 = .ok (.aload_n 0, 1) := by decide +kernel
theorem dX6_runScript_41 : decode cX6_runScript 41 = .ok (.iconst 0, 1) := by decide +kernel
theorem dX6_runScript_42 : decode cX6_runScript 42 = .ok (.putfield 207, 3) := by decide +kernel
theorem dX6_runScript_45 : decode cX6_runScript 45 = .ok (.iload_n 1, 1) := by decide +kernel
theorem dX6_runScript_46 : decode cX6_runScript 46 = .ok (.ifCond .eq 12, 3) := by decide +kernel
theorem dX6_runScript_49 : decode cX6_runScript 49 = .ok (.aload_n 0, 1) := by decide +kernel
theorem dX6_runScript_50 : decode cX6_runScript 50 = .ok (.invokevirtual 51, 3) := by decide +kernel
theorem dX6_runScript_53 : decode cX6_runScript 53 = .ok (.aload_n 0, 1) := by decide +kernel
theorem dX6_runScript_54 : decode cX6_runScript 54 = .ok (.getfield 241, 3) := by decide +kernel
theorem dX6_runScript_57 : decode cX6_runScript 57 = .ok (.ireturn, 1) := by decide +kernel
theorem dX6_runScript_58 : decode cX6_runScript 58 = .ok (.aload_n 0, 1) := by decide +kernel
theorem dX6_runScript_59 : decode cX6_runScript 59 = .ok (.invokevirtual 256, 3) := by decide +kernel
theorem dX6_runScript_62 : decode cX6_runScript 62 = .ok (.aload_n 0, 1) := by decide +kernel
theorem dX6_runScript_63 : decode cX6_runScript 63 = .ok (.aload_n 0, 1) := by decide +kernel
theorem dX6_runScript_64 : decode cX6_runScript 64 = .ok (.getfield 241, 3) := by decide +kernel
theorem dX6_runScript_67 : decode cX6_runScript 67 = .ok (.putfield 36, 3) := by decide +kernel
theorem dX6_runScript_70 : decode cX6_runScript 70 = .ok (.aload_n 0, 1) := by decide +kernel
theorem dX6_runScript_71 : decode cX6_runScript 71 = .ok (.iconst 2, 1) := by decide +kernel
theorem dX6_runScript_72 : decode cX6_runScript 72 = .ok (.invokevirtual 84, 3) := by decide +kernel
theorem dX6_runScript_75 : decode cX6_runScript 75 = .ok (.ireturn, 1) := by decide +kernel
theorem dX6_errorPosition_0 : decode cX6_errorPosition 0 = .ok (.aload_n 0, 1) := by decide +kernel
theorem dX6_errorPosition_1 : decode cX6_errorPosition 1 = .ok (.iconst 0, 1) := by decide +kernel
theorem dX6_errorPosition_2 : decode cX6_errorPosition 2 = .ok (.putfield 1, 3) := by decide +kernel
theorem dX6_errorPosition_5 : decode cX6_errorPosition 5 = .ok (.aload_n 0, 1) := by decide +kernel
theorem dX6_errorPosition_6 : decode cX6_errorPosition 6 = .ok (.getfield 33, 3) := by decide +kernel
theorem dX6_errorPosition_9 : decode cX6_errorPosition 9 = .ok (.ifCond .ge 11, 3) := by decide +kernel
theorem dX6_errorPosition_12 : decode cX6_errorPosition 12 = .ok (.aload_n 0, 1) := by decide +kernel
theorem dX6_errorPosition_13 : decode cX6_errorPosition 13 = .ok (.iconst 1, 1) := by decide +kernel
theorem dX6_errorPosition_14 : decode cX6_errorPosition 14 = .ok (.invokevirtual 84, 3) := by decide +kernel
theorem dX6_errorPosition_17 : decode cX6_errorPosition 17 = .ok (.goto 7, 3) := by decide +kernel
theorem dX6_errorPosition_20 : decode cX6_errorPosition 20 = .ok (.aload_n 0, 1) := by decide +kernel
theorem dX6_errorPosition_21 : decode cX6_errorPosition 21 = .ok (.getfield 33, 3) := by decide +kernel
theorem dX6_errorPosition_24 : decode cX6_errorPosition 24 = .ok (.ireturn, 1) := by decide +kernel
theorem dX6_failedCommand_0 : decode cX6_failedCommand 0 = .ok (.aload_n 0, 1) := by decide +kernel
theorem dX6_failedCommand_1 : decode cX6_failedCommand 1 = .ok (.iconst 0, 1) := by decide +kernel
theorem dX6_failedCommand_2 : decode cX6_failedCommand 2 = .ok (.putfield 1, 3) := by decide +kernel
theorem dX6_failedCommand_5 : decode cX6_failedCommand 5 = .ok (.aload_n 0, 1) := by decide +kernel
theorem dX6_failedCommand_6 : decode cX6_failedCommand 6 = .ok (.getfield 36, 3) := by decide +kernel
theorem dX6_failedCommand_9 : decode cX6_failedCommand 9 = .ok (.ifCond .ge 11, 3) := by decide +kernel
theorem dX6_failedCommand_12 : decode cX6_failedCommand 12 = .ok (.aload_n 0, 1) := by decide +kernel
theorem dX6_failedCommand_13 : decode cX6_failedCommand 13 = .ok (.iconst 1, 1) := by decide +kernel
theorem dX6_failedCommand_14 : decode cX6_failedCommand 14 = .ok (.invokevirtual 84, 3) := by decide +kernel
theorem dX6_failedCommand_17 : decode cX6_failedCommand 17 = .ok (.goto 7, 3) := by decide +kernel
theorem dX6_failedCommand_20 : decode cX6_failedCommand 20 = .ok (.aload_n 0, 1) := by decide +kernel
theorem dX6_failedCommand_21 : decode cX6_failedCommand 21 = .ok (.getfield 36, 3) := by decide +kernel
theorem dX6_failedCommand_24 : decode cX6_failedCommand 24 = .ok (.ireturn, 1) := by decide +kernel
theorem dX6_undo_0 : decode cX6_undo 0 = .ok (.aload_n 0, 1) := by decide +kernel
theorem dX6_undo_1 : decode cX6_undo 1 = .ok (.iconst 0, 1) := by decide +kernel
theorem dX6_undo_2 : decode cX6_undo 2 = .ok (.putfield 1, 3) := by decide +kernel
theorem dX6_undo_5 : decode cX6_undo 5 = .ok (.aload_n 0, 1) := by decide +kernel
theorem dX6_undo_6 : decode cX6_undo 6 = .ok (.getfield 42, 3) := by decide +kernel
theorem dX6_undo_9 : decode cX6_undo 9 = .ok (.ifCond .ne 9, 3) := by decide +kernel
theorem dX6_undo_12 : decode cX6_undo 12 = .ok (.aload_n 0, 1) := by decide +kernel
theorem dX6_undo_13 : decode cX6_undo 13 = .ok (.iconst 1, 1) := by decide +kernel
theorem dX6_undo_14 : decode cX6_undo 14 = .ok (.invokevirtual 84, 3) := by decide +kernel
theorem dX6_undo_17 : decode cX6_undo 17 = .ok (.ireturn, 1) := by decide +kernel
theorem dX6_undo_18 : decode cX6_undo 18 = .ok (.aload_n 0, 1) := by decide +kernel
theorem dX6_undo_19 : decode cX6_undo 19 = .ok (.dup, 1) := by decide +kernel
theorem dX6_undo_20 : decode cX6_undo 20 = .ok (.getfield 42, 3) := by decide +kernel
theorem dX6_undo_23 : decode cX6_undo 23 = .ok (.iconst 1, 1) := by decide +kernel
theorem dX6_undo_24 : decode cX6_undo 24 = .ok (.isub, 1) := by decide +kernel
theorem dX6_undo_25 : decode cX6_undo 25 = .ok (.putfield 42, 3) := by decide +kernel
theorem dX6_undo_28 : decode cX6_undo 28 = .ok (.aload_n 0, 1) := by decide +kernel
theorem dX6_undo_29 : decode cX6_undo 29 = .ok (.getfield 45, 3) := by decide +kernel
theorem dX6_undo_32 : decode cX6_undo 32 = .ok (.aload_n 0, 1) := by decide +kernel
theorem dX6_undo_33 : decode cX6_undo 33 = .ok (.getfield 42, 3) := by decide +kernel
theorem dX6_undo_36 : decode cX6_undo 36 = .ok (.iadd, 1) := by decide +kernel
theorem dX6_undo_37 : decode cX6_undo 37 = .ok (.bipush 8, 2) := by decide +kernel
theorem dX6_undo_39 : decode cX6_undo 39 = .ok (.irem, 1) := by decide +kernel
theorem dX6_undo_40 : decode cX6_undo 40 = .ok (.istore_n 1, 1) := by decide +kernel
theorem dX6_undo_41 : decode cX6_undo 41 = .ok (.iconst 0, 1) := by decide +kernel
theorem dX6_undo_42 : decode cX6_undo 42 = .ok (.istore_n 2, 1) := by decide +kernel
theorem dX6_undo_43 : decode cX6_undo 43 = .ok (.iload_n 2, 1) := by decide +kernel
theorem dX6_undo_44 : decode cX6_undo 44 = .ok (.sipush 176, 3) := by decide +kernel
theorem dX6_undo_47 : decode cX6_undo 47 = .ok (.if_icmp .ge 27, 3) := by decide +kernel
theorem dX6_undo_50 : decode cX6_undo 50 = .ok (.aload_n 0, 1) := by decide +kernel
theorem dX6_undo_51 : decode cX6_undo 51 = .ok (.getfield 13, 3) := by decide +kernel
theorem dX6_undo_54 : decode cX6_undo 54 = .ok (.iload_n 2, 1) := by decide +kernel
theorem dX6_undo_55 : decode cX6_undo 55 = .ok (.aload_n 0, 1) := by decide +kernel
theorem dX6_undo_56 : decode cX6_undo 56 = .ok (.getfield 17, 3) := by decide +kernel
theorem dX6_undo_59 : decode cX6_undo 59 = .ok (.sipush 176, 3) := by decide +kernel
theorem dX6_undo_62 : decode cX6_undo 62 = .ok (.iload_n 1, 1) := by decide +kernel
theorem dX6_undo_63 : decode cX6_undo 63 = .ok (.imul, 1) := by decide +kernel
theorem dX6_undo_64 : decode cX6_undo 64 = .ok (.iload_n 2, 1) := by decide +kernel
theorem dX6_undo_65 : decode cX6_undo 65 = .ok (.iadd, 1) := by decide +kernel
theorem dX6_undo_66 : decode cX6_undo 66 = .ok (.iaload, 1) := by decide +kernel
theorem dX6_undo_67 : decode cX6_undo 67 = .ok (.iastore, 1) := by decide +kernel
theorem dX6_undo_68 : decode cX6_undo 68 = .ok (.iinc 2 1, 3) := by decide +kernel
theorem dX6_undo_71 : decode cX6_undo 71 = .ok (.goto (-28), 3) := by decide +kernel
theorem dX6_undo_74 : decode cX6_undo 74 = .ok (.aload_n 0, 1) := by decide +kernel
theorem dX6_undo_75 : decode cX6_undo 75 = .ok (.getfield 42, 3) := by decide +kernel
theorem dX6_undo_78 : decode cX6_undo 78 = .ok (.ireturn, 1) := by decide +kernel
theorem dX6_save_0 : decode cX6_save 0 = .ok (.aload_n 0, 1) := by decide +kernel
theorem dX6_save_1 : decode cX6_save 1 = .ok (.iconst 0, 1) := by decide +kernel
theorem dX6_save_2 : decode cX6_save 2 = .ok (.putfield 1, 3) := by decide +kernel
theorem dX6_save_5 : decode cX6_save 5 = .ok (.iconst 0, 1) := by decide +kernel
theorem dX6_save_6 : decode cX6_save 6 = .ok (.istore_n 1, 1) := by decide +kernel
theorem dX6_save_7 : decode cX6_save 7 = .ok (.iload_n 1, 1) := by decide +kernel
theorem dX6_save_8 : decode cX6_save 8 = .ok (.sipush 176, 3) := by decide +kernel
theorem dX6_save_11 : decode cX6_save 11 = .ok (.if_icmp .ge 21, 3) := by decide +kernel
theorem dX6_save_14 : decode cX6_save 14 = .ok (.aload_n 0, 1) := by decide +kernel
theorem dX6_save_15 : decode cX6_save 15 = .ok (.getfield 20, 3) := by decide +kernel
theorem dX6_save_18 : decode cX6_save 18 = .ok (.iload_n 1, 1) := by decide +kernel
theorem dX6_save_19 : decode cX6_save 19 = .ok (.aload_n 0, 1) := by decide +kernel
theorem dX6_save_20 : decode cX6_save 20 = .ok (.getfield 13, 3) := by decide +kernel
theorem dX6_save_23 : decode cX6_save 23 = .ok (.iload_n 1, 1) := by decide +kernel
theorem dX6_save_24 : decode cX6_save 24 = .ok (.iaload, 1) := by decide +kernel
theorem dX6_save_25 : decode cX6_save 25 = .ok (.iastore, 1) := by decide +kernel
theorem dX6_save_26 : decode cX6_save 26 = .ok (.iinc 1 1, 3) := by decide +kernel
theorem dX6_save_29 : decode cX6_save 29 = .ok (.goto (-22), 3) := by decide +kernel
theorem dX6_save_32 : decode cX6_save 32 = .ok (.aload_n 0, 1) := by decide +kernel
theorem dX6_save_33 : decode cX6_save 33 = .ok (.iconst 1, 1) := by decide +kernel
theorem dX6_save_34 : decode cX6_save 34 = .ok (.putfield 259, 3) := by decide +kernel
theorem dX6_save_37 : decode cX6_save 37 = .ok (.aload_n 0, 1) := by decide +kernel
theorem dX6_save_38 : decode cX6_save 38 = .ok (.getfield 13, 3) := by decide +kernel
theorem dX6_save_41 : decode cX6_save 41 = .ok (.iconst 0, 1) := by decide +kernel
theorem dX6_save_42 : decode cX6_save 42 = .ok (.iaload, 1) := by decide +kernel
theorem dX6_save_43 : decode cX6_save 43 = .ok (.ireturn, 1) := by decide +kernel
theorem dX6_restore_0 : decode cX6_restore 0 = .ok (.aload_n 0, 1) := by decide +kernel
theorem dX6_restore_1 : decode cX6_restore 1 = .ok (.iconst 0, 1) := by decide +kernel
theorem dX6_restore_2 : decode cX6_restore 2 = .ok (.putfield 1, 3) := by decide +kernel
theorem dX6_restore_5 : decode cX6_restore 5 = .ok (.aload_n 0, 1) := by decide +kernel
theorem dX6_restore_6 : decode cX6_restore 6 = .ok (.getfield 259, 3) := by decide +kernel
theorem dX6_restore_9 : decode cX6_restore 9 = .ok (.ifCond .ne 9, 3) := by decide +kernel
theorem dX6_restore_12 : decode cX6_restore 12 = .ok (.aload_n 0, 1) := by decide +kernel
theorem dX6_restore_13 : decode cX6_restore 13 = .ok (.iconst 1, 1) := by decide +kernel
theorem dX6_restore_14 : decode cX6_restore 14 = .ok (.invokevirtual 84, 3) := by decide +kernel
theorem dX6_restore_17 : decode cX6_restore 17 = .ok (.ireturn, 1) := by decide +kernel
theorem dX6_restore_18 : decode cX6_restore 18 = .ok (.iconst 0, 1) := by decide +kernel
theorem dX6_restore_19 : decode cX6_restore 19 = .ok (.istore_n 1, 1) := by decide +kernel
theorem dX6_restore_20 : decode cX6_restore 20 = .ok (.iload_n 1, 1) := by decide +kernel
theorem dX6_restore_21 : decode cX6_restore 21 = .ok (.sipush 176, 3) := by decide +kernel
theorem dX6_restore_24 : decode cX6_restore 24 = .ok (.if_icmp .ge 21, 3) := by decide +kernel
theorem dX6_restore_27 : decode cX6_restore 27 = .ok (.aload_n 0, 1) := by decide +kernel
theorem dX6_restore_28 : decode cX6_restore 28 = .ok (.getfield 13, 3) := by decide +kernel
theorem dX6_restore_31 : decode cX6_restore 31 = .ok (.iload_n 1, 1) := by decide +kernel
theorem dX6_restore_32 : decode cX6_restore 32 = .ok (.aload_n 0, 1) := by decide +kernel
theorem dX6_restore_33 : decode cX6_restore 33 = .ok (.getfield 20, 3) := by decide +kernel
theorem dX6_restore_36 : decode cX6_restore 36 = .ok (.iload_n 1, 1) := by decide +kernel
theorem dX6_restore_37 : decode cX6_restore 37 = .ok (.iaload, 1) := by decide +kernel
theorem dX6_restore_38 : decode cX6_restore 38 = .ok (.iastore, 1) := by decide +kernel
theorem dX6_restore_39 : decode cX6_restore 39 = .ok (.iinc 1 1, 3) := by decide +kernel
theorem dX6_restore_42 : decode cX6_restore 42 = .ok (.goto (-22), 3) := by decide +kernel
theorem dX6_restore_45 : decode cX6_restore 45 = .ok (.aload_n 0, 1) := by decide +kernel
theorem dX6_restore_46 : decode cX6_restore 46 = .ok (.iconst 0, 1) := by decide +kernel
theorem dX6_restore_47 : decode cX6_restore 47 = .ok (.putfield 42, 3) := by decide +kernel
theorem dX6_restore_50 : decode cX6_restore 50 = .ok (.aload_n 0, 1) := by decide +kernel
theorem dX6_restore_51 : decode cX6_restore 51 = .ok (.iconst 0, 1) := by decide +kernel
theorem dX6_restore_52 : decode cX6_restore 52 = .ok (.putfield 45, 3) := by decide +kernel
theorem dX6_restore_55 : decode cX6_restore 55 = .ok (.aload_n 0, 1) := by decide +kernel
theorem dX6_restore_56 : decode cX6_restore 56 = .ok (.getfield 13, 3) := by decide +kernel
theorem dX6_restore_59 : decode cX6_restore 59 = .ok (.iconst 0, 1) := by decide +kernel
theorem dX6_restore_60 : decode cX6_restore 60 = .ok (.iaload, 1) := by decide +kernel
theorem dX6_restore_61 : decode cX6_restore 61 = .ok (.ireturn, 1) := by decide +kernel
end
section
/-! rows that decompiled bodies use beside: entry, switches, Math, references out of rows -/
theorem Ct.ofB {ad : Nat → Nat} {y : MethodName} {cc : ByteArray} {nL d mc ms : Nat} {ret : Option FieldType} {As : List Value} {G G' : gG} {S S' : gS} {T T' : gT} {v : Option Value} (hy : plainName y.cls = true) (hlen : As.length ≤ nL) (hcat : As.all (fun v => v.category == 1) = true)
    (body : ∀ K : gKx, Gd K y.cls cc d → gEnd K ret v G' S' T' → (ky K).2 = ad ∧ kN K = nL → Xj K [] G 0 (As.map some ++ List.replicate (nL - As.length) none) [] S T mc ms) : Ct ad y (Cond.code y cc nL ret :: gTb) d mc ms As G S T v G' S' T' :=
  Ct.of hy hlen (fun v hv => by simpa using List.all_eq_true.mp hcat v hv) body
theorem x_rf {K : gKx} {PX : va_W} {G : gG} {pc b : Nat} {lv : List (Option Value)} {st : List Value} {S : gS} {T : gT} {c0 s0 : Nat} (k : Xj K PX G pc lv (.ref b :: st) S T c0 s0) : Xj K PX G pc lv (va_rf (some b) :: st) S T c0 s0 := k
theorem tab_ne {x c : Int32} {z : Int} (h : ¬ x = c) (hz : c.toInt = z) : ¬ x.toInt = z := fun q => h (Int32.toInt_inj.mp (q.trans hz.symm))
theorem x_tabI {K : gKx} {PX : va_W} {G : gG} {pc : Nat} {lv : List (Option Value)} {st : List Value} {S : gS} {T : gT} {c0 s0 d : Nat} {own : String} {cc : ByteArray} {dflt lo hi : Int} {offs : Array Int} {len : Nat} {x : Int32} {off : Int} (c : Int32) (tgt : Nat) (g : Gd K own cc d) (hdg : decode cc pc = .ok (.tableswitch dflt lo hi offs, len)) (hx : x = c) (h1 : ¬ c.toInt < lo) (h2 : ¬ hi < c.toInt) (ho : offs[(c.toInt - lo).toNat]? = some off) (ht : (pc : Int) + off = (tgt : Int)) (k : Xj K PX G tgt lv st S T c0 s0) : Xj K PX G pc lv (.int x :: st) S T c0 s0 := by
  subst hx
  exact fun H locs cells slots ls Z h => lv_tableIn g.1.1 g.1.2.1 hdg h1 h2 ho ht (k H locs cells slots ls Z h)
theorem x_tabD {K : gKx} {PX : va_W} {G : gG} {pc : Nat} {lv : List (Option Value)} {st : List Value} {S : gS} {T : gT} {c0 s0 d : Nat} {own : String} {cc : ByteArray} {dflt lo hi : Int} {offs : Array Int} {len : Nat} {x : Int32} (tgt : Nat) (g : Gd K own cc d) (hdg : decode cc pc = .ok (.tableswitch dflt lo hi offs, len)) (ht : (pc : Int) + dflt = (tgt : Int)) (live : List Int) (hn : ∀ z ∈ live, ¬ x.toInt = z) (hdead : ((List.range (hi - lo + 1).toNat).all fun k => live.contains (lo + (k : Int)) || (offs[k]? == some dflt)) = true) (k : Xj K PX G tgt lv st S T c0 s0) : Xj K PX G pc lv (.int x :: st) S T c0 s0 := by
  intro H locs cells slots ls Z h
  by_cases h1 : x.toInt < lo
  · exact lv_tableOut g.1.1 g.1.2.1 hdg (Or.inl h1) ht (k H locs cells slots ls Z h)
  · by_cases h2 : hi < x.toInt
    · exact lv_tableOut g.1.1 g.1.2.1 hdg (Or.inr h2) ht (k H locs cells slots ls Z h)
    · have h3 := List.all_eq_true.mp hdead (x.toInt - lo).toNat (List.mem_range.mpr (by omega))
      rw [show lo + ((x.toInt - lo).toNat : Int) = x.toInt by omega, Bool.or_eq_true] at h3
      rcases h3 with q | q
      · exact absurd rfl (hn _ (by simpa using q))
      · exact lv_tableIn g.1.1 g.1.2.1 hdg h1 h2 (by simpa using q) ht (k H locs cells slots ls Z h)
theorem x_lkI {K : gKx} {PX : va_W} {G : gG} {pc : Nat} {lv : List (Option Value)} {st : List Value} {S : gS} {T : gT} {c0 s0 d : Nat} {own : String} {cc : ByteArray} {dflt : Int} {ps : Array (Int × Int)} {len : Nat} {x : Int32} {off : Int} (c : Int32) (tgt : Nat) (g : Gd K own cc d) (hdg : decode cc pc = .ok (.lookupswitch dflt ps, len)) (hx : x = c) (hp : (ps.toList.zip (ps.toList.drop 1)).all (fun (a, next) => a.1 < next.1) = true) (ho : Op.lookupswitch.offset ps.toList dflt c.toInt = off) (ht : (pc : Int) + off = (tgt : Int)) (k : Xj K PX G tgt lv st S T c0 s0) : Xj K PX G pc lv (.int x :: st) S T c0 s0 := by
  subst hx
  exact fun H locs cells slots ls Z h => lv_lookup g.1.1 g.1.2.1 hdg hp ho ht (k H locs cells slots ls Z h)
theorem lk_out (dflt v : Int) : ∀ ps : List (Int × Int), (∀ p ∈ ps, ¬ v = p.1) → Op.lookupswitch.offset ps dflt v = dflt := by
  intro ps
  induction ps with
  | nil => intro _; rfl
  | cons p ps ih =>
    intro h
    have h1 := h p List.mem_cons_self
    have h2 := ih (fun q hq => h q (List.mem_cons_of_mem _ hq))
    obtain ⟨a, b⟩ := p
    unfold Op.lookupswitch.offset
    rw [if_neg (fun q => h1 q.symm), h2]
theorem x_lkD {K : gKx} {PX : va_W} {G : gG} {pc : Nat} {lv : List (Option Value)} {st : List Value} {S : gS} {T : gT} {c0 s0 d : Nat} {own : String} {cc : ByteArray} {dflt : Int} {ps : Array (Int × Int)} {len : Nat} {x : Int32} (tgt : Nat) (g : Gd K own cc d) (hdg : decode cc pc = .ok (.lookupswitch dflt ps, len)) (ht : (pc : Int) + dflt = (tgt : Int)) (live : List Int) (hn : ∀ z ∈ live, ¬ x.toInt = z) (hp : (ps.toList.zip (ps.toList.drop 1)).all (fun (a, next) => a.1 < next.1) = true) (hl : (ps.toList.all fun p => live.contains p.1) = true) (k : Xj K PX G tgt lv st S T c0 s0) : Xj K PX G pc lv (.int x :: st) S T c0 s0 := by
  intro H locs cells slots ls Z h
  refine lv_lookup g.1.1 g.1.2.1 hdg hp (lk_out dflt x.toInt _ (fun p hp => ?_)) ht (k H locs cells slots ls Z h)
  have := List.all_eq_true.mp hl p hp
  exact hn _ (by simpa using this)
theorem x_mmax {K : gKx} {PX : va_W} {G : gG} {pc idx : Nat} {lv : List (Option Value)} {st : List Value} {S : gS} {T : gT} {c0 s0 d : Nat} {own : String} {cc : ByteArray} {x y : Int32} (g : Gd K own cc d) (hlk : Cond.methodLink own idx Lib.Math.max.name ∈ lw_tbl) (hd : 1 ≤ d) (hW : (st.map fun v => v.category).sum ≤ 8) (hdg : decode cc pc = .ok (.invokestatic idx, 3)) (k : Xj K PX G (pc + 3) lv (.int (if x < y then y else x) :: st) S T c0 s0) : Xj K PX G pc lv (.int y :: .int x :: st) S T c0 s0 := by
  intro H locs cells slots ls Z h
  have hr := g.2.2.2.2.2.2
  have hb := h.2.2.2.2.2
  exact va_mmax g.1.1 g.1.2.1 (g.1.2.2.1.trans h.2.2.2.2.1.1.symm) g.1.2.2.2.1 (g.tb hlk rfl) (g.tb (w_tb 960 (by decide +kernel)) rfl) (g.tb (w_tb 19 (by decide +kernel)) rfl) (g.tb (w_tb 961 (by decide +kernel)) rfl) (by rw [hr]; exact hd) (by rw [hr]; show _ ≤ 64 * d; omega) (by rw [hr]; show cells ≤ kC K; omega) (by rw [hr]; show slots ≤ kS K; omega) hdg (k H locs cells slots ls Z h)
theorem x_mmin {K : gKx} {PX : va_W} {G : gG} {pc idx : Nat} {lv : List (Option Value)} {st : List Value} {S : gS} {T : gT} {c0 s0 d : Nat} {own : String} {cc : ByteArray} {x y : Int32} (g : Gd K own cc d) (hlk : Cond.methodLink own idx Lib.Math.min.name ∈ lw_tbl) (hd : 1 ≤ d) (hW : (st.map fun v => v.category).sum ≤ 8) (hdg : decode cc pc = .ok (.invokestatic idx, 3)) (k : Xj K PX G (pc + 3) lv (.int (if y < x then y else x) :: st) S T c0 s0) : Xj K PX G pc lv (.int y :: .int x :: st) S T c0 s0 := by
  intro H locs cells slots ls Z h
  have hr := g.2.2.2.2.2.2
  have hb := h.2.2.2.2.2
  exact va_mmin g.1.1 g.1.2.1 (g.1.2.2.1.trans h.2.2.2.2.1.1.symm) g.1.2.2.2.1 (g.tb hlk rfl) (g.tb (w_tb 344 (by decide +kernel)) rfl) (g.tb (w_tb 19 (by decide +kernel)) rfl) (g.tb (w_tb 345 (by decide +kernel)) rfl) (by rw [hr]; exact hd) (by rw [hr]; show _ ≤ 64 * d; omega) (by rw [hr]; show cells ≤ kC K; omega) (by rw [hr]; show slots ≤ kS K; omega) hdg (k H locs cells slots ls Z h)
theorem lmm_X5_432 : Cond.methodLink RX5 432 Lib.Math.min.name ∈ lw_tbl := w_tb 343 (by decide +kernel)
theorem lmm_X5_409 : Cond.methodLink RX5 409 Lib.Math.max.name ∈ lw_tbl := w_tb 1284 (by decide +kernel)
end
