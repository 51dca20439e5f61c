-- ===== PART A: goes FIRST, ahead of the names: the tables' words, and 'selects' of the private methods out of them =====
/-- a private method of a class that the tables say can be made, by its rows of tables_1 -/
def lw_okq (q : MethodName × Nat) : Prop := (q.1.cls ≠ "java/lang/invoke/MethodHandle" ∧ q.1.cls ≠ "java/lang/invoke/VarHandle") ∧ Cond.instantiable q.1.cls q.2 ∈ tables_1 ∧ Cond.privateMethod q.1 ∈ tables_1 ∧ Cond.instanceMethod q.1 ∈ tables_1
theorem lw_p0 : lw_okq (⟨"RightsPool", "isSession", "(I)Z"⟩, 9) := ⟨⟨by decide +kernel, by decide +kernel⟩, List.mem_of_getElem? (i := 26) (by decide +kernel), List.mem_of_getElem? (i := 593) (by decide +kernel), List.mem_of_getElem? (i := 594) (by decide +kernel)⟩
theorem lw_p1 : lw_okq (⟨"RightsPool", "isSeat", "(II)Z"⟩, 9) := ⟨⟨by decide +kernel, by decide +kernel⟩, List.mem_of_getElem? (i := 26) (by decide +kernel), List.mem_of_getElem? (i := 604) (by decide +kernel), List.mem_of_getElem? (i := 605) (by decide +kernel)⟩
theorem lw_p2 : lw_okq (⟨"RightsPool", "isPlayer", "(I)Z"⟩, 9) := ⟨⟨by decide +kernel, by decide +kernel⟩, List.mem_of_getElem? (i := 26) (by decide +kernel), List.mem_of_getElem? (i := 612) (by decide +kernel), List.mem_of_getElem? (i := 613) (by decide +kernel)⟩
theorem lw_p3 : lw_okq (⟨"RightsPool", "isLand", "(I)Z"⟩, 9) := ⟨⟨by decide +kernel, by decide +kernel⟩, List.mem_of_getElem? (i := 26) (by decide +kernel), List.mem_of_getElem? (i := 665) (by decide +kernel), List.mem_of_getElem? (i := 666) (by decide +kernel)⟩
theorem lw_p4 : lw_okq (⟨"RightsPool", "isPlay", "(III)Z"⟩, 9) := ⟨⟨by decide +kernel, by decide +kernel⟩, List.mem_of_getElem? (i := 26) (by decide +kernel), List.mem_of_getElem? (i := 782) (by decide +kernel), List.mem_of_getElem? (i := 783) (by decide +kernel)⟩
theorem lw_p5 : lw_okq (⟨"RightsPool", "isTooMuch", "(II)Z"⟩, 9) := ⟨⟨by decide +kernel, by decide +kernel⟩, List.mem_of_getElem? (i := 26) (by decide +kernel), List.mem_of_getElem? (i := 790) (by decide +kernel), List.mem_of_getElem? (i := 791) (by decide +kernel)⟩
theorem lw_p6 : lw_okq (⟨"RightsPool", "claimBar", "(II)I"⟩, 9) := ⟨⟨by decide +kernel, by decide +kernel⟩, List.mem_of_getElem? (i := 26) (by decide +kernel), List.mem_of_getElem? (i := 829) (by decide +kernel), List.mem_of_getElem? (i := 830) (by decide +kernel)⟩
theorem lw_p7 : lw_okq (⟨"RightsPool", "partBar", "(I)I"⟩, 9) := ⟨⟨by decide +kernel, by decide +kernel⟩, List.mem_of_getElem? (i := 26) (by decide +kernel), List.mem_of_getElem? (i := 858) (by decide +kernel), List.mem_of_getElem? (i := 859) (by decide +kernel)⟩
theorem lw_p8 : lw_okq (⟨"RightsPool", "partBox", "(I)I"⟩, 9) := ⟨⟨by decide +kernel, by decide +kernel⟩, List.mem_of_getElem? (i := 26) (by decide +kernel), List.mem_of_getElem? (i := 866) (by decide +kernel), List.mem_of_getElem? (i := 867) (by decide +kernel)⟩
theorem lw_p9 : lw_okq (⟨"RightsPool", "paidSomewhere", "(II)I"⟩, 9) := ⟨⟨by decide +kernel, by decide +kernel⟩, List.mem_of_getElem? (i := 26) (by decide +kernel), List.mem_of_getElem? (i := 956) (by decide +kernel), List.mem_of_getElem? (i := 957) (by decide +kernel)⟩
theorem lw_p10 : lw_okq (⟨"RightsPool", "rankOf", "(I)I"⟩, 9) := ⟨⟨by decide +kernel, by decide +kernel⟩, List.mem_of_getElem? (i := 26) (by decide +kernel), List.mem_of_getElem? (i := 964) (by decide +kernel), List.mem_of_getElem? (i := 965) (by decide +kernel)⟩
theorem lw_p11 : lw_okq (⟨"RightsPool", "moneyOfLand", "(II)I"⟩, 9) := ⟨⟨by decide +kernel, by decide +kernel⟩, List.mem_of_getElem? (i := 26) (by decide +kernel), List.mem_of_getElem? (i := 1009) (by decide +kernel), List.mem_of_getElem? (i := 1010) (by decide +kernel)⟩
theorem lw_p12 : lw_okq (⟨"RightsPool", "claimWorth", "(II)I"⟩, 9) := ⟨⟨by decide +kernel, by decide +kernel⟩, List.mem_of_getElem? (i := 26) (by decide +kernel), List.mem_of_getElem? (i := 1052) (by decide +kernel), List.mem_of_getElem? (i := 1053) (by decide +kernel)⟩
theorem lw_p13 : lw_okq (⟨"RightsPool", "roundFrom", "(II)I"⟩, 9) := ⟨⟨by decide +kernel, by decide +kernel⟩, List.mem_of_getElem? (i := 26) (by decide +kernel), List.mem_of_getElem? (i := 1115) (by decide +kernel), List.mem_of_getElem? (i := 1116) (by decide +kernel)⟩
theorem lw_p14 : lw_okq (⟨"java/lang/Throwable", "fillInStackTrace", "(I)Ljava/lang/Throwable;"⟩, 6) := ⟨⟨by decide +kernel, by decide +kernel⟩, List.mem_of_getElem? (i := 1174) (by decide +kernel), List.mem_of_getElem? (i := 1172) (by decide +kernel), List.mem_of_getElem? (i := 1173) (by decide +kernel)⟩
theorem lw_p15 : lw_okq (⟨"RightsPoolModel", "opens", "()V"⟩, 50) := ⟨⟨by decide +kernel, by decide +kernel⟩, List.mem_of_getElem? (i := 1255) (by decide +kernel), List.mem_of_getElem? (i := 1261) (by decide +kernel), List.mem_of_getElem? (i := 1262) (by decide +kernel)⟩
def lw_privs_1 : List (MethodName × Nat) := [(⟨"RightsPool", "isSession", "(I)Z"⟩, 9), (⟨"RightsPool", "isSeat", "(II)Z"⟩, 9), (⟨"RightsPool", "isPlayer", "(I)Z"⟩, 9), (⟨"RightsPool", "isLand", "(I)Z"⟩, 9), (⟨"RightsPool", "isPlay", "(III)Z"⟩, 9), (⟨"RightsPool", "isTooMuch", "(II)Z"⟩, 9), (⟨"RightsPool", "claimBar", "(II)I"⟩, 9), (⟨"RightsPool", "partBar", "(I)I"⟩, 9), (⟨"RightsPool", "partBox", "(I)I"⟩, 9), (⟨"RightsPool", "paidSomewhere", "(II)I"⟩, 9), (⟨"RightsPool", "rankOf", "(I)I"⟩, 9), (⟨"RightsPool", "moneyOfLand", "(II)I"⟩, 9), (⟨"RightsPool", "claimWorth", "(II)I"⟩, 9), (⟨"RightsPool", "roundFrom", "(II)I"⟩, 9), (⟨"java/lang/Throwable", "fillInStackTrace", "(I)Ljava/lang/Throwable;"⟩, 6), (⟨"RightsPoolModel", "opens", "()V"⟩, 50)]
theorem lw_r1 : ∀ q ∈ lw_privs_1, lw_okq q := List.forall_mem_cons.mpr ⟨lw_p0, List.forall_mem_cons.mpr ⟨lw_p1, List.forall_mem_cons.mpr ⟨lw_p2, List.forall_mem_cons.mpr ⟨lw_p3, List.forall_mem_cons.mpr ⟨lw_p4, List.forall_mem_cons.mpr ⟨lw_p5, List.forall_mem_cons.mpr ⟨lw_p6, List.forall_mem_cons.mpr ⟨lw_p7, List.forall_mem_cons.mpr ⟨lw_p8, List.forall_mem_cons.mpr ⟨lw_p9, List.forall_mem_cons.mpr ⟨lw_p10, List.forall_mem_cons.mpr ⟨lw_p11, List.forall_mem_cons.mpr ⟨lw_p12, List.forall_mem_cons.mpr ⟨lw_p13, List.forall_mem_cons.mpr ⟨lw_p14, List.forall_mem_cons.mpr ⟨lw_p15, fun _ h => absurd h List.not_mem_nil⟩⟩⟩⟩⟩⟩⟩⟩⟩⟩⟩⟩⟩⟩⟩⟩
theorem lw_p16 : lw_okq (⟨"RightsPoolModel", "token", "()V"⟩, 50) := ⟨⟨by decide +kernel, by decide +kernel⟩, List.mem_of_getElem? (i := 1255) (by decide +kernel), List.mem_of_getElem? (i := 1428) (by decide +kernel), List.mem_of_getElem? (i := 1429) (by decide +kernel)⟩
theorem lw_p17 : lw_okq (⟨"RightsPoolModel", "here", "()I"⟩, 50) := ⟨⟨by decide +kernel, by decide +kernel⟩, List.mem_of_getElem? (i := 1255) (by decide +kernel), List.mem_of_getElem? (i := 1432) (by decide +kernel), List.mem_of_getElem? (i := 1433) (by decide +kernel)⟩
theorem lw_p18 : lw_okq (⟨"RightsPoolModel", "wordHere", "()I"⟩, 50) := ⟨⟨by decide +kernel, by decide +kernel⟩, List.mem_of_getElem? (i := 1255) (by decide +kernel), List.mem_of_getElem? (i := 1439) (by decide +kernel), List.mem_of_getElem? (i := 1440) (by decide +kernel)⟩
theorem lw_p19 : lw_okq (⟨"RightsPoolModel", "readLine", "()V"⟩, 50) := ⟨⟨by decide +kernel, by decide +kernel⟩, List.mem_of_getElem? (i := 1255) (by decide +kernel), List.mem_of_getElem? (i := 1450) (by decide +kernel), List.mem_of_getElem? (i := 1451) (by decide +kernel)⟩
theorem lw_p20 : lw_okq (⟨"RightsPoolModel", "readLand", "()V"⟩, 50) := ⟨⟨by decide +kernel, by decide +kernel⟩, List.mem_of_getElem? (i := 1255) (by decide +kernel), List.mem_of_getElem? (i := 1454) (by decide +kernel), List.mem_of_getElem? (i := 1455) (by decide +kernel)⟩
theorem lw_p21 : lw_okq (⟨"RightsPoolModel", "wrong", "(I)V"⟩, 50) := ⟨⟨by decide +kernel, by decide +kernel⟩, List.mem_of_getElem? (i := 1255) (by decide +kernel), List.mem_of_getElem? (i := 1458) (by decide +kernel), List.mem_of_getElem? (i := 1459) (by decide +kernel)⟩
theorem lw_p22 : lw_okq (⟨"RightsPoolModel", "newName", "([II)V"⟩, 50) := ⟨⟨by decide +kernel, by decide +kernel⟩, List.mem_of_getElem? (i := 1255) (by decide +kernel), List.mem_of_getElem? (i := 1462) (by decide +kernel), List.mem_of_getElem? (i := 1463) (by decide +kernel)⟩
theorem lw_p23 : lw_okq (⟨"RightsPoolModel", "goOn", "()V"⟩, 50) := ⟨⟨by decide +kernel, by decide +kernel⟩, List.mem_of_getElem? (i := 1255) (by decide +kernel), List.mem_of_getElem? (i := 1466) (by decide +kernel), List.mem_of_getElem? (i := 1467) (by decide +kernel)⟩
theorem lw_p24 : lw_okq (⟨"RightsPoolModel", "isOther", "()Z"⟩, 50) := ⟨⟨by decide +kernel, by decide +kernel⟩, List.mem_of_getElem? (i := 1255) (by decide +kernel), List.mem_of_getElem? (i := 1470) (by decide +kernel), List.mem_of_getElem? (i := 1471) (by decide +kernel)⟩
theorem lw_p25 : lw_okq (⟨"RightsPoolModel", "named", "([II)I"⟩, 50) := ⟨⟨by decide +kernel, by decide +kernel⟩, List.mem_of_getElem? (i := 1255) (by decide +kernel), List.mem_of_getElem? (i := 1474) (by decide +kernel), List.mem_of_getElem? (i := 1475) (by decide +kernel)⟩
theorem lw_p26 : lw_okq (⟨"RightsPoolModel", "among", "(II)I"⟩, 50) := ⟨⟨by decide +kernel, by decide +kernel⟩, List.mem_of_getElem? (i := 1255) (by decide +kernel), List.mem_of_getElem? (i := 1478) (by decide +kernel), List.mem_of_getElem? (i := 1479) (by decide +kernel)⟩
theorem lw_p27 : lw_okq (⟨"RightsPoolModel", "number", "(II)I"⟩, 50) := ⟨⟨by decide +kernel, by decide +kernel⟩, List.mem_of_getElem? (i := 1255) (by decide +kernel), List.mem_of_getElem? (i := 1482) (by decide +kernel), List.mem_of_getElem? (i := 1483) (by decide +kernel)⟩
theorem lw_p28 : lw_okq (⟨"RightsPoolModel", "isEnd", "()Z"⟩, 50) := ⟨⟨by decide +kernel, by decide +kernel⟩, List.mem_of_getElem? (i := 1255) (by decide +kernel), List.mem_of_getElem? (i := 1486) (by decide +kernel), List.mem_of_getElem? (i := 1487) (by decide +kernel)⟩
theorem lw_p29 : lw_okq (⟨"RightsPoolModel", "readPlayer", "()V"⟩, 50) := ⟨⟨by decide +kernel, by decide +kernel⟩, List.mem_of_getElem? (i := 1255) (by decide +kernel), List.mem_of_getElem? (i := 1490) (by decide +kernel), List.mem_of_getElem? (i := 1491) (by decide +kernel)⟩
theorem lw_p30 : lw_okq (⟨"RightsPoolModel", "readSession", "()V"⟩, 50) := ⟨⟨by decide +kernel, by decide +kernel⟩, List.mem_of_getElem? (i := 1255) (by decide +kernel), List.mem_of_getElem? (i := 1494) (by decide +kernel), List.mem_of_getElem? (i := 1495) (by decide +kernel)⟩
theorem lw_p31 : lw_okq (⟨"RightsPoolModel", "readOne", "(I)V"⟩, 50) := ⟨⟨by decide +kernel, by decide +kernel⟩, List.mem_of_getElem? (i := 1255) (by decide +kernel), List.mem_of_getElem? (i := 1498) (by decide +kernel), List.mem_of_getElem? (i := 1499) (by decide +kernel)⟩
def lw_privs_2 : List (MethodName × Nat) := [(⟨"RightsPoolModel", "token", "()V"⟩, 50), (⟨"RightsPoolModel", "here", "()I"⟩, 50), (⟨"RightsPoolModel", "wordHere", "()I"⟩, 50), (⟨"RightsPoolModel", "readLine", "()V"⟩, 50), (⟨"RightsPoolModel", "readLand", "()V"⟩, 50), (⟨"RightsPoolModel", "wrong", "(I)V"⟩, 50), (⟨"RightsPoolModel", "newName", "([II)V"⟩, 50), (⟨"RightsPoolModel", "goOn", "()V"⟩, 50), (⟨"RightsPoolModel", "isOther", "()Z"⟩, 50), (⟨"RightsPoolModel", "named", "([II)I"⟩, 50), (⟨"RightsPoolModel", "among", "(II)I"⟩, 50), (⟨"RightsPoolModel", "number", "(II)I"⟩, 50), (⟨"RightsPoolModel", "isEnd", "()Z"⟩, 50), (⟨"RightsPoolModel", "readPlayer", "()V"⟩, 50), (⟨"RightsPoolModel", "readSession", "()V"⟩, 50), (⟨"RightsPoolModel", "readOne", "(I)V"⟩, 50)]
theorem lw_r2 : ∀ q ∈ lw_privs_2, lw_okq q := List.forall_mem_cons.mpr ⟨lw_p16, List.forall_mem_cons.mpr ⟨lw_p17, List.forall_mem_cons.mpr ⟨lw_p18, List.forall_mem_cons.mpr ⟨lw_p19, List.forall_mem_cons.mpr ⟨lw_p20, List.forall_mem_cons.mpr ⟨lw_p21, List.forall_mem_cons.mpr ⟨lw_p22, List.forall_mem_cons.mpr ⟨lw_p23, List.forall_mem_cons.mpr ⟨lw_p24, List.forall_mem_cons.mpr ⟨lw_p25, List.forall_mem_cons.mpr ⟨lw_p26, List.forall_mem_cons.mpr ⟨lw_p27, List.forall_mem_cons.mpr ⟨lw_p28, List.forall_mem_cons.mpr ⟨lw_p29, List.forall_mem_cons.mpr ⟨lw_p30, List.forall_mem_cons.mpr ⟨lw_p31, fun _ h => absurd h List.not_mem_nil⟩⟩⟩⟩⟩⟩⟩⟩⟩⟩⟩⟩⟩⟩⟩⟩
theorem lw_p32 : lw_okq (⟨"RightsPoolModel", "readLead", "()V"⟩, 50) := ⟨⟨by decide +kernel, by decide +kernel⟩, List.mem_of_getElem? (i := 1255) (by decide +kernel), List.mem_of_getElem? (i := 1502) (by decide +kernel), List.mem_of_getElem? (i := 1503) (by decide +kernel)⟩
theorem lw_p33 : lw_okq (⟨"RightsPoolModel", "readKeep", "()V"⟩, 50) := ⟨⟨by decide +kernel, by decide +kernel⟩, List.mem_of_getElem? (i := 1255) (by decide +kernel), List.mem_of_getElem? (i := 1506) (by decide +kernel), List.mem_of_getElem? (i := 1507) (by decide +kernel)⟩
theorem lw_p34 : lw_okq (⟨"RightsPoolModel", "takesText", "()V"⟩, 50) := ⟨⟨by decide +kernel, by decide +kernel⟩, List.mem_of_getElem? (i := 1255) (by decide +kernel), List.mem_of_getElem? (i := 1510) (by decide +kernel), List.mem_of_getElem? (i := 1511) (by decide +kernel)⟩
theorem lw_p35 : lw_okq (⟨"RightsPoolModel", "isLand", "(I)Z"⟩, 50) := ⟨⟨by decide +kernel, by decide +kernel⟩, List.mem_of_getElem? (i := 1255) (by decide +kernel), List.mem_of_getElem? (i := 1522) (by decide +kernel), List.mem_of_getElem? (i := 1523) (by decide +kernel)⟩
theorem lw_p36 : lw_okq (⟨"RightsPoolModel", "paidIn", "(II)I"⟩, 50) := ⟨⟨by decide +kernel, by decide +kernel⟩, List.mem_of_getElem? (i := 1255) (by decide +kernel), List.mem_of_getElem? (i := 1526) (by decide +kernel), List.mem_of_getElem? (i := 1527) (by decide +kernel)⟩
theorem lw_p37 : lw_okq (⟨"RightsPoolModel", "keptIn", "(I)I"⟩, 50) := ⟨⟨by decide +kernel, by decide +kernel⟩, List.mem_of_getElem? (i := 1255) (by decide +kernel), List.mem_of_getElem? (i := 1530) (by decide +kernel), List.mem_of_getElem? (i := 1531) (by decide +kernel)⟩
theorem lw_p38 : lw_okq (⟨"RightsPoolModel", "isPlayer", "(I)Z"⟩, 50) := ⟨⟨by decide +kernel, by decide +kernel⟩, List.mem_of_getElem? (i := 1255) (by decide +kernel), List.mem_of_getElem? (i := 1541) (by decide +kernel), List.mem_of_getElem? (i := 1542) (by decide +kernel)⟩
theorem lw_p39 : lw_okq (⟨"RightsPoolModel", "paidAll", "(I)I"⟩, 50) := ⟨⟨by decide +kernel, by decide +kernel⟩, List.mem_of_getElem? (i := 1255) (by decide +kernel), List.mem_of_getElem? (i := 1545) (by decide +kernel), List.mem_of_getElem? (i := 1546) (by decide +kernel)⟩
theorem lw_p40 : lw_okq (⟨"RightsPoolModel", "weightAll", "(I)I"⟩, 50) := ⟨⟨by decide +kernel, by decide +kernel⟩, List.mem_of_getElem? (i := 1255) (by decide +kernel), List.mem_of_getElem? (i := 1549) (by decide +kernel), List.mem_of_getElem? (i := 1550) (by decide +kernel)⟩
theorem lw_p41 : lw_okq (⟨"RightsPoolModel", "weightIn", "(II)I"⟩, 50) := ⟨⟨by decide +kernel, by decide +kernel⟩, List.mem_of_getElem? (i := 1255) (by decide +kernel), List.mem_of_getElem? (i := 1553) (by decide +kernel), List.mem_of_getElem? (i := 1554) (by decide +kernel)⟩
theorem lw_p42 : lw_okq (⟨"RightsPoolModel", "roleOf", "(II)I"⟩, 50) := ⟨⟨by decide +kernel, by decide +kernel⟩, List.mem_of_getElem? (i := 1255) (by decide +kernel), List.mem_of_getElem? (i := 1557) (by decide +kernel), List.mem_of_getElem? (i := 1558) (by decide +kernel)⟩
theorem lw_p43 : lw_okq (⟨"RightsPoolModel", "owner", "(II)I"⟩, 50) := ⟨⟨by decide +kernel, by decide +kernel⟩, List.mem_of_getElem? (i := 1255) (by decide +kernel), List.mem_of_getElem? (i := 1561) (by decide +kernel), List.mem_of_getElem? (i := 1562) (by decide +kernel)⟩
theorem lw_p44 : lw_okq (⟨"RightsPoolModel", "paidByOf", "(II)I"⟩, 50) := ⟨⟨by decide +kernel, by decide +kernel⟩, List.mem_of_getElem? (i := 1255) (by decide +kernel), List.mem_of_getElem? (i := 1565) (by decide +kernel), List.mem_of_getElem? (i := 1566) (by decide +kernel)⟩
theorem lw_p45 : lw_okq (⟨"RightsPoolModel", "doesPay", "(III)Z"⟩, 50) := ⟨⟨by decide +kernel, by decide +kernel⟩, List.mem_of_getElem? (i := 1255) (by decide +kernel), List.mem_of_getElem? (i := 1569) (by decide +kernel), List.mem_of_getElem? (i := 1570) (by decide +kernel)⟩
theorem lw_p46 : lw_okq (⟨"RightsPoolModel", "isSession", "(I)Z"⟩, 50) := ⟨⟨by decide +kernel, by decide +kernel⟩, List.mem_of_getElem? (i := 1255) (by decide +kernel), List.mem_of_getElem? (i := 1577) (by decide +kernel), List.mem_of_getElem? (i := 1578) (by decide +kernel)⟩
theorem lw_p47 : lw_okq (⟨"RightsPoolModel", "manyOf", "(II)I"⟩, 50) := ⟨⟨by decide +kernel, by decide +kernel⟩, List.mem_of_getElem? (i := 1255) (by decide +kernel), List.mem_of_getElem? (i := 1581) (by decide +kernel), List.mem_of_getElem? (i := 1582) (by decide +kernel)⟩
def lw_privs_3 : List (MethodName × Nat) := [(⟨"RightsPoolModel", "readLead", "()V"⟩, 50), (⟨"RightsPoolModel", "readKeep", "()V"⟩, 50), (⟨"RightsPoolModel", "takesText", "()V"⟩, 50), (⟨"RightsPoolModel", "isLand", "(I)Z"⟩, 50), (⟨"RightsPoolModel", "paidIn", "(II)I"⟩, 50), (⟨"RightsPoolModel", "keptIn", "(I)I"⟩, 50), (⟨"RightsPoolModel", "isPlayer", "(I)Z"⟩, 50), (⟨"RightsPoolModel", "paidAll", "(I)I"⟩, 50), (⟨"RightsPoolModel", "weightAll", "(I)I"⟩, 50), (⟨"RightsPoolModel", "weightIn", "(II)I"⟩, 50), (⟨"RightsPoolModel", "roleOf", "(II)I"⟩, 50), (⟨"RightsPoolModel", "owner", "(II)I"⟩, 50), (⟨"RightsPoolModel", "paidByOf", "(II)I"⟩, 50), (⟨"RightsPoolModel", "doesPay", "(III)Z"⟩, 50), (⟨"RightsPoolModel", "isSession", "(I)Z"⟩, 50), (⟨"RightsPoolModel", "manyOf", "(II)I"⟩, 50)]
theorem lw_r3 : ∀ q ∈ lw_privs_3, lw_okq q := List.forall_mem_cons.mpr ⟨lw_p32, List.forall_mem_cons.mpr ⟨lw_p33, List.forall_mem_cons.mpr ⟨lw_p34, List.forall_mem_cons.mpr ⟨lw_p35, List.forall_mem_cons.mpr ⟨lw_p36, List.forall_mem_cons.mpr ⟨lw_p37, List.forall_mem_cons.mpr ⟨lw_p38, List.forall_mem_cons.mpr ⟨lw_p39, List.forall_mem_cons.mpr ⟨lw_p40, List.forall_mem_cons.mpr ⟨lw_p41, List.forall_mem_cons.mpr ⟨lw_p42, List.forall_mem_cons.mpr ⟨lw_p43, List.forall_mem_cons.mpr ⟨lw_p44, List.forall_mem_cons.mpr ⟨lw_p45, List.forall_mem_cons.mpr ⟨lw_p46, List.forall_mem_cons.mpr ⟨lw_p47, fun _ h => absurd h List.not_mem_nil⟩⟩⟩⟩⟩⟩⟩⟩⟩⟩⟩⟩⟩⟩⟩⟩
theorem lw_p48 : lw_okq (⟨"RightsPoolModel", "openOf", "(I)I"⟩, 50) := ⟨⟨by decide +kernel, by decide +kernel⟩, List.mem_of_getElem? (i := 1255) (by decide +kernel), List.mem_of_getElem? (i := 1585) (by decide +kernel), List.mem_of_getElem? (i := 1586) (by decide +kernel)⟩
theorem lw_p49 : lw_okq (⟨"RightsPoolModel", "keptOf", "(III)I"⟩, 50) := ⟨⟨by decide +kernel, by decide +kernel⟩, List.mem_of_getElem? (i := 1255) (by decide +kernel), List.mem_of_getElem? (i := 1589) (by decide +kernel), List.mem_of_getElem? (i := 1590) (by decide +kernel)⟩
theorem lw_p50 : lw_okq (⟨"RightsPoolModel", "isSeat", "(II)Z"⟩, 50) := ⟨⟨by decide +kernel, by decide +kernel⟩, List.mem_of_getElem? (i := 1255) (by decide +kernel), List.mem_of_getElem? (i := 1601) (by decide +kernel), List.mem_of_getElem? (i := 1602) (by decide +kernel)⟩
theorem lw_p51 : lw_okq (⟨"RightsPoolModel", "doAnswer", "(II)Z"⟩, 50) := ⟨⟨by decide +kernel, by decide +kernel⟩, List.mem_of_getElem? (i := 1255) (by decide +kernel), List.mem_of_getElem? (i := 1624) (by decide +kernel), List.mem_of_getElem? (i := 1625) (by decide +kernel)⟩
theorem lw_p52 : lw_okq (⟨"RightsPoolModel", "ringOf", "(I)I"⟩, 50) := ⟨⟨by decide +kernel, by decide +kernel⟩, List.mem_of_getElem? (i := 1255) (by decide +kernel), List.mem_of_getElem? (i := 1632) (by decide +kernel), List.mem_of_getElem? (i := 1633) (by decide +kernel)⟩
theorem lw_p53 : lw_okq (⟨"RightsPoolModel", "isTooMuch", "(II)Z"⟩, 50) := ⟨⟨by decide +kernel, by decide +kernel⟩, List.mem_of_getElem? (i := 1255) (by decide +kernel), List.mem_of_getElem? (i := 1651) (by decide +kernel), List.mem_of_getElem? (i := 1652) (by decide +kernel)⟩
theorem lw_p54 : lw_okq (⟨"RightsPoolModel", "keeps", "()V"⟩, 50) := ⟨⟨by decide +kernel, by decide +kernel⟩, List.mem_of_getElem? (i := 1255) (by decide +kernel), List.mem_of_getElem? (i := 1656) (by decide +kernel), List.mem_of_getElem? (i := 1657) (by decide +kernel)⟩
theorem lw_p55 : lw_okq (⟨"RightsPoolModel", "sumOf", "(IIII)I"⟩, 50) := ⟨⟨by decide +kernel, by decide +kernel⟩, List.mem_of_getElem? (i := 1255) (by decide +kernel), List.mem_of_getElem? (i := 1660) (by decide +kernel), List.mem_of_getElem? (i := 1661) (by decide +kernel)⟩
theorem lw_p56 : lw_okq (⟨"RightsPoolModel", "laysShares", "(II)V"⟩, 50) := ⟨⟨by decide +kernel, by decide +kernel⟩, List.mem_of_getElem? (i := 1255) (by decide +kernel), List.mem_of_getElem? (i := 1664) (by decide +kernel), List.mem_of_getElem? (i := 1665) (by decide +kernel)⟩
theorem lw_p57 : lw_okq (⟨"RightsPoolModel", "whole", "(I)I"⟩, 50) := ⟨⟨by decide +kernel, by decide +kernel⟩, List.mem_of_getElem? (i := 1255) (by decide +kernel), List.mem_of_getElem? (i := 1668) (by decide +kernel), List.mem_of_getElem? (i := 1669) (by decide +kernel)⟩
theorem lw_p58 : lw_okq (⟨"RightsPoolModel", "roleAt", "(II)I"⟩, 50) := ⟨⟨by decide +kernel, by decide +kernel⟩, List.mem_of_getElem? (i := 1255) (by decide +kernel), List.mem_of_getElem? (i := 1673) (by decide +kernel), List.mem_of_getElem? (i := 1674) (by decide +kernel)⟩
theorem lw_p59 : lw_okq (⟨"RightsPoolModel", "where", "(III)I"⟩, 50) := ⟨⟨by decide +kernel, by decide +kernel⟩, List.mem_of_getElem? (i := 1255) (by decide +kernel), List.mem_of_getElem? (i := 1677) (by decide +kernel), List.mem_of_getElem? (i := 1678) (by decide +kernel)⟩
theorem lw_p60 : lw_okq (⟨"RightsPoolModel", "whose", "(II)I"⟩, 50) := ⟨⟨by decide +kernel, by decide +kernel⟩, List.mem_of_getElem? (i := 1255) (by decide +kernel), List.mem_of_getElem? (i := 1681) (by decide +kernel), List.mem_of_getElem? (i := 1682) (by decide +kernel)⟩
theorem lw_p61 : lw_okq (⟨"RightsPoolModel", "pays", "(IIIZ)V"⟩, 50) := ⟨⟨by decide +kernel, by decide +kernel⟩, List.mem_of_getElem? (i := 1255) (by decide +kernel), List.mem_of_getElem? (i := 1685) (by decide +kernel), List.mem_of_getElem? (i := 1686) (by decide +kernel)⟩
theorem lw_p62 : lw_okq (⟨"RightsPoolModel", "goesYear", "(III)I"⟩, 50) := ⟨⟨by decide +kernel, by decide +kernel⟩, List.mem_of_getElem? (i := 1255) (by decide +kernel), List.mem_of_getElem? (i := 1693) (by decide +kernel), List.mem_of_getElem? (i := 1694) (by decide +kernel)⟩
theorem lw_p63 : lw_okq (⟨"RightsPoolModel", "whyNoClaim", "(II)I"⟩, 50) := ⟨⟨by decide +kernel, by decide +kernel⟩, List.mem_of_getElem? (i := 1255) (by decide +kernel), List.mem_of_getElem? (i := 1704) (by decide +kernel), List.mem_of_getElem? (i := 1705) (by decide +kernel)⟩
def lw_privs_4 : List (MethodName × Nat) := [(⟨"RightsPoolModel", "openOf", "(I)I"⟩, 50), (⟨"RightsPoolModel", "keptOf", "(III)I"⟩, 50), (⟨"RightsPoolModel", "isSeat", "(II)Z"⟩, 50), (⟨"RightsPoolModel", "doAnswer", "(II)Z"⟩, 50), (⟨"RightsPoolModel", "ringOf", "(I)I"⟩, 50), (⟨"RightsPoolModel", "isTooMuch", "(II)Z"⟩, 50), (⟨"RightsPoolModel", "keeps", "()V"⟩, 50), (⟨"RightsPoolModel", "sumOf", "(IIII)I"⟩, 50), (⟨"RightsPoolModel", "laysShares", "(II)V"⟩, 50), (⟨"RightsPoolModel", "whole", "(I)I"⟩, 50), (⟨"RightsPoolModel", "roleAt", "(II)I"⟩, 50), (⟨"RightsPoolModel", "where", "(III)I"⟩, 50), (⟨"RightsPoolModel", "whose", "(II)I"⟩, 50), (⟨"RightsPoolModel", "pays", "(IIIZ)V"⟩, 50), (⟨"RightsPoolModel", "goesYear", "(III)I"⟩, 50), (⟨"RightsPoolModel", "whyNoClaim", "(II)I"⟩, 50)]
theorem lw_r4 : ∀ q ∈ lw_privs_4, lw_okq q := List.forall_mem_cons.mpr ⟨lw_p48, List.forall_mem_cons.mpr ⟨lw_p49, List.forall_mem_cons.mpr ⟨lw_p50, List.forall_mem_cons.mpr ⟨lw_p51, List.forall_mem_cons.mpr ⟨lw_p52, List.forall_mem_cons.mpr ⟨lw_p53, List.forall_mem_cons.mpr ⟨lw_p54, List.forall_mem_cons.mpr ⟨lw_p55, List.forall_mem_cons.mpr ⟨lw_p56, List.forall_mem_cons.mpr ⟨lw_p57, List.forall_mem_cons.mpr ⟨lw_p58, List.forall_mem_cons.mpr ⟨lw_p59, List.forall_mem_cons.mpr ⟨lw_p60, List.forall_mem_cons.mpr ⟨lw_p61, List.forall_mem_cons.mpr ⟨lw_p62, List.forall_mem_cons.mpr ⟨lw_p63, fun _ h => absurd h List.not_mem_nil⟩⟩⟩⟩⟩⟩⟩⟩⟩⟩⟩⟩⟩⟩⟩⟩
theorem lw_p64 : lw_okq (⟨"RightsPoolModel", "openSeat", "(I)I"⟩, 50) := ⟨⟨by decide +kernel, by decide +kernel⟩, List.mem_of_getElem? (i := 1255) (by decide +kernel), List.mem_of_getElem? (i := 1708) (by decide +kernel), List.mem_of_getElem? (i := 1709) (by decide +kernel)⟩
theorem lw_p65 : lw_okq (⟨"RightsPoolModel", "broughtBy", "(III)I"⟩, 50) := ⟨⟨by decide +kernel, by decide +kernel⟩, List.mem_of_getElem? (i := 1255) (by decide +kernel), List.mem_of_getElem? (i := 1712) (by decide +kernel), List.mem_of_getElem? (i := 1713) (by decide +kernel)⟩
theorem lw_p66 : lw_okq (⟨"RightsPoolModel", "empties", "(III)V"⟩, 50) := ⟨⟨by decide +kernel, by decide +kernel⟩, List.mem_of_getElem? (i := 1255) (by decide +kernel), List.mem_of_getElem? (i := 1716) (by decide +kernel), List.mem_of_getElem? (i := 1717) (by decide +kernel)⟩
theorem lw_p67 : lw_okq (⟨"RightsPoolModel", "whyNoPart", "(I)I"⟩, 50) := ⟨⟨by decide +kernel, by decide +kernel⟩, List.mem_of_getElem? (i := 1255) (by decide +kernel), List.mem_of_getElem? (i := 1724) (by decide +kernel), List.mem_of_getElem? (i := 1725) (by decide +kernel)⟩
theorem lw_p68 : lw_okq (⟨"RightsPoolModel", "allWeights", "(I)J"⟩, 50) := ⟨⟨by decide +kernel, by decide +kernel⟩, List.mem_of_getElem? (i := 1255) (by decide +kernel), List.mem_of_getElem? (i := 1728) (by decide +kernel), List.mem_of_getElem? (i := 1729) (by decide +kernel)⟩
theorem lw_p69 : lw_okq (⟨"RightsPoolModel", "parts", "(I)I"⟩, 50) := ⟨⟨by decide +kernel, by decide +kernel⟩, List.mem_of_getElem? (i := 1255) (by decide +kernel), List.mem_of_getElem? (i := 1732) (by decide +kernel), List.mem_of_getElem? (i := 1733) (by decide +kernel)⟩
theorem lw_p70 : lw_okq (⟨"RightsPoolModel", "laysParts", "(I)V"⟩, 50) := ⟨⟨by decide +kernel, by decide +kernel⟩, List.mem_of_getElem? (i := 1255) (by decide +kernel), List.mem_of_getElem? (i := 1736) (by decide +kernel), List.mem_of_getElem? (i := 1737) (by decide +kernel)⟩
theorem lw_p71 : lw_okq (⟨"RightsPoolModel", "keptFor", "(II)I"⟩, 50) := ⟨⟨by decide +kernel, by decide +kernel⟩, List.mem_of_getElem? (i := 1255) (by decide +kernel), List.mem_of_getElem? (i := 1775) (by decide +kernel), List.mem_of_getElem? (i := 1776) (by decide +kernel)⟩
theorem lw_p72 : lw_okq (⟨"RightsPoolModel", "paidTo", "(IIII)I"⟩, 50) := ⟨⟨by decide +kernel, by decide +kernel⟩, List.mem_of_getElem? (i := 1255) (by decide +kernel), List.mem_of_getElem? (i := 1813) (by decide +kernel), List.mem_of_getElem? (i := 1814) (by decide +kernel)⟩
theorem lw_p73 : lw_okq (⟨"RightsPoolModel", "lends", "(III)V"⟩, 50) := ⟨⟨by decide +kernel, by decide +kernel⟩, List.mem_of_getElem? (i := 1255) (by decide +kernel), List.mem_of_getElem? (i := 1817) (by decide +kernel), List.mem_of_getElem? (i := 1818) (by decide +kernel)⟩
theorem lw_p74 : lw_okq (⟨"RightsPoolModel", "back", "(I)V"⟩, 50) := ⟨⟨by decide +kernel, by decide +kernel⟩, List.mem_of_getElem? (i := 1255) (by decide +kernel), List.mem_of_getElem? (i := 1821) (by decide +kernel), List.mem_of_getElem? (i := 1822) (by decide +kernel)⟩
theorem lw_p75 : lw_okq (⟨"RightsPoolModel", "paidFor", "(II)I"⟩, 50) := ⟨⟨by decide +kernel, by decide +kernel⟩, List.mem_of_getElem? (i := 1255) (by decide +kernel), List.mem_of_getElem? (i := 1833) (by decide +kernel), List.mem_of_getElem? (i := 1834) (by decide +kernel)⟩
theorem lw_p76 : lw_okq (⟨"RightsPoolModel", "paidOver", "(II)I"⟩, 50) := ⟨⟨by decide +kernel, by decide +kernel⟩, List.mem_of_getElem? (i := 1255) (by decide +kernel), List.mem_of_getElem? (i := 1845) (by decide +kernel), List.mem_of_getElem? (i := 1846) (by decide +kernel)⟩
theorem lw_p77 : lw_okq (⟨"RightsPoolModel", "netOf", "(I)I"⟩, 50) := ⟨⟨by decide +kernel, by decide +kernel⟩, List.mem_of_getElem? (i := 1255) (by decide +kernel), List.mem_of_getElem? (i := 1853) (by decide +kernel), List.mem_of_getElem? (i := 1854) (by decide +kernel)⟩
theorem lw_p78 : lw_okq (⟨"RightsPoolModel", "toPlayersOf", "(I)I"⟩, 50) := ⟨⟨by decide +kernel, by decide +kernel⟩, List.mem_of_getElem? (i := 1255) (by decide +kernel), List.mem_of_getElem? (i := 1873) (by decide +kernel), List.mem_of_getElem? (i := 1874) (by decide +kernel)⟩
theorem lw_p79 : lw_okq (⟨"RightsPoolModel", "roundOf", "(II)I"⟩, 50) := ⟨⟨by decide +kernel, by decide +kernel⟩, List.mem_of_getElem? (i := 1255) (by decide +kernel), List.mem_of_getElem? (i := 1893) (by decide +kernel), List.mem_of_getElem? (i := 1894) (by decide +kernel)⟩
def lw_privs_5 : List (MethodName × Nat) := [(⟨"RightsPoolModel", "openSeat", "(I)I"⟩, 50), (⟨"RightsPoolModel", "broughtBy", "(III)I"⟩, 50), (⟨"RightsPoolModel", "empties", "(III)V"⟩, 50), (⟨"RightsPoolModel", "whyNoPart", "(I)I"⟩, 50), (⟨"RightsPoolModel", "allWeights", "(I)J"⟩, 50), (⟨"RightsPoolModel", "parts", "(I)I"⟩, 50), (⟨"RightsPoolModel", "laysParts", "(I)V"⟩, 50), (⟨"RightsPoolModel", "keptFor", "(II)I"⟩, 50), (⟨"RightsPoolModel", "paidTo", "(IIII)I"⟩, 50), (⟨"RightsPoolModel", "lends", "(III)V"⟩, 50), (⟨"RightsPoolModel", "back", "(I)V"⟩, 50), (⟨"RightsPoolModel", "paidFor", "(II)I"⟩, 50), (⟨"RightsPoolModel", "paidOver", "(II)I"⟩, 50), (⟨"RightsPoolModel", "netOf", "(I)I"⟩, 50), (⟨"RightsPoolModel", "toPlayersOf", "(I)I"⟩, 50), (⟨"RightsPoolModel", "roundOf", "(II)I"⟩, 50)]
theorem lw_r5 : ∀ q ∈ lw_privs_5, lw_okq q := List.forall_mem_cons.mpr ⟨lw_p64, List.forall_mem_cons.mpr ⟨lw_p65, List.forall_mem_cons.mpr ⟨lw_p66, List.forall_mem_cons.mpr ⟨lw_p67, List.forall_mem_cons.mpr ⟨lw_p68, List.forall_mem_cons.mpr ⟨lw_p69, List.forall_mem_cons.mpr ⟨lw_p70, List.forall_mem_cons.mpr ⟨lw_p71, List.forall_mem_cons.mpr ⟨lw_p72, List.forall_mem_cons.mpr ⟨lw_p73, List.forall_mem_cons.mpr ⟨lw_p74, List.forall_mem_cons.mpr ⟨lw_p75, List.forall_mem_cons.mpr ⟨lw_p76, List.forall_mem_cons.mpr ⟨lw_p77, List.forall_mem_cons.mpr ⟨lw_p78, List.forall_mem_cons.mpr ⟨lw_p79, fun _ h => absurd h List.not_mem_nil⟩⟩⟩⟩⟩⟩⟩⟩⟩⟩⟩⟩⟩⟩⟩⟩
theorem lw_p80 : lw_okq (⟨"RightsPoolModel", "sumIn", "(II)I"⟩, 50) := ⟨⟨by decide +kernel, by decide +kernel⟩, List.mem_of_getElem? (i := 1255) (by decide +kernel), List.mem_of_getElem? (i := 1933) (by decide +kernel), List.mem_of_getElem? (i := 1934) (by decide +kernel)⟩
theorem lw_p81 : lw_okq (⟨"RightsPoolModel", "openAll", "()I"⟩, 50) := ⟨⟨by decide +kernel, by decide +kernel⟩, List.mem_of_getElem? (i := 1255) (by decide +kernel), List.mem_of_getElem? (i := 1941) (by decide +kernel), List.mem_of_getElem? (i := 1942) (by decide +kernel)⟩
def lw_privs_6 : List (MethodName × Nat) := [(⟨"RightsPoolModel", "sumIn", "(II)I"⟩, 50), (⟨"RightsPoolModel", "openAll", "()I"⟩, 50)]
theorem lw_r6 : ∀ q ∈ lw_privs_6, lw_okq q := List.forall_mem_cons.mpr ⟨lw_p80, List.forall_mem_cons.mpr ⟨lw_p81, fun _ h => absurd h List.not_mem_nil⟩⟩
def lw_privs : List (MethodName × Nat) := lw_privs_1 ++ (lw_privs_2 ++ (lw_privs_3 ++ (lw_privs_4 ++ (lw_privs_5 ++ (lw_privs_6)))))
def lw_tbl : List Cond := k2_sels lw_privs ++ tables_1
theorem lw_privs_ok : ∀ q ∈ lw_privs, lw_okq q := by
  show ∀ q ∈ lw_privs_1 ++ (lw_privs_2 ++ (lw_privs_3 ++ (lw_privs_4 ++ (lw_privs_5 ++ (lw_privs_6))))), lw_okq q
  exact List.forall_mem_append.mpr ⟨lw_r1, List.forall_mem_append.mpr ⟨lw_r2, List.forall_mem_append.mpr ⟨lw_r3, List.forall_mem_append.mpr ⟨lw_r4, List.forall_mem_append.mpr ⟨lw_r5, lw_r6⟩⟩⟩⟩⟩


def RX0 : String := "RightsPool$Books"
def TX0 : u_T := fun k => match k with
  | 0 => ("RightsPool$Books", "world", "LRightsPool$World;", true)
  | 1 => ("RightsPool$Books", "box", "[I", true)
  | 2 => ("RightsPool$Books", "landMoney", "[I", true)
  | 3 => ("RightsPool$Books", "sessionMoney", "[I", true)
  | 4 => ("RightsPool$Books", "sessionCopies", "[I", true)
  | 5 => ("RightsPool$Books", "weight", "[I", true)
  | 6 => ("RightsPool$Books", "byParts", "[I", true)
  | 7 => ("RightsPool$Books", "lapse", "[I", true)
  | 8 => ("RightsPool$Books", "keeping", "[I", true)
  | _ => ("RightsPool$Books", "year", "I", false)
def tyX0 : Nat → FieldType := fun k => match k with
  | 0 => .object "RightsPool$World"
  | 1 => .array .int
  | 2 => .array .int
  | 3 => .array .int
  | 4 => .array .int
  | 5 => .array .int
  | 6 => .array .int
  | 7 => .array .int
  | 8 => .array .int
  | _ => .int
abbrev wsX00 : List Cond := u_ws RX0 TX0 10
theorem nmX0 : ∀ a, a < 10 → ∀ b, b < 10 → a ≠ b → (TX0 a).2.1 ≠ (TX0 b).2.1 := by decide +kernel
theorem tyX0_ok : ∀ k, k < 10 → parseFieldDescriptor (TX0 k).2.2.1 = some (tyX0 k) := by decide +kernel
abbrev cX0_init : ByteArray := prog_2_method_1_code
def yX0_init : MethodName := ⟨RX0, "<init>", "()V"⟩
abbrev cX0_open : ByteArray := prog_2_method_2_code
def yX0_open : MethodName := ⟨RX0, "open", "(LRightsPool$Roll;)V"⟩
abbrev cX0_copyFrom : ByteArray := prog_2_method_3_code
def yX0_copyFrom : MethodName := ⟨RX0, "copyFrom", "(LRightsPool$Books;)V"⟩
abbrev cX0_enterPlay : ByteArray := prog_2_method_4_code
def yX0_enterPlay : MethodName := ⟨RX0, "enterPlay", "(LRightsPool$Roll;LRightsPool$Outcome;III)V"⟩
abbrev cX0_passYear : ByteArray := prog_2_method_5_code
def yX0_passYear : MethodName := ⟨RX0, "passYear", "(LRightsPool$Roll;)I"⟩
abbrev cX0_ageSlot : ByteArray := prog_2_method_6_code
def yX0_ageSlot : MethodName := ⟨RX0, "ageSlot", "(II)I"⟩
abbrev cX0_worthOfSeat : ByteArray := prog_2_method_7_code
def yX0_worthOfSeat : MethodName := ⟨RX0, "worthOfSeat", "(LRightsPool$Roll;III)I"⟩
abbrev cX0_enterClaim : ByteArray := prog_2_method_8_code
def yX0_enterClaim : MethodName := ⟨RX0, "enterClaim", "(LRightsPool$Roll;III)I"⟩
abbrev cX0_enterPart : ByteArray := prog_2_method_9_code
def yX0_enterPart : MethodName := ⟨RX0, "enterPart", "(LRightsPool$Roll;LRightsPool$BoxShares;I)I"⟩
abbrev cX0_keepNothing : ByteArray := prog_2_method_10_code
def yX0_keepNothing : MethodName := ⟨RX0, "keepNothing", "(I)V"⟩
abbrev cX0_paidBoth : ByteArray := prog_2_method_11_code
def yX0_paidBoth : MethodName := ⟨RX0, "paidBoth", "(II)I"⟩
abbrev cX0_paidTo : ByteArray := prog_2_method_12_code
def yX0_paidTo : MethodName := ⟨RX0, "paidTo", "(LRightsPool$Roll;I)I"⟩
abbrev cX0_partsTo : ByteArray := prog_2_method_13_code
def yX0_partsTo : MethodName := ⟨RX0, "partsTo", "(LRightsPool$Roll;I)I"⟩
abbrev cX0_weightIn : ByteArray := prog_2_method_14_code
def yX0_weightIn : MethodName := ⟨RX0, "weightIn", "(LRightsPool$Roll;I)I"⟩
abbrev cX0_partsIn : ByteArray := prog_2_method_15_code
def yX0_partsIn : MethodName := ⟨RX0, "partsIn", "(LRightsPool$Roll;I)I"⟩
abbrev cX0_paidIn : ByteArray := prog_2_method_16_code
def yX0_paidIn : MethodName := ⟨RX0, "paidIn", "(LRightsPool$Roll;I)I"⟩
abbrev cX0_paidAcross : ByteArray := prog_2_method_17_code
def yX0_paidAcross : MethodName := ⟨RX0, "paidAcross", "(LRightsPool$Roll;II)I"⟩
abbrev cX0_netOf : ByteArray := prog_2_method_18_code
def yX0_netOf : MethodName := ⟨RX0, "netOf", "(LRightsPool$Roll;I)I"⟩
abbrev cX0_keptAtSlot : ByteArray := prog_2_method_19_code
def yX0_keptAtSlot : MethodName := ⟨RX0, "keptAtSlot", "(I)I"⟩
abbrev cX0_keptOfSession : ByteArray := prog_2_method_20_code
def yX0_keptOfSession : MethodName := ⟨RX0, "keptOfSession", "(LRightsPool$Roll;I)I"⟩
abbrev cX0_keptIn : ByteArray := prog_2_method_21_code
def yX0_keptIn : MethodName := ⟨RX0, "keptIn", "(I)I"⟩
abbrev cX0_keptSince : ByteArray := prog_2_method_22_code
def yX0_keptSince : MethodName := ⟨RX0, "keptSince", "(II)I"⟩
abbrev cX0_eldestKept : ByteArray := prog_2_method_23_code
def yX0_eldestKept : MethodName := ⟨RX0, "eldestKept", "(I)I"⟩
abbrev cX0_lapsedIn : ByteArray := prog_2_method_24_code
def yX0_lapsedIn : MethodName := ⟨RX0, "lapsedIn", "(I)I"⟩
def RX1 : String := "RightsPool$BoxShares"
def TX1 : u_T := fun k => match k with
  | 0 => ("RightsPool$BoxShares", "cents", "[I", true)
  | _ => ("RightsPool$BoxShares", "rest", "[J", true)
def tyX1 : Nat → FieldType := fun k => match k with
  | 0 => .array .int
  | _ => .array .long
abbrev wsX10 : List Cond := u_ws RX1 TX1 2
theorem nmX1 : ∀ a, a < 2 → ∀ b, b < 2 → a ≠ b → (TX1 a).2.1 ≠ (TX1 b).2.1 := by decide +kernel
theorem tyX1_ok : ∀ k, k < 2 → parseFieldDescriptor (TX1 k).2.2.1 = some (tyX1 k) := by decide +kernel
abbrev cX1_init : ByteArray := prog_3_method_1_code
def yX1_init : MethodName := ⟨RX1, "<init>", "()V"⟩
abbrev cX1_reckon : ByteArray := prog_3_method_2_code
def yX1_reckon : MethodName := ⟨RX1, "reckon", "(LRightsPool$Roll;LRightsPool$Books;I)V"⟩
abbrev cX1_addCent : ByteArray := prog_3_method_3_code
def yX1_addCent : MethodName := ⟨RX1, "addCent", "(I)V"⟩
def RX2 : String := "RightsPool$History"
def TX2 : u_T := fun k => match k with
  | 0 => ("RightsPool$History", "past", "[LRightsPool$Books;", true)
  | 1 => ("RightsPool$History", "latest", "I", false)
  | _ => ("RightsPool$History", "count", "I", false)
def tyX2 : Nat → FieldType := fun k => match k with
  | 0 => .array (.object "RightsPool$Books")
  | 1 => .int
  | _ => .int
abbrev wsX20 : List Cond := u_ws RX2 TX2 3
theorem nmX2 : ∀ a, a < 3 → ∀ b, b < 3 → a ≠ b → (TX2 a).2.1 ≠ (TX2 b).2.1 := by decide +kernel
theorem tyX2_ok : ∀ k, k < 3 → parseFieldDescriptor (TX2 k).2.2.1 = some (tyX2 k) := by decide +kernel
abbrev cX2_init : ByteArray := prog_4_method_1_code
def yX2_init : MethodName := ⟨RX2, "<init>", "()V"⟩
abbrev cX2_forget : ByteArray := prog_4_method_2_code
def yX2_forget : MethodName := ⟨RX2, "forget", "()V"⟩
abbrev cX2_remember : ByteArray := prog_4_method_3_code
def yX2_remember : MethodName := ⟨RX2, "remember", "(LRightsPool$Books;)V"⟩
abbrev cX2_recall : ByteArray := prog_4_method_4_code
def yX2_recall : MethodName := ⟨RX2, "recall", "(LRightsPool$Books;)Z"⟩
def RX3 : String := "RightsPool$Outcome"
def TX3 : u_T := fun k => match k with
  | 0 => ("RightsPool$Outcome", "has", "[I", true)
  | 1 => ("RightsPool$Outcome", "who", "[I", true)
  | 2 => ("RightsPool$Outcome", "fate", "[I", true)
  | 3 => ("RightsPool$Outcome", "sum", "[I", true)
  | 4 => ("RightsPool$Outcome", "heads", "I", false)
  | 5 => ("RightsPool$Outcome", "leadMoney", "I", false)
  | _ => ("RightsPool$Outcome", "sideMoney", "I", false)
def tyX3 : Nat → FieldType := fun k => match k with
  | 0 => .array .int
  | 1 => .array .int
  | 2 => .array .int
  | 3 => .array .int
  | 4 => .int
  | 5 => .int
  | _ => .int
abbrev wsX30 : List Cond := u_ws RX3 TX3 7
theorem nmX3 : ∀ a, a < 7 → ∀ b, b < 7 → a ≠ b → (TX3 a).2.1 ≠ (TX3 b).2.1 := by decide +kernel
theorem tyX3_ok : ∀ k, k < 7 → parseFieldDescriptor (TX3 k).2.2.1 = some (tyX3 k) := by decide +kernel
abbrev cX3_init : ByteArray := prog_5_method_1_code
def yX3_init : MethodName := ⟨RX3, "<init>", "()V"⟩
abbrev cX3_think : ByteArray := prog_5_method_2_code
def yX3_think : MethodName := ⟨RX3, "think", "(LRightsPool$Roll;LRightsPool$World;III)V"⟩
abbrev cX3_partMoney : ByteArray := prog_5_method_3_code
def yX3_partMoney : MethodName := ⟨RX3, "partMoney", "(LRightsPool$Roll;II)V"⟩
abbrev cX3_handOut : ByteArray := prog_5_method_4_code
def yX3_handOut : MethodName := ⟨RX3, "handOut", "(LRightsPool$Roll;IIII)V"⟩
abbrev cX3_headsPaid : ByteArray := prog_5_method_5_code
def yX3_headsPaid : MethodName := ⟨RX3, "headsPaid", "()I"⟩
abbrev cX3_paidToOne : ByteArray := prog_5_method_6_code
def yX3_paidToOne : MethodName := ⟨RX3, "paidToOne", "(I)I"⟩
abbrev cX3_paidToHome : ByteArray := prog_5_method_7_code
def yX3_paidToHome : MethodName := ⟨RX3, "paidToHome", "(LRightsPool$World;I)I"⟩
abbrev cX3_openMoney : ByteArray := prog_5_method_8_code
def yX3_openMoney : MethodName := ⟨RX3, "openMoney", "(I)I"⟩
def RX4 : String := "RightsPool$Reader"
def TX4 : u_T := fun k => match k with
  | 0 => ("RightsPool$Reader", "tape", "LRightsPool$Tape;", true)
  | 1 => ("RightsPool$Reader", "landName", "[J", true)
  | 2 => ("RightsPool$Reader", "playerName", "[J", true)
  | 3 => ("RightsPool$Reader", "sessionName", "[J", true)
  | 4 => ("RightsPool$Reader", "token", "I", false)
  | 5 => ("RightsPool$Reader", "leadTold", "Z", false)
  | 6 => ("RightsPool$Reader", "keepTold", "Z", false)
  | 7 => ("RightsPool$Reader", "fault", "I", false)
  | _ => ("RightsPool$Reader", "faultPlace", "I", false)
def tyX4 : Nat → FieldType := fun k => match k with
  | 0 => .object "RightsPool$Tape"
  | 1 => .array .long
  | 2 => .array .long
  | 3 => .array .long
  | 4 => .int
  | 5 => .boolean
  | 6 => .boolean
  | 7 => .int
  | _ => .int
abbrev wsX40 : List Cond := u_ws RX4 TX4 9
theorem nmX4 : ∀ a, a < 9 → ∀ b, b < 9 → a ≠ b → (TX4 a).2.1 ≠ (TX4 b).2.1 := by decide +kernel
theorem tyX4_ok : ∀ k, k < 9 → parseFieldDescriptor (TX4 k).2.2.1 = some (tyX4 k) := by decide +kernel
abbrev cX4_init : ByteArray := prog_6_method_1_code
def yX4_init : MethodName := ⟨RX4, "<init>", "()V"⟩
abbrev cX4_readText : ByteArray := prog_6_method_2_code
def yX4_readText : MethodName := ⟨RX4, "readText", "(LRightsPool$Roll;I)Z"⟩
abbrev cX4_readLine : ByteArray := prog_6_method_3_code
def yX4_readLine : MethodName := ⟨RX4, "readLine", "(LRightsPool$Roll;)V"⟩
abbrev cX4_readLand : ByteArray := prog_6_method_4_code
def yX4_readLand : MethodName := ⟨RX4, "readLand", "(LRightsPool$Roll;)V"⟩
abbrev cX4_readPlayer : ByteArray := prog_6_method_5_code
def yX4_readPlayer : MethodName := ⟨RX4, "readPlayer", "(LRightsPool$Roll;)V"⟩
abbrev cX4_readSession : ByteArray := prog_6_method_6_code
def yX4_readSession : MethodName := ⟨RX4, "readSession", "(LRightsPool$Roll;)V"⟩
abbrev cX4_readMember : ByteArray := prog_6_method_7_code
def yX4_readMember : MethodName := ⟨RX4, "readMember", "(LRightsPool$Roll;I)V"⟩
abbrev cX4_readLead : ByteArray := prog_6_method_8_code
def yX4_readLead : MethodName := ⟨RX4, "readLead", "(LRightsPool$Roll;)V"⟩
abbrev cX4_readKeep : ByteArray := prog_6_method_9_code
def yX4_readKeep : MethodName := ⟨RX4, "readKeep", "(LRightsPool$Roll;)V"⟩
abbrev cX4_blame : ByteArray := prog_6_method_10_code
def yX4_blame : MethodName := ⟨RX4, "blame", "(I)V"⟩
abbrev cX4_advance : ByteArray := prog_6_method_11_code
def yX4_advance : MethodName := ⟨RX4, "advance", "()V"⟩
abbrev cX4_isAt : ByteArray := prog_6_method_12_code
def yX4_isAt : MethodName := ⟨RX4, "isAt", "(I)Z"⟩
abbrev cX4_oneOf : ByteArray := prog_6_method_13_code
def yX4_oneOf : MethodName := ⟨RX4, "oneOf", "(II)I"⟩
abbrev cX4_numberIn : ByteArray := prog_6_method_14_code
def yX4_numberIn : MethodName := ⟨RX4, "numberIn", "(II)I"⟩
abbrev cX4_newName : ByteArray := prog_6_method_15_code
def yX4_newName : MethodName := ⟨RX4, "newName", "(LRightsPool$Roll;)J"⟩
abbrev cX4_isTold : ByteArray := prog_6_method_16_code
def yX4_isTold : MethodName := ⟨RX4, "isTold", "(LRightsPool$Roll;)Z"⟩
abbrev cX4_oldName : ByteArray := prog_6_method_17_code
def yX4_oldName : MethodName := ⟨RX4, "oldName", "([JI)I"⟩
abbrev cX4_find : ByteArray := prog_6_method_18_code
def yX4_find : MethodName := ⟨RX4, "find", "([JI)I"⟩
def RX5 : String := "RightsPool$Roll"
def TX5 : u_T := fun k => match k with
  | 0 => ("RightsPool$Roll", "rate", "[I", true)
  | 1 => ("RightsPool$Roll", "term", "[I", true)
  | 2 => ("RightsPool$Roll", "roles", "[I", true)
  | 3 => ("RightsPool$Roll", "home", "[I", true)
  | 4 => ("RightsPool$Roll", "members", "[I", true)
  | 5 => ("RightsPool$Roll", "seats", "[I", true)
  | 6 => ("RightsPool$Roll", "member", "[I", true)
  | 7 => ("RightsPool$Roll", "memberRole", "[I", true)
  | 8 => ("RightsPool$Roll", "lines", "I", false)
  | 9 => ("RightsPool$Roll", "lands", "I", false)
  | 10 => ("RightsPool$Roll", "players", "I", false)
  | 11 => ("RightsPool$Roll", "sessions", "I", false)
  | 12 => ("RightsPool$Roll", "lead", "I", false)
  | _ => ("RightsPool$Roll", "keepYears", "I", false)
def tyX5 : Nat → FieldType := fun k => match k with
  | 0 => .array .int
  | 1 => .array .int
  | 2 => .array .int
  | 3 => .array .int
  | 4 => .array .int
  | 5 => .array .int
  | 6 => .array .int
  | 7 => .array .int
  | 8 => .int
  | 9 => .int
  | 10 => .int
  | 11 => .int
  | 12 => .int
  | _ => .int
abbrev wsX50 : List Cond := u_ws RX5 TX5 14
theorem nmX5 : ∀ a, a < 14 → ∀ b, b < 14 → a ≠ b → (TX5 a).2.1 ≠ (TX5 b).2.1 := by decide +kernel
theorem tyX5_ok : ∀ k, k < 14 → parseFieldDescriptor (TX5 k).2.2.1 = some (tyX5 k) := by decide +kernel
abbrev cX5_init : ByteArray := prog_7_method_1_code
def yX5_init : MethodName := ⟨RX5, "<init>", "()V"⟩
abbrev cX5_clear : ByteArray := prog_7_method_2_code
def yX5_clear : MethodName := ⟨RX5, "clear", "()V"⟩
abbrev cX5_leadsIn : ByteArray := prog_7_method_3_code
def yX5_leadsIn : MethodName := ⟨RX5, "leadsIn", "(I)I"⟩
abbrev cX5_headsIn : ByteArray := prog_7_method_4_code
def yX5_headsIn : MethodName := ⟨RX5, "headsIn", "(I)I"⟩
abbrev cX5_roleAt : ByteArray := prog_7_method_5_code
def yX5_roleAt : MethodName := ⟨RX5, "roleAt", "(II)I"⟩
abbrev cX5_roleTold : ByteArray := prog_7_method_6_code
def yX5_roleTold : MethodName := ⟨RX5, "roleTold", "(II)I"⟩
def RX6 : String := "RightsPool$Round"
def TX6 : u_T := fun k => match k with
  | _ => ("RightsPool$Round", "outcome", "LRightsPool$Outcome;", true)
def tyX6 : Nat → FieldType := fun k => match k with
  | _ => .object "RightsPool$Outcome"
abbrev wsX60 : List Cond := u_ws RX6 TX6 1
theorem nmX6 : ∀ a, a < 1 → ∀ b, b < 1 → a ≠ b → (TX6 a).2.1 ≠ (TX6 b).2.1 := by decide +kernel
theorem tyX6_ok : ∀ k, k < 1 → parseFieldDescriptor (TX6 k).2.2.1 = some (tyX6 k) := by decide +kernel
abbrev cX6_init : ByteArray := prog_8_method_1_code
def yX6_init : MethodName := ⟨RX6, "<init>", "()V"⟩
abbrev cX6_toPlayersOf : ByteArray := prog_8_method_2_code
def yX6_toPlayersOf : MethodName := ⟨RX6, "toPlayersOf", "(LRightsPool$Roll;LRightsPool$World;I)I"⟩
abbrev cX6_toPlayer : ByteArray := prog_8_method_3_code
def yX6_toPlayer : MethodName := ⟨RX6, "toPlayer", "(LRightsPool$Roll;LRightsPool$World;I)I"⟩
abbrev cX6_inLand : ByteArray := prog_8_method_4_code
def yX6_inLand : MethodName := ⟨RX6, "inLand", "(LRightsPool$Roll;LRightsPool$World;II)I"⟩
abbrev cX6_ofOpenSeats : ByteArray := prog_8_method_5_code
def yX6_ofOpenSeats : MethodName := ⟨RX6, "ofOpenSeats", "(LRightsPool$Roll;LRightsPool$World;I)I"⟩
def RX7 : String := "RightsPool$Tape"
def TX7 : u_T := fun k => match k with
  | 0 => ("RightsPool$Tape", "bytes", "[I", true)
  | 1 => ("RightsPool$Tape", "kind", "[I", true)
  | 2 => ("RightsPool$Tape", "place", "[I", true)
  | 3 => ("RightsPool$Tape", "value", "[J", true)
  | 4 => ("RightsPool$Tape", "size", "I", false)
  | 5 => ("RightsPool$Tape", "end", "I", false)
  | _ => ("RightsPool$Tape", "at", "I", false)
def tyX7 : Nat → FieldType := fun k => match k with
  | 0 => .array .int
  | 1 => .array .int
  | 2 => .array .int
  | 3 => .array .long
  | 4 => .int
  | 5 => .int
  | _ => .int
abbrev wsX70 : List Cond := u_ws RX7 TX7 7
theorem nmX7 : ∀ a, a < 7 → ∀ b, b < 7 → a ≠ b → (TX7 a).2.1 ≠ (TX7 b).2.1 := by decide +kernel
theorem tyX7_ok : ∀ k, k < 7 → parseFieldDescriptor (TX7 k).2.2.1 = some (tyX7 k) := by decide +kernel
abbrev cX7_init : ByteArray := prog_9_method_1_code
def yX7_init : MethodName := ⟨RX7, "<init>", "()V"⟩
abbrev cX7_append : ByteArray := prog_9_method_2_code
def yX7_append : MethodName := ⟨RX7, "append", "(I)V"⟩
abbrev cX7_takeTokens : ByteArray := prog_9_method_3_code
def yX7_takeTokens : MethodName := ⟨RX7, "takeTokens", "(I)V"⟩
abbrev cX7_scanToken : ByteArray := prog_9_method_4_code
def yX7_scanToken : MethodName := ⟨RX7, "scanToken", "(I)V"⟩
abbrev cX7_scanWord : ByteArray := prog_9_method_5_code
def yX7_scanWord : MethodName := ⟨RX7, "scanWord", "(I)V"⟩
abbrev cX7_scanNumber : ByteArray := prog_9_method_6_code
def yX7_scanNumber : MethodName := ⟨RX7, "scanNumber", "(I)V"⟩
abbrev cX7_kindOfWord : ByteArray := prog_9_method_7_code
def yX7_kindOfWord : MethodName := ⟨RX7, "kindOfWord", "(JI)I"⟩
abbrev cX7_withLetter : ByteArray := prog_9_method_8_code
def yX7_withLetter : MethodName := ⟨RX7, "withLetter", "(JI)J"⟩
abbrev cX7_isLetter : ByteArray := prog_9_method_9_code
def yX7_isLetter : MethodName := ⟨RX7, "isLetter", "(I)Z"⟩
abbrev cX7_isDigit : ByteArray := prog_9_method_10_code
def yX7_isDigit : MethodName := ⟨RX7, "isDigit", "(I)Z"⟩
def RX8 : String := "RightsPool$World"
def TX8 : u_T := fun k => match k with
  | 0 => ("RightsPool$World", "term", "[I", true)
  | 1 => ("RightsPool$World", "roles", "[I", true)
  | 2 => ("RightsPool$World", "home", "[I", true)
  | _ => ("RightsPool$World", "holder", "[I", true)
def tyX8 : Nat → FieldType := fun k => match k with
  | 0 => .array .int
  | 1 => .array .int
  | 2 => .array .int
  | _ => .array .int
abbrev wsX80 : List Cond := u_ws RX8 TX8 4
theorem nmX8 : ∀ a, a < 4 → ∀ b, b < 4 → a ≠ b → (TX8 a).2.1 ≠ (TX8 b).2.1 := by decide +kernel
theorem tyX8_ok : ∀ k, k < 4 → parseFieldDescriptor (TX8 k).2.2.1 = some (tyX8 k) := by decide +kernel
abbrev cX8_init : ByteArray := prog_10_method_1_code
def yX8_init : MethodName := ⟨RX8, "<init>", "()V"⟩
abbrev cX8_open : ByteArray := prog_10_method_2_code
def yX8_open : MethodName := ⟨RX8, "open", "(LRightsPool$Roll;)V"⟩
abbrev cX8_copyFrom : ByteArray := prog_10_method_3_code
def yX8_copyFrom : MethodName := ⟨RX8, "copyFrom", "(LRightsPool$World;)V"⟩
abbrev cX8_hasTerms : ByteArray := prog_10_method_4_code
def yX8_hasTerms : MethodName := ⟨RX8, "hasTerms", "(III)Z"⟩
abbrev cX8_setTerms : ByteArray := prog_10_method_5_code
def yX8_setTerms : MethodName := ⟨RX8, "setTerms", "(III)V"⟩
abbrev cX8_hasRole : ByteArray := prog_10_method_6_code
def yX8_hasRole : MethodName := ⟨RX8, "hasRole", "(II)Z"⟩
abbrev cX8_payable : ByteArray := prog_10_method_7_code
def yX8_payable : MethodName := ⟨RX8, "payable", "(III)Z"⟩
abbrev cX8_payers : ByteArray := prog_10_method_8_code
def yX8_payers : MethodName := ⟨RX8, "payers", "(LRightsPool$Roll;II)I"⟩
abbrev cX8_paysSome : ByteArray := prog_10_method_9_code
def yX8_paysSome : MethodName := ⟨RX8, "paysSome", "(II)Z"⟩
abbrev cX8_answerOne : ByteArray := prog_10_method_10_code
def yX8_answerOne : MethodName := ⟨RX8, "answerOne", "(II)Z"⟩
abbrev cX8_answerBits : ByteArray := prog_10_method_11_code
def yX8_answerBits : MethodName := ⟨RX8, "answerBits", "(LRightsPool$Roll;I)I"⟩
abbrev cX8_ringBits : ByteArray := prog_10_method_12_code
def yX8_ringBits : MethodName := ⟨RX8, "ringBits", "(LRightsPool$Roll;I)I"⟩
abbrev cX8_playersOf : ByteArray := prog_10_method_13_code
def yX8_playersOf : MethodName := ⟨RX8, "playersOf", "(LRightsPool$Roll;I)I"⟩
abbrev cX8_roleIn : ByteArray := prog_10_method_14_code
def yX8_roleIn : MethodName := ⟨RX8, "roleIn", "(LRightsPool$Roll;II)I"⟩
abbrev cX8_sessionsOf : ByteArray := prog_10_method_15_code
def yX8_sessionsOf : MethodName := ⟨RX8, "sessionsOf", "(LRightsPool$Roll;I)I"⟩
abbrev cX8_leadsOf : ByteArray := prog_10_method_16_code
def yX8_leadsOf : MethodName := ⟨RX8, "leadsOf", "(LRightsPool$Roll;I)I"⟩
abbrev cX8_openBits : ByteArray := prog_10_method_17_code
def yX8_openBits : MethodName := ⟨RX8, "openBits", "(LRightsPool$Roll;I)I"⟩
abbrev cX8_openInAll : ByteArray := prog_10_method_18_code
def yX8_openInAll : MethodName := ⟨RX8, "openInAll", "(LRightsPool$Roll;)I"⟩
abbrev cX8_firstOpen : ByteArray := prog_10_method_19_code
def yX8_firstOpen : MethodName := ⟨RX8, "firstOpen", "(LRightsPool$Roll;I)I"⟩
abbrev cX8_whoAt : ByteArray := prog_10_method_20_code
def yX8_whoAt : MethodName := ⟨RX8, "whoAt", "(LRightsPool$Roll;II)I"⟩
abbrev cX8_fateOf : ByteArray := prog_10_method_21_code
def yX8_fateOf : MethodName := ⟨RX8, "fateOf", "(III)I"⟩
def RX9 : String := "RightsPool"
def TX9 : u_T := fun k => match k with
  | 0 => ("RightsPool", "reader", "LRightsPool$Reader;", true)
  | 1 => ("RightsPool", "books", "LRightsPool$Books;", true)
  | 2 => ("RightsPool", "history", "LRightsPool$History;", true)
  | 3 => ("RightsPool", "were", "LRightsPool$World;", true)
  | 4 => ("RightsPool", "outcome", "LRightsPool$Outcome;", true)
  | 5 => ("RightsPool", "aRound", "LRightsPool$Round;", true)
  | 6 => ("RightsPool", "boxShares", "LRightsPool$BoxShares;", true)
  | 7 => ("RightsPool", "roll", "LRightsPool$Roll;", false)
  | _ => ("RightsPool", "draft", "LRightsPool$Roll;", false)
def tyX9 : Nat → FieldType := fun k => match k with
  | 0 => .object "RightsPool$Reader"
  | 1 => .object "RightsPool$Books"
  | 2 => .object "RightsPool$History"
  | 3 => .object "RightsPool$World"
  | 4 => .object "RightsPool$Outcome"
  | 5 => .object "RightsPool$Round"
  | 6 => .object "RightsPool$BoxShares"
  | 7 => .object "RightsPool$Roll"
  | _ => .object "RightsPool$Roll"
abbrev wsX90 : List Cond := u_ws RX9 TX9 9
theorem nmX9 : ∀ a, a < 9 → ∀ b, b < 9 → a ≠ b → (TX9 a).2.1 ≠ (TX9 b).2.1 := by decide +kernel
theorem tyX9_ok : ∀ k, k < 9 → parseFieldDescriptor (TX9 k).2.2.1 = some (tyX9 k) := by decide +kernel
abbrev cX9_init : ByteArray := prog_1_method_1_code
def yX9_init : MethodName := ⟨RX9, "<init>", "()V"⟩
abbrev cX9_feed : ByteArray := prog_1_method_2_code
def yX9_feed : MethodName := ⟨RX9, "feed", "(IIIII)I"⟩
abbrev cX9_text : ByteArray := prog_1_method_3_code
def yX9_text : MethodName := ⟨RX9, "text", "(I)I"⟩
abbrev cX9_fault : ByteArray := prog_1_method_4_code
def yX9_fault : MethodName := ⟨RX9, "fault", "(I)I"⟩
abbrev cX9_land : ByteArray := prog_1_method_5_code
def yX9_land : MethodName := ⟨RX9, "land", "(II)I"⟩
abbrev cX9_player : ByteArray := prog_1_method_6_code
def yX9_player : MethodName := ⟨RX9, "player", "(II)I"⟩
abbrev cX9_session : ByteArray := prog_1_method_7_code
def yX9_session : MethodName := ⟨RX9, "session", "(II)I"⟩
abbrev cX9_of : ByteArray := prog_1_method_8_code
def yX9_of : MethodName := ⟨RX9, "of", "(III)I"⟩
abbrev cX9_seat : ByteArray := prog_1_method_9_code
def yX9_seat : MethodName := ⟨RX9, "seat", "(II)I"⟩
abbrev cX9_role : ByteArray := prog_1_method_10_code
def yX9_role : MethodName := ⟨RX9, "role", "(II)I"⟩
abbrev cX9_openSeats : ByteArray := prog_1_method_11_code
def yX9_openSeats : MethodName := ⟨RX9, "openSeats", "(I)I"⟩
abbrev cX9_idle : ByteArray := prog_1_method_12_code
def yX9_idle : MethodName := ⟨RX9, "idle", "()I"⟩
abbrev cX9_count : ByteArray := prog_1_method_13_code
def yX9_count : MethodName := ⟨RX9, "count", "(I)I"⟩
abbrev cX9_pays : ByteArray := prog_1_method_14_code
def yX9_pays : MethodName := ⟨RX9, "pays", "(III)I"⟩
abbrev cX9_paidBy : ByteArray := prog_1_method_15_code
def yX9_paidBy : MethodName := ⟨RX9, "paidBy", "(II)I"⟩
abbrev cX9_answer : ByteArray := prog_1_method_16_code
def yX9_answer : MethodName := ⟨RX9, "answer", "(II)I"⟩
abbrev cX9_answers : ByteArray := prog_1_method_17_code
def yX9_answers : MethodName := ⟨RX9, "answers", "(I)I"⟩
abbrev cX9_ring : ByteArray := prog_1_method_18_code
def yX9_ring : MethodName := ⟨RX9, "ring", "(I)I"⟩
abbrev cX9_rings : ByteArray := prog_1_method_19_code
def yX9_rings : MethodName := ⟨RX9, "rings", "()I"⟩
abbrev cX9_pairs : ByteArray := prog_1_method_20_code
def yX9_pairs : MethodName := ⟨RX9, "pairs", "(IIII)I"⟩
abbrev cX9_reached : ByteArray := prog_1_method_21_code
def yX9_reached : MethodName := ⟨RX9, "reached", "(II)I"⟩
abbrev cX9_play : ByteArray := prog_1_method_22_code
def yX9_play : MethodName := ⟨RX9, "play", "(III)I"⟩
abbrev cX9_year : ByteArray := prog_1_method_23_code
def yX9_year : MethodName := ⟨RX9, "year", "()I"⟩
abbrev cX9_claim : ByteArray := prog_1_method_24_code
def yX9_claim : MethodName := ⟨RX9, "claim", "(II)I"⟩
abbrev cX9_part : ByteArray := prog_1_method_25_code
def yX9_part : MethodName := ⟨RX9, "part", "(I)I"⟩
abbrev cX9_partAll : ByteArray := prog_1_method_26_code
def yX9_partAll : MethodName := ⟨RX9, "partAll", "()I"⟩
abbrev cX9_terms : ByteArray := prog_1_method_27_code
def yX9_terms : MethodName := ⟨RX9, "terms", "(III)Z"⟩
abbrev cX9_move : ByteArray := prog_1_method_28_code
def yX9_move : MethodName := ⟨RX9, "move", "(II)Z"⟩
abbrev cX9_giveBack : ByteArray := prog_1_method_29_code
def yX9_giveBack : MethodName := ⟨RX9, "giveBack", "(II)I"⟩
abbrev cX9_undo : ByteArray := prog_1_method_30_code
def yX9_undo : MethodName := ⟨RX9, "undo", "()I"⟩
abbrev cX9_paid : ByteArray := prog_1_method_31_code
def yX9_paid : MethodName := ⟨RX9, "paid", "(III)I"⟩
abbrev cX9_kept : ByteArray := prog_1_method_32_code
def yX9_kept : MethodName := ⟨RX9, "kept", "(IIII)I"⟩
abbrev cX9_lapsed : ByteArray := prog_1_method_33_code
def yX9_lapsed : MethodName := ⟨RX9, "lapsed", "(III)I"⟩
abbrev cX9_lapses : ByteArray := prog_1_method_34_code
def yX9_lapses : MethodName := ⟨RX9, "lapses", "(II)I"⟩
abbrev cX9_nextLapse : ByteArray := prog_1_method_35_code
def yX9_nextLapse : MethodName := ⟨RX9, "nextLapse", "(I)I"⟩
abbrev cX9_late : ByteArray := prog_1_method_36_code
def yX9_late : MethodName := ⟨RX9, "late", "(I)I"⟩
abbrev cX9_most : ByteArray := prog_1_method_37_code
def yX9_most : MethodName := ⟨RX9, "most", "(II)I"⟩
abbrev cX9_ranked : ByteArray := prog_1_method_38_code
def yX9_ranked : MethodName := ⟨RX9, "ranked", "(I)I"⟩
abbrev cX9_poorest : ByteArray := prog_1_method_39_code
def yX9_poorest : MethodName := ⟨RX9, "poorest", "(II)I"⟩
abbrev cX9_statement : ByteArray := prog_1_method_40_code
def yX9_statement : MethodName := ⟨RX9, "statement", "(III)I"⟩
abbrev cX9_across : ByteArray := prog_1_method_41_code
def yX9_across : MethodName := ⟨RX9, "across", "(IIZ)I"⟩
abbrev cX9_net : ByteArray := prog_1_method_42_code
def yX9_net : MethodName := ⟨RX9, "net", "(I)I"⟩
abbrev cX9_extreme : ByteArray := prog_1_method_43_code
def yX9_extreme : MethodName := ⟨RX9, "extreme", "(I)I"⟩
abbrev cX9_dearest : ByteArray := prog_1_method_44_code
def yX9_dearest : MethodName := ⟨RX9, "dearest", "(I)I"⟩
abbrev cX9_money : ByteArray := prog_1_method_45_code
def yX9_money : MethodName := ⟨RX9, "money", "(I)I"⟩
abbrev cX9_share : ByteArray := prog_1_method_46_code
def yX9_share : MethodName := ⟨RX9, "share", "(IIII)I"⟩
abbrev cX9_split : ByteArray := prog_1_method_47_code
def yX9_split : MethodName := ⟨RX9, "split", "(IIII)I"⟩
abbrev cX9_wouldPlay : ByteArray := prog_1_method_48_code
def yX9_wouldPlay : MethodName := ⟨RX9, "wouldPlay", "(IIII)I"⟩
abbrev cX9_wouldClaim : ByteArray := prog_1_method_49_code
def yX9_wouldClaim : MethodName := ⟨RX9, "wouldClaim", "(II)I"⟩
abbrev cX9_bestClaim : ByteArray := prog_1_method_50_code
def yX9_bestClaim : MethodName := ⟨RX9, "bestClaim", "(II)I"⟩
abbrev cX9_claimant : ByteArray := prog_1_method_51_code
def yX9_claimant : MethodName := ⟨RX9, "claimant", "(II)I"⟩
abbrev cX9_wouldPart : ByteArray := prog_1_method_52_code
def yX9_wouldPart : MethodName := ⟨RX9, "wouldPart", "(II)I"⟩
abbrev cX9_gain : ByteArray := prog_1_method_53_code
def yX9_gain : MethodName := ⟨RX9, "gain", "(IIIIII)I"⟩
abbrev cX9_bestLand : ByteArray := prog_1_method_54_code
def yX9_bestLand : MethodName := ⟨RX9, "bestLand", "(IIII)I"⟩
abbrev cX9_round : ByteArray := prog_1_method_55_code
def yX9_round : MethodName := ⟨RX9, "round", "(II)I"⟩
abbrev cX9_bestTerms : ByteArray := prog_1_method_56_code
def yX9_bestTerms : MethodName := ⟨RX9, "bestTerms", "(II)I"⟩
abbrev cX9_unknown : ByteArray := prog_1_method_57_code
def yX9_unknown : MethodName := ⟨RX9, "unknown", "(I)I"⟩
abbrev cX9_moveGain : ByteArray := prog_1_method_58_code
def yX9_moveGain : MethodName := ⟨RX9, "moveGain", "(II)I"⟩
abbrev cX9_bestHome : ByteArray := prog_1_method_59_code
def yX9_bestHome : MethodName := ⟨RX9, "bestHome", "(II)I"⟩
abbrev cX9_isLand : ByteArray := prog_1_method_60_code
def yX9_isLand : MethodName := ⟨RX9, "isLand", "(I)Z"⟩
abbrev cX9_isPlayer : ByteArray := prog_1_method_61_code
def yX9_isPlayer : MethodName := ⟨RX9, "isPlayer", "(I)Z"⟩
abbrev cX9_isSession : ByteArray := prog_1_method_62_code
def yX9_isSession : MethodName := ⟨RX9, "isSession", "(I)Z"⟩
abbrev cX9_isSeat : ByteArray := prog_1_method_63_code
def yX9_isSeat : MethodName := ⟨RX9, "isSeat", "(II)Z"⟩
abbrev cX9_isPlay : ByteArray := prog_1_method_64_code
def yX9_isPlay : MethodName := ⟨RX9, "isPlay", "(III)Z"⟩
abbrev cX9_isCopies : ByteArray := prog_1_method_65_code
def yX9_isCopies : MethodName := ⟨RX9, "isCopies", "(I)Z"⟩
abbrev cX9_isChoice : ByteArray := prog_1_method_66_code
def yX9_isChoice : MethodName := ⟨RX9, "isChoice", "(II)Z"⟩
abbrev cX9_areTerms : ByteArray := prog_1_method_67_code
def yX9_areTerms : MethodName := ⟨RX9, "areTerms", "(II)Z"⟩
abbrev cX9_isTooMuch : ByteArray := prog_1_method_68_code
def yX9_isTooMuch : MethodName := ⟨RX9, "isTooMuch", "(II)Z"⟩
abbrev cX9_claimBar : ByteArray := prog_1_method_69_code
def yX9_claimBar : MethodName := ⟨RX9, "claimBar", "(II)I"⟩
abbrev cX9_claimWorth : ByteArray := prog_1_method_70_code
def yX9_claimWorth : MethodName := ⟨RX9, "claimWorth", "(II)I"⟩
abbrev cX9_partBar : ByteArray := prog_1_method_71_code
def yX9_partBar : MethodName := ⟨RX9, "partBar", "(I)I"⟩
abbrev cX9_partBox : ByteArray := prog_1_method_72_code
def yX9_partBox : MethodName := ⟨RX9, "partBox", "(I)I"⟩
abbrev cX9_paidSomewhere : ByteArray := prog_1_method_73_code
def yX9_paidSomewhere : MethodName := ⟨RX9, "paidSomewhere", "(II)I"⟩
abbrev cX9_rankOf : ByteArray := prog_1_method_74_code
def yX9_rankOf : MethodName := ⟨RX9, "rankOf", "(I)I"⟩
abbrev cX9_moneyOfLand : ByteArray := prog_1_method_75_code
def yX9_moneyOfLand : MethodName := ⟨RX9, "moneyOfLand", "(II)I"⟩
abbrev cX9_roundFrom : ByteArray := prog_1_method_76_code
def yX9_roundFrom : MethodName := ⟨RX9, "roundFrom", "(II)I"⟩
abbrev cX9_slotOf : ByteArray := prog_1_method_77_code
def yX9_slotOf : MethodName := ⟨RX9, "slotOf", "(III)I"⟩
def RX10 : String := "RightsPoolModel"
def TX10 : u_T := fun k => match k with
  | 0 => ("RightsPoolModel", "thrown", "I", false)
  | 1 => ("RightsPoolModel", "tape", "[I", true)
  | 2 => ("RightsPoolModel", "taped", "I", false)
  | 3 => ("RightsPoolModel", "rate", "[I", true)
  | 4 => ("RightsPoolModel", "ofOne", "[I", true)
  | 5 => ("RightsPoolModel", "ofRole", "[I", true)
  | 6 => ("RightsPoolModel", "ofMany", "[I", true)
  | 7 => ("RightsPoolModel", "seats", "[I", true)
  | 8 => ("RightsPoolModel", "lead", "I", false)
  | 9 => ("RightsPoolModel", "keep", "I", false)
  | 10 => ("RightsPoolModel", "lands", "I", false)
  | 11 => ("RightsPoolModel", "players", "I", false)
  | 12 => ("RightsPoolModel", "sessions", "I", false)
  | 13 => ("RightsPoolModel", "lines", "I", false)
  | 14 => ("RightsPoolModel", "now", "[I", true)
  | 15 => ("RightsPoolModel", "past", "[I", true)
  | 16 => ("RightsPoolModel", "undone", "I", false)
  | 17 => ("RightsPoolModel", "size", "I", false)
  | 18 => ("RightsPoolModel", "at", "I", false)
  | 19 => ("RightsPoolModel", "place", "I", false)
  | 20 => ("RightsPoolModel", "sort", "I", false)
  | 21 => ("RightsPoolModel", "value", "I", false)
  | 22 => ("RightsPoolModel", "word", "I", false)
  | 23 => ("RightsPoolModel", "fault", "I", false)
  | 24 => ("RightsPoolModel", "faultPlace", "I", false)
  | 25 => ("RightsPoolModel", "lastFault", "I", false)
  | 26 => ("RightsPoolModel", "lastPlace", "I", false)
  | 27 => ("RightsPoolModel", "newLands", "I", false)
  | 28 => ("RightsPoolModel", "newPlayers", "I", false)
  | 29 => ("RightsPoolModel", "newSessions", "I", false)
  | 30 => ("RightsPoolModel", "newLines", "I", false)
  | 31 => ("RightsPoolModel", "newLead", "I", false)
  | 32 => ("RightsPoolModel", "newKeep", "I", false)
  | 33 => ("RightsPoolModel", "hasLead", "Z", false)
  | 34 => ("RightsPoolModel", "hasKeep", "Z", false)
  | 35 => ("RightsPoolModel", "landName", "[I", true)
  | 36 => ("RightsPoolModel", "playerName", "[I", true)
  | 37 => ("RightsPoolModel", "sessionName", "[I", true)
  | 38 => ("RightsPoolModel", "newTerm", "[I", true)
  | 39 => ("RightsPoolModel", "newRoles", "[I", true)
  | 40 => ("RightsPoolModel", "newRate", "[I", true)
  | 41 => ("RightsPoolModel", "newOf", "[I", true)
  | 42 => ("RightsPoolModel", "newOne", "[I", true)
  | 43 => ("RightsPoolModel", "newRole", "[I", true)
  | 44 => ("RightsPoolModel", "newMany", "[I", true)
  | 45 => ("RightsPoolModel", "newSeats", "[I", true)
  | 46 => ("RightsPoolModel", "share", "[I", true)
  | 47 => ("RightsPoolModel", "part", "[I", true)
  | 48 => ("RightsPoolModel", "ownTerm", "I", false)
  | _ => ("RightsPoolModel", "ownRoles", "I", false)
def tyX10 : Nat → FieldType := fun k => match k with
  | 0 => .int
  | 1 => .array .int
  | 2 => .int
  | 3 => .array .int
  | 4 => .array .int
  | 5 => .array .int
  | 6 => .array .int
  | 7 => .array .int
  | 8 => .int
  | 9 => .int
  | 10 => .int
  | 11 => .int
  | 12 => .int
  | 13 => .int
  | 14 => .array .int
  | 15 => .array .int
  | 16 => .int
  | 17 => .int
  | 18 => .int
  | 19 => .int
  | 20 => .int
  | 21 => .int
  | 22 => .int
  | 23 => .int
  | 24 => .int
  | 25 => .int
  | 26 => .int
  | 27 => .int
  | 28 => .int
  | 29 => .int
  | 30 => .int
  | 31 => .int
  | 32 => .int
  | 33 => .boolean
  | 34 => .boolean
  | 35 => .array .int
  | 36 => .array .int
  | 37 => .array .int
  | 38 => .array .int
  | 39 => .array .int
  | 40 => .array .int
  | 41 => .array .int
  | 42 => .array .int
  | 43 => .array .int
  | 44 => .array .int
  | 45 => .array .int
  | 46 => .array .int
  | 47 => .array .int
  | 48 => .int
  | _ => .int
abbrev wsX100 : List Cond := u_ws RX10 TX10 50
theorem nmX10 : ∀ a, a < 50 → ∀ b, b < 50 → a ≠ b → (TX10 a).2.1 ≠ (TX10 b).2.1 := by decide +kernel
theorem tyX10_ok : ∀ k, k < 50 → parseFieldDescriptor (TX10 k).2.2.1 = some (tyX10 k) := by decide +kernel
abbrev cX10_init : ByteArray := prog_12_method_1_code
def yX10_init : MethodName := ⟨RX10, "<init>", "()V"⟩
abbrev cX10_thrown : ByteArray := prog_12_method_2_code
def yX10_thrown : MethodName := ⟨RX10, "thrown", "()I"⟩
abbrev cX10_feed : ByteArray := prog_12_method_3_code
def yX10_feed : MethodName := ⟨RX10, "feed", "(IIIII)I"⟩
abbrev cX10_opens : ByteArray := prog_12_method_4_code
def yX10_opens : MethodName := ⟨RX10, "opens", "()V"⟩
abbrev cX10_here : ByteArray := prog_12_method_5_code
def yX10_here : MethodName := ⟨RX10, "here", "()I"⟩
abbrev cX10_isSmall : ByteArray := prog_12_method_6_code
def yX10_isSmall : MethodName := ⟨RX10, "isSmall", "(I)Z"⟩
abbrev cX10_isDigit : ByteArray := prog_12_method_7_code
def yX10_isDigit : MethodName := ⟨RX10, "isDigit", "(I)Z"⟩
abbrev cX10_token : ByteArray := prog_12_method_8_code
def yX10_token : MethodName := ⟨RX10, "token", "()V"⟩
abbrev cX10_wordHere : ByteArray := prog_12_method_9_code
def yX10_wordHere : MethodName := ⟨RX10, "wordHere", "()I"⟩
abbrev cX10_wrong : ByteArray := prog_12_method_10_code
def yX10_wrong : MethodName := ⟨RX10, "wrong", "(I)V"⟩
abbrev cX10_goOn : ByteArray := prog_12_method_11_code
def yX10_goOn : MethodName := ⟨RX10, "goOn", "()V"⟩
abbrev cX10_isOther : ByteArray := prog_12_method_12_code
def yX10_isOther : MethodName := ⟨RX10, "isOther", "()Z"⟩
abbrev cX10_number : ByteArray := prog_12_method_13_code
def yX10_number : MethodName := ⟨RX10, "number", "(II)I"⟩
abbrev cX10_among : ByteArray := prog_12_method_14_code
def yX10_among : MethodName := ⟨RX10, "among", "(II)I"⟩
abbrev cX10_named : ByteArray := prog_12_method_15_code
def yX10_named : MethodName := ⟨RX10, "named", "([II)I"⟩
abbrev cX10_newName : ByteArray := prog_12_method_16_code
def yX10_newName : MethodName := ⟨RX10, "newName", "([II)V"⟩
abbrev cX10_readLand : ByteArray := prog_12_method_17_code
def yX10_readLand : MethodName := ⟨RX10, "readLand", "()V"⟩
abbrev cX10_isEnd : ByteArray := prog_12_method_18_code
def yX10_isEnd : MethodName := ⟨RX10, "isEnd", "()Z"⟩
abbrev cX10_readPlayer : ByteArray := prog_12_method_19_code
def yX10_readPlayer : MethodName := ⟨RX10, "readPlayer", "()V"⟩
abbrev cX10_readOne : ByteArray := prog_12_method_20_code
def yX10_readOne : MethodName := ⟨RX10, "readOne", "(I)V"⟩
abbrev cX10_readSession : ByteArray := prog_12_method_21_code
def yX10_readSession : MethodName := ⟨RX10, "readSession", "()V"⟩
abbrev cX10_readLead : ByteArray := prog_12_method_22_code
def yX10_readLead : MethodName := ⟨RX10, "readLead", "()V"⟩
abbrev cX10_readKeep : ByteArray := prog_12_method_23_code
def yX10_readKeep : MethodName := ⟨RX10, "readKeep", "()V"⟩
abbrev cX10_readLine : ByteArray := prog_12_method_24_code
def yX10_readLine : MethodName := ⟨RX10, "readLine", "()V"⟩
abbrev cX10_text : ByteArray := prog_12_method_25_code
def yX10_text : MethodName := ⟨RX10, "text", "(I)I"⟩
abbrev cX10_takesText : ByteArray := prog_12_method_26_code
def yX10_takesText : MethodName := ⟨RX10, "takesText", "()V"⟩
abbrev cX10_fault : ByteArray := prog_12_method_27_code
def yX10_fault : MethodName := ⟨RX10, "fault", "(I)I"⟩
abbrev cX10_isLand : ByteArray := prog_12_method_28_code
def yX10_isLand : MethodName := ⟨RX10, "isLand", "(I)Z"⟩
abbrev cX10_isPlayer : ByteArray := prog_12_method_29_code
def yX10_isPlayer : MethodName := ⟨RX10, "isPlayer", "(I)Z"⟩
abbrev cX10_isSession : ByteArray := prog_12_method_30_code
def yX10_isSession : MethodName := ⟨RX10, "isSession", "(I)Z"⟩
abbrev cX10_isSeat : ByteArray := prog_12_method_31_code
def yX10_isSeat : MethodName := ⟨RX10, "isSeat", "(II)Z"⟩
abbrev cX10_isRole : ByteArray := prog_12_method_32_code
def yX10_isRole : MethodName := ⟨RX10, "isRole", "(I)Z"⟩
abbrev cX10_areCopies : ByteArray := prog_12_method_33_code
def yX10_areCopies : MethodName := ⟨RX10, "areCopies", "(I)Z"⟩
abbrev cX10_areTerms : ByteArray := prog_12_method_34_code
def yX10_areTerms : MethodName := ⟨RX10, "areTerms", "(II)Z"⟩
abbrev cX10_paidIn : ByteArray := prog_12_method_35_code
def yX10_paidIn : MethodName := ⟨RX10, "paidIn", "(II)I"⟩
abbrev cX10_weightIn : ByteArray := prog_12_method_36_code
def yX10_weightIn : MethodName := ⟨RX10, "weightIn", "(II)I"⟩
abbrev cX10_keptAt : ByteArray := prog_12_method_37_code
def yX10_keptAt : MethodName := ⟨RX10, "keptAt", "(III)I"⟩
abbrev cX10_lapsedAt : ByteArray := prog_12_method_38_code
def yX10_lapsedAt : MethodName := ⟨RX10, "lapsedAt", "(III)I"⟩
abbrev cX10_owner : ByteArray := prog_12_method_39_code
def yX10_owner : MethodName := ⟨RX10, "owner", "(II)I"⟩
abbrev cX10_keptOf : ByteArray := prog_12_method_40_code
def yX10_keptOf : MethodName := ⟨RX10, "keptOf", "(III)I"⟩
abbrev cX10_paidAll : ByteArray := prog_12_method_41_code
def yX10_paidAll : MethodName := ⟨RX10, "paidAll", "(I)I"⟩
abbrev cX10_weightAll : ByteArray := prog_12_method_42_code
def yX10_weightAll : MethodName := ⟨RX10, "weightAll", "(I)I"⟩
abbrev cX10_roleOf : ByteArray := prog_12_method_43_code
def yX10_roleOf : MethodName := ⟨RX10, "roleOf", "(II)I"⟩
abbrev cX10_doesPay : ByteArray := prog_12_method_44_code
def yX10_doesPay : MethodName := ⟨RX10, "doesPay", "(III)Z"⟩
abbrev cX10_openSeat : ByteArray := prog_12_method_45_code
def yX10_openSeat : MethodName := ⟨RX10, "openSeat", "(I)I"⟩
abbrev cX10_land : ByteArray := prog_12_method_46_code
def yX10_land : MethodName := ⟨RX10, "land", "(II)I"⟩
abbrev cX10_keptIn : ByteArray := prog_12_method_47_code
def yX10_keptIn : MethodName := ⟨RX10, "keptIn", "(I)I"⟩
abbrev cX10_player : ByteArray := prog_12_method_48_code
def yX10_player : MethodName := ⟨RX10, "player", "(II)I"⟩
abbrev cX10_paidByOf : ByteArray := prog_12_method_49_code
def yX10_paidByOf : MethodName := ⟨RX10, "paidByOf", "(II)I"⟩
abbrev cX10_session : ByteArray := prog_12_method_50_code
def yX10_session : MethodName := ⟨RX10, "session", "(II)I"⟩
abbrev cX10_manyOf : ByteArray := prog_12_method_51_code
def yX10_manyOf : MethodName := ⟨RX10, "manyOf", "(II)I"⟩
abbrev cX10_openOf : ByteArray := prog_12_method_52_code
def yX10_openOf : MethodName := ⟨RX10, "openOf", "(I)I"⟩
abbrev cX10_of : ByteArray := prog_12_method_53_code
def yX10_of : MethodName := ⟨RX10, "of", "(III)I"⟩
abbrev cX10_seat : ByteArray := prog_12_method_54_code
def yX10_seat : MethodName := ⟨RX10, "seat", "(II)I"⟩
abbrev cX10_role : ByteArray := prog_12_method_55_code
def yX10_role : MethodName := ⟨RX10, "role", "(II)I"⟩
abbrev cX10_pays : ByteArray := prog_12_method_56_code
def yX10_pays : MethodName := ⟨RX10, "pays", "(III)I"⟩
abbrev cX10_paidBy : ByteArray := prog_12_method_57_code
def yX10_paidBy : MethodName := ⟨RX10, "paidBy", "(II)I"⟩
abbrev cX10_doAnswer : ByteArray := prog_12_method_58_code
def yX10_doAnswer : MethodName := ⟨RX10, "doAnswer", "(II)Z"⟩
abbrev cX10_answer : ByteArray := prog_12_method_59_code
def yX10_answer : MethodName := ⟨RX10, "answer", "(II)I"⟩
abbrev cX10_ringOf : ByteArray := prog_12_method_60_code
def yX10_ringOf : MethodName := ⟨RX10, "ringOf", "(I)I"⟩
abbrev cX10_ring : ByteArray := prog_12_method_61_code
def yX10_ring : MethodName := ⟨RX10, "ring", "(I)I"⟩
abbrev cX10_rings : ByteArray := prog_12_method_62_code
def yX10_rings : MethodName := ⟨RX10, "rings", "()I"⟩
abbrev cX10_whole : ByteArray := prog_12_method_63_code
def yX10_whole : MethodName := ⟨RX10, "whole", "(I)I"⟩
abbrev cX10_roleAt : ByteArray := prog_12_method_64_code
def yX10_roleAt : MethodName := ⟨RX10, "roleAt", "(II)I"⟩
abbrev cX10_whose : ByteArray := prog_12_method_65_code
def yX10_whose : MethodName := ⟨RX10, "whose", "(II)I"⟩
abbrev cX10_laysShares : ByteArray := prog_12_method_66_code
def yX10_laysShares : MethodName := ⟨RX10, "laysShares", "(II)V"⟩
abbrev cX10_where : ByteArray := prog_12_method_67_code
def yX10_where : MethodName := ⟨RX10, "where", "(III)I"⟩
abbrev cX10_sumOf : ByteArray := prog_12_method_68_code
def yX10_sumOf : MethodName := ⟨RX10, "sumOf", "(IIII)I"⟩
abbrev cX10_paidTo : ByteArray := prog_12_method_69_code
def yX10_paidTo : MethodName := ⟨RX10, "paidTo", "(IIII)I"⟩
abbrev cX10_keeps : ByteArray := prog_12_method_70_code
def yX10_keeps : MethodName := ⟨RX10, "keeps", "()V"⟩
abbrev cX10_undo : ByteArray := prog_12_method_71_code
def yX10_undo : MethodName := ⟨RX10, "undo", "()I"⟩
abbrev cX10_isTooMuch : ByteArray := prog_12_method_72_code
def yX10_isTooMuch : MethodName := ⟨RX10, "isTooMuch", "(II)Z"⟩
abbrev cX10_play : ByteArray := prog_12_method_73_code
def yX10_play : MethodName := ⟨RX10, "play", "(III)I"⟩
abbrev cX10_pays_ : ByteArray := prog_12_method_74_code
def yX10_pays_ : MethodName := ⟨RX10, "pays", "(IIIZ)V"⟩
abbrev cX10_year : ByteArray := prog_12_method_75_code
def yX10_year : MethodName := ⟨RX10, "year", "()I"⟩
abbrev cX10_goesYear : ByteArray := prog_12_method_76_code
def yX10_goesYear : MethodName := ⟨RX10, "goesYear", "(III)I"⟩
abbrev cX10_broughtBy : ByteArray := prog_12_method_77_code
def yX10_broughtBy : MethodName := ⟨RX10, "broughtBy", "(III)I"⟩
abbrev cX10_whyNoClaim : ByteArray := prog_12_method_78_code
def yX10_whyNoClaim : MethodName := ⟨RX10, "whyNoClaim", "(II)I"⟩
abbrev cX10_claim : ByteArray := prog_12_method_79_code
def yX10_claim : MethodName := ⟨RX10, "claim", "(II)I"⟩
abbrev cX10_empties : ByteArray := prog_12_method_80_code
def yX10_empties : MethodName := ⟨RX10, "empties", "(III)V"⟩
abbrev cX10_allWeights : ByteArray := prog_12_method_81_code
def yX10_allWeights : MethodName := ⟨RX10, "allWeights", "(I)J"⟩
abbrev cX10_laysParts : ByteArray := prog_12_method_82_code
def yX10_laysParts : MethodName := ⟨RX10, "laysParts", "(I)V"⟩
abbrev cX10_whyNoPart : ByteArray := prog_12_method_83_code
def yX10_whyNoPart : MethodName := ⟨RX10, "whyNoPart", "(I)I"⟩
abbrev cX10_parts : ByteArray := prog_12_method_84_code
def yX10_parts : MethodName := ⟨RX10, "parts", "(I)I"⟩
abbrev cX10_part : ByteArray := prog_12_method_85_code
def yX10_part : MethodName := ⟨RX10, "part", "(I)I"⟩
abbrev cX10_partAll : ByteArray := prog_12_method_86_code
def yX10_partAll : MethodName := ⟨RX10, "partAll", "()I"⟩
abbrev cX10_terms : ByteArray := prog_12_method_87_code
def yX10_terms : MethodName := ⟨RX10, "terms", "(III)Z"⟩
abbrev cX10_move : ByteArray := prog_12_method_88_code
def yX10_move : MethodName := ⟨RX10, "move", "(II)Z"⟩
abbrev cX10_giveBack : ByteArray := prog_12_method_89_code
def yX10_giveBack : MethodName := ⟨RX10, "giveBack", "(II)I"⟩
abbrev cX10_paid : ByteArray := prog_12_method_90_code
def yX10_paid : MethodName := ⟨RX10, "paid", "(III)I"⟩
abbrev cX10_kept : ByteArray := prog_12_method_91_code
def yX10_kept : MethodName := ⟨RX10, "kept", "(IIII)I"⟩
abbrev cX10_lapsed : ByteArray := prog_12_method_92_code
def yX10_lapsed : MethodName := ⟨RX10, "lapsed", "(III)I"⟩
abbrev cX10_keptFor : ByteArray := prog_12_method_93_code
def yX10_keptFor : MethodName := ⟨RX10, "keptFor", "(II)I"⟩
abbrev cX10_lapses : ByteArray := prog_12_method_94_code
def yX10_lapses : MethodName := ⟨RX10, "lapses", "(II)I"⟩
abbrev cX10_nextLapse : ByteArray := prog_12_method_95_code
def yX10_nextLapse : MethodName := ⟨RX10, "nextLapse", "(I)I"⟩
abbrev cX10_share : ByteArray := prog_12_method_96_code
def yX10_share : MethodName := ⟨RX10, "share", "(IIII)I"⟩
abbrev cX10_wouldPlay : ByteArray := prog_12_method_97_code
def yX10_wouldPlay : MethodName := ⟨RX10, "wouldPlay", "(IIII)I"⟩
abbrev cX10_wouldClaim : ByteArray := prog_12_method_98_code
def yX10_wouldClaim : MethodName := ⟨RX10, "wouldClaim", "(II)I"⟩
abbrev cX10_bestClaim : ByteArray := prog_12_method_99_code
def yX10_bestClaim : MethodName := ⟨RX10, "bestClaim", "(II)I"⟩
abbrev cX10_claimant : ByteArray := prog_12_method_100_code
def yX10_claimant : MethodName := ⟨RX10, "claimant", "(II)I"⟩
abbrev cX10_wouldPart : ByteArray := prog_12_method_101_code
def yX10_wouldPart : MethodName := ⟨RX10, "wouldPart", "(II)I"⟩
abbrev cX10_lends : ByteArray := prog_12_method_102_code
def yX10_lends : MethodName := ⟨RX10, "lends", "(III)V"⟩
abbrev cX10_back : ByteArray := prog_12_method_103_code
def yX10_back : MethodName := ⟨RX10, "back", "(I)V"⟩
abbrev cX10_gain : ByteArray := prog_12_method_104_code
def yX10_gain : MethodName := ⟨RX10, "gain", "(IIIIII)I"⟩
abbrev cX10_pairs : ByteArray := prog_12_method_105_code
def yX10_pairs : MethodName := ⟨RX10, "pairs", "(IIII)I"⟩
abbrev cX10_paidFor : ByteArray := prog_12_method_106_code
def yX10_paidFor : MethodName := ⟨RX10, "paidFor", "(II)I"⟩
abbrev cX10_most : ByteArray := prog_12_method_107_code
def yX10_most : MethodName := ⟨RX10, "most", "(II)I"⟩
abbrev cX10_ranked : ByteArray := prog_12_method_108_code
def yX10_ranked : MethodName := ⟨RX10, "ranked", "(I)I"⟩
abbrev cX10_paidOver : ByteArray := prog_12_method_109_code
def yX10_paidOver : MethodName := ⟨RX10, "paidOver", "(II)I"⟩
abbrev cX10_across : ByteArray := prog_12_method_110_code
def yX10_across : MethodName := ⟨RX10, "across", "(IIZ)I"⟩
abbrev cX10_netOf : ByteArray := prog_12_method_111_code
def yX10_netOf : MethodName := ⟨RX10, "netOf", "(I)I"⟩
abbrev cX10_net : ByteArray := prog_12_method_112_code
def yX10_net : MethodName := ⟨RX10, "net", "(I)I"⟩
abbrev cX10_extreme : ByteArray := prog_12_method_113_code
def yX10_extreme : MethodName := ⟨RX10, "extreme", "(I)I"⟩
abbrev cX10_idle : ByteArray := prog_12_method_114_code
def yX10_idle : MethodName := ⟨RX10, "idle", "()I"⟩
abbrev cX10_bestLand : ByteArray := prog_12_method_115_code
def yX10_bestLand : MethodName := ⟨RX10, "bestLand", "(IIII)I"⟩
abbrev cX10_toPlayersOf : ByteArray := prog_12_method_116_code
def yX10_toPlayersOf : MethodName := ⟨RX10, "toPlayersOf", "(I)I"⟩
abbrev cX10_round : ByteArray := prog_12_method_117_code
def yX10_round : MethodName := ⟨RX10, "round", "(II)I"⟩
abbrev cX10_bestTerms : ByteArray := prog_12_method_118_code
def yX10_bestTerms : MethodName := ⟨RX10, "bestTerms", "(II)I"⟩
abbrev cX10_unknown : ByteArray := prog_12_method_119_code
def yX10_unknown : MethodName := ⟨RX10, "unknown", "(I)I"⟩
abbrev cX10_statement : ByteArray := prog_12_method_120_code
def yX10_statement : MethodName := ⟨RX10, "statement", "(III)I"⟩
abbrev cX10_roundOf : ByteArray := prog_12_method_121_code
def yX10_roundOf : MethodName := ⟨RX10, "roundOf", "(II)I"⟩
abbrev cX10_moveGain : ByteArray := prog_12_method_122_code
def yX10_moveGain : MethodName := ⟨RX10, "moveGain", "(II)I"⟩
abbrev cX10_bestHome : ByteArray := prog_12_method_123_code
def yX10_bestHome : MethodName := ⟨RX10, "bestHome", "(II)I"⟩
abbrev cX10_answers : ByteArray := prog_12_method_124_code
def yX10_answers : MethodName := ⟨RX10, "answers", "(I)I"⟩
abbrev cX10_poorest : ByteArray := prog_12_method_125_code
def yX10_poorest : MethodName := ⟨RX10, "poorest", "(II)I"⟩
abbrev cX10_openSeats : ByteArray := prog_12_method_126_code
def yX10_openSeats : MethodName := ⟨RX10, "openSeats", "(I)I"⟩
abbrev cX10_late : ByteArray := prog_12_method_127_code
def yX10_late : MethodName := ⟨RX10, "late", "(I)I"⟩
abbrev cX10_split : ByteArray := prog_12_method_128_code
def yX10_split : MethodName := ⟨RX10, "split", "(IIII)I"⟩
abbrev cX10_dearest : ByteArray := prog_12_method_129_code
def yX10_dearest : MethodName := ⟨RX10, "dearest", "(I)I"⟩
abbrev cX10_reached : ByteArray := prog_12_method_130_code
def yX10_reached : MethodName := ⟨RX10, "reached", "(II)I"⟩
abbrev cX10_sumIn : ByteArray := prog_12_method_131_code
def yX10_sumIn : MethodName := ⟨RX10, "sumIn", "(II)I"⟩
abbrev cX10_money : ByteArray := prog_12_method_132_code
def yX10_money : MethodName := ⟨RX10, "money", "(I)I"⟩
abbrev cX10_openAll : ByteArray := prog_12_method_133_code
def yX10_openAll : MethodName := ⟨RX10, "openAll", "()I"⟩
abbrev cX10_count : ByteArray := prog_12_method_134_code
def yX10_count : MethodName := ⟨RX10, "count", "(I)I"⟩
def RJx145de : String := "java/io/Serializable"
def TJx145de : u_T := fun k => match k with
  | _ => ("", "", "", false)
def tyJx145de : Nat → FieldType := fun k => match k with
  | _ => .int
abbrev wsJx145de0 : List Cond := u_ws RJx145de TJx145de 0
theorem nmJx145de : ∀ a, a < 0 → ∀ b, b < 0 → a ≠ b → (TJx145de a).2.1 ≠ (TJx145de b).2.1 := by decide +kernel
theorem tyJx145de_ok : ∀ k, k < 0 → parseFieldDescriptor (TJx145de k).2.2.1 = some (tyJx145de k) := by decide +kernel
def RJx9f9b0 : String := "java/lang/CharSequence"
def TJx9f9b0 : u_T := fun k => match k with
  | _ => ("", "", "", false)
def tyJx9f9b0 : Nat → FieldType := fun k => match k with
  | _ => .int
abbrev wsJx9f9b00 : List Cond := u_ws RJx9f9b0 TJx9f9b0 0
theorem nmJx9f9b0 : ∀ a, a < 0 → ∀ b, b < 0 → a ≠ b → (TJx9f9b0 a).2.1 ≠ (TJx9f9b0 b).2.1 := by decide +kernel
theorem tyJx9f9b0_ok : ∀ k, k < 0 → parseFieldDescriptor (TJx9f9b0 k).2.2.1 = some (tyJx9f9b0 k) := by decide +kernel
def RJxb160c : String := "java/lang/Comparable"
def TJxb160c : u_T := fun k => match k with
  | _ => ("", "", "", false)
def tyJxb160c : Nat → FieldType := fun k => match k with
  | _ => .int
abbrev wsJxb160c0 : List Cond := u_ws RJxb160c TJxb160c 0
theorem nmJxb160c : ∀ a, a < 0 → ∀ b, b < 0 → a ≠ b → (TJxb160c a).2.1 ≠ (TJxb160c b).2.1 := by decide +kernel
theorem tyJxb160c_ok : ∀ k, k < 0 → parseFieldDescriptor (TJxb160c k).2.2.1 = some (tyJxb160c k) := by decide +kernel
def RJ6 : String := "java/lang/Integer"
def TJ6 : u_T := fun k => match k with
  | _ => ("", "", "", false)
def tyJ6 : Nat → FieldType := fun k => match k with
  | _ => .int
abbrev wsJ60 : List Cond := u_ws RJ6 TJ6 0
theorem nmJ6 : ∀ a, a < 0 → ∀ b, b < 0 → a ≠ b → (TJ6 a).2.1 ≠ (TJ6 b).2.1 := by decide +kernel
theorem tyJ6_ok : ∀ k, k < 0 → parseFieldDescriptor (TJ6 k).2.2.1 = some (tyJ6 k) := by decide +kernel
abbrev cJ6_compare_7cf53 : ByteArray := prog_18_method_40_code
def yJ6_compare_7cf53 : MethodName := ⟨RJ6, "compare", "(II)I"⟩
abbrev cJ6_numberOfTrailingZeros_0f7a4 : ByteArray := prog_18_method_48_code
def yJ6_numberOfTrailingZeros_0f7a4 : MethodName := ⟨RJ6, "numberOfTrailingZeros", "(I)I"⟩
abbrev cJ6_bitCount_0f7a4 : ByteArray := prog_18_method_49_code
def yJ6_bitCount_0f7a4 : MethodName := ⟨RJ6, "bitCount", "(I)I"⟩
def RJ9 : String := "java/lang/Math"
def TJ9 : u_T := fun k => match k with
  | _ => ("", "", "", false)
def tyJ9 : Nat → FieldType := fun k => match k with
  | _ => .int
abbrev wsJ90 : List Cond := u_ws RJ9 TJ9 0
theorem nmJ9 : ∀ a, a < 0 → ∀ b, b < 0 → a ≠ b → (TJ9 a).2.1 ≠ (TJ9 b).2.1 := by decide +kernel
theorem tyJ9_ok : ∀ k, k < 0 → parseFieldDescriptor (TJ9 k).2.2.1 = some (tyJ9 k) := by decide +kernel
abbrev cJ9_max_7cf53 : ByteArray := prog_19_method_65_code
def yJ9_max_7cf53 : MethodName := ⟨RJ9, "max", "(II)I"⟩
abbrev cJ9_min_7cf53 : ByteArray := prog_19_method_69_code
def yJ9_min_7cf53 : MethodName := ⟨RJ9, "min", "(II)I"⟩
def RJ0 : String := "java/lang/String"
def TJ0 : u_T := fun k => match k with
  | _ => ("", "", "", false)
def tyJ0 : Nat → FieldType := fun k => match k with
  | _ => .int
abbrev wsJ00 : List Cond := u_ws RJ0 TJ0 0
theorem nmJ0 : ∀ a, a < 0 → ∀ b, b < 0 → a ≠ b → (TJ0 a).2.1 ≠ (TJ0 b).2.1 := by decide +kernel
theorem tyJ0_ok : ∀ k, k < 0 → parseFieldDescriptor (TJ0 k).2.2.1 = some (tyJ0 k) := by decide +kernel
abbrev cJ0_length_8abf5 : ByteArray := prog_21_method_54_code
def yJ0_length_8abf5 : MethodName := ⟨RJ0, "length", "()I"⟩
abbrev cJ0_charAt_5068e : ByteArray := prog_21_method_56_code
def yJ0_charAt_5068e : MethodName := ⟨RJ0, "charAt", "(I)C"⟩
abbrev cJ0_coder_7d493 : ByteArray := prog_21_method_152_code
def yJ0_coder_7d493 : MethodName := ⟨RJ0, "coder", "()B"⟩
abbrev cJ0_isLatin1_aae02 : ByteArray := prog_21_method_154_code
def yJ0_isLatin1_aae02 : MethodName := ⟨RJ0, "isLatin1", "()Z"⟩
abbrev cJ0_checkIndex_df160 : ByteArray := prog_21_method_155_code
def yJ0_checkIndex_df160 : MethodName := ⟨RJ0, "checkIndex", "(II)V"⟩
def RJ1 : String := "java/lang/StringLatin1"
def TJ1 : u_T := fun k => match k with
  | _ => ("", "", "", false)
def tyJ1 : Nat → FieldType := fun k => match k with
  | _ => .int
abbrev wsJ10 : List Cond := u_ws RJ1 TJ1 0
theorem nmJ1 : ∀ a, a < 0 → ∀ b, b < 0 → a ≠ b → (TJ1 a).2.1 ≠ (TJ1 b).2.1 := by decide +kernel
theorem tyJ1_ok : ∀ k, k < 0 → parseFieldDescriptor (TJ1 k).2.2.1 = some (tyJ1 k) := by decide +kernel
abbrev cJ1_charAt_3b067 : ByteArray := prog_22_method_2_code
def yJ1_charAt_3b067 : MethodName := ⟨RJ1, "charAt", "([BI)C"⟩
def RJ2 : String := "java/lang/StringUTF16"
def TJ2 : u_T := fun k => match k with
  | _ => ("", "", "", false)
def tyJ2 : Nat → FieldType := fun k => match k with
  | _ => .int
abbrev wsJ20 : List Cond := u_ws RJ2 TJ2 0
theorem nmJ2 : ∀ a, a < 0 → ∀ b, b < 0 → a ≠ b → (TJ2 a).2.1 ≠ (TJ2 b).2.1 := by decide +kernel
theorem tyJ2_ok : ∀ k, k < 0 → parseFieldDescriptor (TJ2 k).2.2.1 = some (tyJ2 k) := by decide +kernel
abbrev cJ2_getChar_3b067 : ByteArray := prog_23_method_5_code
def yJ2_getChar_3b067 : MethodName := ⟨RJ2, "getChar", "([BI)C"⟩
abbrev cJ2_length_9d52b : ByteArray := prog_23_method_6_code
def yJ2_length_9d52b : MethodName := ⟨RJ2, "length", "([B)I"⟩
abbrev cJ2_charAt_3b067 : ByteArray := prog_23_method_83_code
def yJ2_charAt_3b067 : MethodName := ⟨RJ2, "charAt", "([BI)C"⟩
abbrev cJ2_checkIndex_2214a : ByteArray := prog_23_method_91_code
def yJ2_checkIndex_2214a : MethodName := ⟨RJ2, "checkIndex", "(I[B)V"⟩
def RJ10 : String := "java/lang/System"
def TJ10 : u_T := fun k => match k with
  | _ => ("", "", "", false)
def tyJ10 : Nat → FieldType := fun k => match k with
  | _ => .int
abbrev wsJ100 : List Cond := u_ws RJ10 TJ10 0
theorem nmJ10 : ∀ a, a < 0 → ∀ b, b < 0 → a ≠ b → (TJ10 a).2.1 ≠ (TJ10 b).2.1 := by decide +kernel
theorem tyJ10_ok : ∀ k, k < 0 → parseFieldDescriptor (TJ10 k).2.2.1 = some (tyJ10 k) := by decide +kernel
def RJxfd54e : String := "java/lang/constant/Constable"
def TJxfd54e : u_T := fun k => match k with
  | _ => ("", "", "", false)
def tyJxfd54e : Nat → FieldType := fun k => match k with
  | _ => .int
abbrev wsJxfd54e0 : List Cond := u_ws RJxfd54e TJxfd54e 0
theorem nmJxfd54e : ∀ a, a < 0 → ∀ b, b < 0 → a ≠ b → (TJxfd54e a).2.1 ≠ (TJxfd54e b).2.1 := by decide +kernel
theorem tyJxfd54e_ok : ∀ k, k < 0 → parseFieldDescriptor (TJxfd54e k).2.2.1 = some (tyJxfd54e k) := by decide +kernel
def RJx3cf43 : String := "java/lang/constant/ConstantDesc"
def TJx3cf43 : u_T := fun k => match k with
  | _ => ("", "", "", false)
def tyJx3cf43 : Nat → FieldType := fun k => match k with
  | _ => .int
abbrev wsJx3cf430 : List Cond := u_ws RJx3cf43 TJx3cf43 0
theorem nmJx3cf43 : ∀ a, a < 0 → ∀ b, b < 0 → a ≠ b → (TJx3cf43 a).2.1 ≠ (TJx3cf43 b).2.1 := by decide +kernel
theorem tyJx3cf43_ok : ∀ k, k < 0 → parseFieldDescriptor (TJx3cf43 k).2.2.1 = some (tyJx3cf43 k) := by decide +kernel
def RJ7 : String := "java/util/Arrays"
def TJ7 : u_T := fun k => match k with
  | _ => ("", "", "", false)
def tyJ7 : Nat → FieldType := fun k => match k with
  | _ => .int
abbrev wsJ70 : List Cond := u_ws RJ7 TJ7 0
theorem nmJ7 : ∀ a, a < 0 → ∀ b, b < 0 → a ≠ b → (TJ7 a).2.1 ≠ (TJ7 b).2.1 := by decide +kernel
theorem tyJ7_ok : ∀ k, k < 0 → parseFieldDescriptor (TJ7 k).2.2.1 = some (tyJ7 k) := by decide +kernel
abbrev cJ7_fill_53178 : ByteArray := prog_28_method_103_code
def yJ7_fill_53178 : MethodName := ⟨RJ7, "fill", "([II)V"⟩
def RJ3 : String := "jdk/internal/util/Preconditions"
def TJ3 : u_T := fun k => match k with
  | _ => ("", "", "", false)
def tyJ3 : Nat → FieldType := fun k => match k with
  | _ => .int
abbrev wsJ30 : List Cond := u_ws RJ3 TJ3 0
theorem nmJ3 : ∀ a, a < 0 → ∀ b, b < 0 → a ≠ b → (TJ3 a).2.1 ≠ (TJ3 b).2.1 := by decide +kernel
theorem tyJ3_ok : ∀ k, k < 0 → parseFieldDescriptor (TJ3 k).2.2.1 = some (tyJ3 k) := by decide +kernel
abbrev cJ3_checkIndex_8e157 : ByteArray := prog_30_method_11_code
def yJ3_checkIndex_8e157 : MethodName := ⟨RJ3, "checkIndex", "(IILjava/util/function/BiFunction;)I"⟩
def RL : String := "RightsPoolLaw"
abbrev cL_land : ByteArray := method_3_code
def yL_land : MethodName := ⟨RL, "land", "(LRightsPool;II[J)I"⟩
abbrev cL_player : ByteArray := method_4_code
def yL_player : MethodName := ⟨RL, "player", "(LRightsPool;II[J)I"⟩
abbrev cL_session : ByteArray := method_5_code
def yL_session : MethodName := ⟨RL, "session", "(LRightsPool;II[J)I"⟩
abbrev cL_law : ByteArray := code
def yL_law : MethodName := ⟨RL, "law", "([I)Z"⟩
/-! my rows: the good words, by place -/
def TB : List Cond := lw_tbl.filter goodWord
theorem TB_in {i : Nat} {w : Cond} (h : lw_tbl[i]? = some w) (g : goodWord w = true) : w ∈ TB := List.mem_filter.mpr ⟨List.mem_of_getElem? h, g⟩
theorem TB_good {w : Cond} (h : w ∈ TB) : goodWord w = true := (List.mem_filter.mp h).2
abbrev vwCl : List vw_C := [(RX0, TX0, 10), (RX1, TX1, 2), (RX2, TX2, 3), (RX3, TX3, 7), (RX4, TX4, 9), (RX5, TX5, 14), (RX6, TX6, 1), (RX7, TX7, 7), (RX8, TX8, 4), (RX9, TX9, 9), (RX10, TX10, 50)]
theorem in_ps {ws : List Cond} (ps : List Nat) (h : ws = ps.filterMap (fun i => lw_tbl[i]?)) (g : ws.all goodWord = true) : ∀ w ∈ ws, w ∈ TB := by
  intro w hw
  have h1 := List.all_eq_true.mp g w hw
  rw [h] at hw
  obtain ⟨i, -, hi⟩ := List.mem_filterMap.mp hw
  exact TB_in hi h1
set_option maxRecDepth 20000 in
theorem inTX0 : ∀ w ∈ wsX00, w ∈ TB := in_ps [240, 242, 244, 246, 248, 250, 252, 254, 256, 258] (by decide +kernel) (by decide +kernel)
set_option maxRecDepth 20000 in
theorem inTX1 : ∀ w ∈ wsX10, w ∈ TB := in_ps [342, 344] (by decide +kernel) (by decide +kernel)
set_option maxRecDepth 20000 in
theorem inTX2 : ∀ w ∈ wsX20, w ∈ TB := in_ps [274, 276, 278] (by decide +kernel) (by decide +kernel)
set_option maxRecDepth 20000 in
theorem inTX3 : ∀ w ∈ wsX30, w ∈ TB := in_ps [305, 307, 309, 311, 313, 315, 317] (by decide +kernel) (by decide +kernel)
set_option maxRecDepth 20000 in
theorem inTX4 : ∀ w ∈ wsX40, w ∈ TB := in_ps [167, 169, 171, 173, 175, 177, 179, 181, 183] (by decide +kernel) (by decide +kernel)
set_option maxRecDepth 20000 in
theorem inTX5 : ∀ w ∈ wsX50, w ∈ TB := in_ps [412, 414, 416, 418, 420, 422, 424, 426, 428, 430, 432, 434, 436, 438] (by decide +kernel) (by decide +kernel)
set_option maxRecDepth 20000 in
theorem inTX6 : ∀ w ∈ wsX60, w ∈ TB := in_ps [329] (by decide +kernel) (by decide +kernel)
set_option maxRecDepth 20000 in
theorem inTX7 : ∀ w ∈ wsX70, w ∈ TB := in_ps [138, 140, 142, 144, 146, 148, 150] (by decide +kernel) (by decide +kernel)
set_option maxRecDepth 20000 in
theorem inTX8 : ∀ w ∈ wsX80, w ∈ TB := in_ps [209, 211, 213, 215] (by decide +kernel) (by decide +kernel)
set_option maxRecDepth 20000 in
theorem inTX9 : ∀ w ∈ wsX90, w ∈ TB := in_ps [450, 452, 454, 456, 458, 460, 462, 464, 466] (by decide +kernel) (by decide +kernel)
set_option maxRecDepth 20000 in
theorem inTX10 : ∀ w ∈ wsX100, w ∈ TB := in_ps [1396, 1398, 1400, 1402, 1404, 1406, 1408, 1410, 1412, 1414, 1416, 1418, 1420, 1422, 1424, 1426, 1428, 1430, 1432, 1434, 1436, 1438, 1440, 1442, 1444, 1446, 1448, 1450, 1452, 1454, 1456, 1458, 1460, 1462, 1464, 1466, 1468, 1470, 1472, 1474, 1476, 1478, 1480, 1482, 1484, 1486, 1488, 1490, 1492, 1494] (by decide +kernel) (by decide +kernel)
