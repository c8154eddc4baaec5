section
-- ===== PART A: goes FIRST, ahead of the names: the tables' words, and 'selects' of the private methods out of them =====
/-- a private method of a class that the tables say can be made, by its rows of tables_1 -/
def lw_okq (q : MethodName × Nat) : Prop := (q.1.cls ≠ "java/lang/invoke/MethodHandle" ∧ q.1.cls ≠ "java/lang/invoke/VarHandle") ∧ Cond.instantiable q.1.cls q.2 ∈ tables_1 ∧ Cond.privateMethod q.1 ∈ tables_1 ∧ Cond.instanceMethod q.1 ∈ tables_1
theorem lw_p0 : lw_okq (⟨"QuillRelay$Race", "countIn", "(LQuillRelay$Stage;)I"⟩, 4) := ⟨⟨by decide +kernel, by decide +kernel⟩, List.mem_of_getElem? (i := 44) (by decide +kernel), List.mem_of_getElem? (i := 267) (by decide +kernel), List.mem_of_getElem? (i := 268) (by decide +kernel)⟩
theorem lw_p1 : lw_okq (⟨"java/lang/Throwable", "fillInStackTrace", "(I)Ljava/lang/Throwable;"⟩, 6) := ⟨⟨by decide +kernel, by decide +kernel⟩, List.mem_of_getElem? (i := 380) (by decide +kernel), List.mem_of_getElem? (i := 378) (by decide +kernel), List.mem_of_getElem? (i := 379) (by decide +kernel)⟩
theorem lw_p2 : lw_okq (⟨"QuillRelay", "teamWith", "(I)LQuillRelay$Team;"⟩, 11) := ⟨⟨by decide +kernel, by decide +kernel⟩, List.mem_of_getElem? (i := 36) (by decide +kernel), List.mem_of_getElem? (i := 518) (by decide +kernel), List.mem_of_getElem? (i := 519) (by decide +kernel)⟩
theorem lw_p3 : lw_okq (⟨"QuillRelay$Race", "freeLane", "(III)I"⟩, 4) := ⟨⟨by decide +kernel, by decide +kernel⟩, List.mem_of_getElem? (i := 44) (by decide +kernel), List.mem_of_getElem? (i := 562) (by decide +kernel), List.mem_of_getElem? (i := 563) (by decide +kernel)⟩
theorem lw_p4 : lw_okq (⟨"QuillRelay$Race", "isTaken", "(II)Z"⟩, 4) := ⟨⟨by decide +kernel, by decide +kernel⟩, List.mem_of_getElem? (i := 44) (by decide +kernel), List.mem_of_getElem? (i := 566) (by decide +kernel), List.mem_of_getElem? (i := 567) (by decide +kernel)⟩
theorem lw_p5 : lw_okq (⟨"QuillRelay$Team", "runOneSecond", "(I)V"⟩, 14) := ⟨⟨by decide +kernel, by decide +kernel⟩, List.mem_of_getElem? (i := 51) (by decide +kernel), List.mem_of_getElem? (i := 601) (by decide +kernel), List.mem_of_getElem? (i := 602) (by decide +kernel)⟩
theorem lw_p6 : lw_okq (⟨"QuillRelay", "faultOfPassing", "(I)LQuillRelay$Fault;"⟩, 11) := ⟨⟨by decide +kernel, by decide +kernel⟩, List.mem_of_getElem? (i := 36) (by decide +kernel), List.mem_of_getElem? (i := 630) (by decide +kernel), List.mem_of_getElem? (i := 631) (by decide +kernel)⟩
theorem lw_p7 : lw_okq (⟨"QuillRelay", "teamWithLeg", "(II)LQuillRelay$Team;"⟩, 11) := ⟨⟨by decide +kernel, by decide +kernel⟩, List.mem_of_getElem? (i := 36) (by decide +kernel), List.mem_of_getElem? (i := 747) (by decide +kernel), List.mem_of_getElem? (i := 748) (by decide +kernel)⟩
theorem lw_p8 : lw_okq (⟨"QuillRelay", "finishedTeamWith", "(I)LQuillRelay$Team;"⟩, 11) := ⟨⟨by decide +kernel, by decide +kernel⟩, List.mem_of_getElem? (i := 36) (by decide +kernel), List.mem_of_getElem? (i := 836) (by decide +kernel), List.mem_of_getElem? (i := 837) (by decide +kernel)⟩
theorem lw_p9 : lw_okq (⟨"QuillRelay", "speedForReach", "(III)I"⟩, 11) := ⟨⟨by decide +kernel, by decide +kernel⟩, List.mem_of_getElem? (i := 36) (by decide +kernel), List.mem_of_getElem? (i := 922) (by decide +kernel), List.mem_of_getElem? (i := 923) (by decide +kernel)⟩
theorem lw_p10 : lw_okq (⟨"QuillRelay", "appendStage", "(LQuillRelay$Team;)V"⟩, 11) := ⟨⟨by decide +kernel, by decide +kernel⟩, List.mem_of_getElem? (i := 36) (by decide +kernel), List.mem_of_getElem? (i := 1247) (by decide +kernel), List.mem_of_getElem? (i := 1248) (by decide +kernel)⟩
theorem lw_p11 : lw_okq (⟨"QuillRelay$Program", "readCharacter", "(C)Z"⟩, 6) := ⟨⟨by decide +kernel, by decide +kernel⟩, List.mem_of_getElem? (i := 158) (by decide +kernel), List.mem_of_getElem? (i := 1299) (by decide +kernel), List.mem_of_getElem? (i := 1300) (by decide +kernel)⟩
theorem lw_p12 : lw_okq (⟨"QuillRelay$Program", "readPattern", "(Ljava/lang/String;I)Z"⟩, 6) := ⟨⟨by decide +kernel, by decide +kernel⟩, List.mem_of_getElem? (i := 158) (by decide +kernel), List.mem_of_getElem? (i := 1306) (by decide +kernel), List.mem_of_getElem? (i := 1307) (by decide +kernel)⟩
theorem lw_p13 : lw_okq (⟨"QuillRelay$Program", "readSign", "(C)Z"⟩, 6) := ⟨⟨by decide +kernel, by decide +kernel⟩, List.mem_of_getElem? (i := 158) (by decide +kernel), List.mem_of_getElem? (i := 1326) (by decide +kernel), List.mem_of_getElem? (i := 1327) (by decide +kernel)⟩
theorem lw_p14 : lw_okq (⟨"QuillRelay$Program", "readDigits", "(I)Z"⟩, 6) := ⟨⟨by decide +kernel, by decide +kernel⟩, List.mem_of_getElem? (i := 158) (by decide +kernel), List.mem_of_getElem? (i := 1330) (by decide +kernel), List.mem_of_getElem? (i := 1331) (by decide +kernel)⟩
theorem lw_p15 : lw_okq (⟨"QuillRelay$Program", "addArgument", "(I)V"⟩, 6) := ⟨⟨by decide +kernel, by decide +kernel⟩, List.mem_of_getElem? (i := 158) (by decide +kernel), List.mem_of_getElem? (i := 1337) (by decide +kernel), List.mem_of_getElem? (i := 1338) (by decide +kernel)⟩
def lw_privs_1 : List (MethodName × Nat) := [(⟨"QuillRelay$Race", "countIn", "(LQuillRelay$Stage;)I"⟩, 4), (⟨"java/lang/Throwable", "fillInStackTrace", "(I)Ljava/lang/Throwable;"⟩, 6), (⟨"QuillRelay", "teamWith", "(I)LQuillRelay$Team;"⟩, 11), (⟨"QuillRelay$Race", "freeLane", "(III)I"⟩, 4), (⟨"QuillRelay$Race", "isTaken", "(II)Z"⟩, 4), (⟨"QuillRelay$Team", "runOneSecond", "(I)V"⟩, 14), (⟨"QuillRelay", "faultOfPassing", "(I)LQuillRelay$Fault;"⟩, 11), (⟨"QuillRelay", "teamWithLeg", "(II)LQuillRelay$Team;"⟩, 11), (⟨"QuillRelay", "finishedTeamWith", "(I)LQuillRelay$Team;"⟩, 11), (⟨"QuillRelay", "speedForReach", "(III)I"⟩, 11), (⟨"QuillRelay", "appendStage", "(LQuillRelay$Team;)V"⟩, 11), (⟨"QuillRelay$Program", "readCharacter", "(C)Z"⟩, 6), (⟨"QuillRelay$Program", "readPattern", "(Ljava/lang/String;I)Z"⟩, 6), (⟨"QuillRelay$Program", "readSign", "(C)Z"⟩, 6), (⟨"QuillRelay$Program", "readDigits", "(I)Z"⟩, 6), (⟨"QuillRelay$Program", "addArgument", "(I)V"⟩, 6)]
theorem lw_r1 : ∀ q ∈ lw_privs_1, lw_okq q := List.forall_mem_cons.mpr ⟨lw_p0, List.forall_mem_cons.mpr ⟨lw_p1, List.forall_mem_cons.mpr ⟨lw_p2, List.forall_mem_cons.mpr ⟨lw_p3, List.forall_mem_cons.mpr ⟨lw_p4, List.forall_mem_cons.mpr ⟨lw_p5, List.forall_mem_cons.mpr ⟨lw_p6, List.forall_mem_cons.mpr ⟨lw_p7, List.forall_mem_cons.mpr ⟨lw_p8, List.forall_mem_cons.mpr ⟨lw_p9, List.forall_mem_cons.mpr ⟨lw_p10, List.forall_mem_cons.mpr ⟨lw_p11, List.forall_mem_cons.mpr ⟨lw_p12, List.forall_mem_cons.mpr ⟨lw_p13, List.forall_mem_cons.mpr ⟨lw_p14, List.forall_mem_cons.mpr ⟨lw_p15, fun _ h => absurd h List.not_mem_nil⟩⟩⟩⟩⟩⟩⟩⟩⟩⟩⟩⟩⟩⟩⟩⟩
theorem lw_p16 : lw_okq (⟨"QuillRelay$Program", "readKind", "()Z"⟩, 6) := ⟨⟨by decide +kernel, by decide +kernel⟩, List.mem_of_getElem? (i := 158) (by decide +kernel), List.mem_of_getElem? (i := 1341) (by decide +kernel), List.mem_of_getElem? (i := 1342) (by decide +kernel)⟩
theorem lw_p17 : lw_okq (⟨"QuillRelay", "performAll", "()I"⟩, 11) := ⟨⟨by decide +kernel, by decide +kernel⟩, List.mem_of_getElem? (i := 36) (by decide +kernel), List.mem_of_getElem? (i := 1346) (by decide +kernel), List.mem_of_getElem? (i := 1347) (by decide +kernel)⟩
theorem lw_p18 : lw_okq (⟨"QuillRelay", "faultOf", "(LQuillRelay$Verb;III)LQuillRelay$Fault;"⟩, 11) := ⟨⟨by decide +kernel, by decide +kernel⟩, List.mem_of_getElem? (i := 36) (by decide +kernel), List.mem_of_getElem? (i := 1352) (by decide +kernel), List.mem_of_getElem? (i := 1353) (by decide +kernel)⟩
theorem lw_p19 : lw_okq (⟨"QuillRelay", "apply", "(LQuillRelay$Verb;III)V"⟩, 11) := ⟨⟨by decide +kernel, by decide +kernel⟩, List.mem_of_getElem? (i := 36) (by decide +kernel), List.mem_of_getElem? (i := 1364) (by decide +kernel), List.mem_of_getElem? (i := 1365) (by decide +kernel)⟩
theorem lw_p20 : lw_okq (⟨"QuillRelayModel", "keeps", "()V"⟩, 19) := ⟨⟨by decide +kernel, by decide +kernel⟩, List.mem_of_getElem? (i := 1406) (by decide +kernel), List.mem_of_getElem? (i := 1478) (by decide +kernel), List.mem_of_getElem? (i := 1479) (by decide +kernel)⟩
theorem lw_p21 : lw_okq (⟨"QuillRelayModel", "isUnprepared", "()Z"⟩, 19) := ⟨⟨by decide +kernel, by decide +kernel⟩, List.mem_of_getElem? (i := 1406) (by decide +kernel), List.mem_of_getElem? (i := 1485) (by decide +kernel), List.mem_of_getElem? (i := 1486) (by decide +kernel)⟩
theorem lw_p22 : lw_okq (⟨"QuillRelayModel", "isThrown", "(ZI)Z"⟩, 19) := ⟨⟨by decide +kernel, by decide +kernel⟩, List.mem_of_getElem? (i := 1406) (by decide +kernel), List.mem_of_getElem? (i := 1489) (by decide +kernel), List.mem_of_getElem? (i := 1490) (by decide +kernel)⟩
theorem lw_p23 : lw_okq (⟨"QuillRelayModel", "sets", "(III)V"⟩, 19) := ⟨⟨by decide +kernel, by decide +kernel⟩, List.mem_of_getElem? (i := 1406) (by decide +kernel), List.mem_of_getElem? (i := 1493) (by decide +kernel), List.mem_of_getElem? (i := 1494) (by decide +kernel)⟩
theorem lw_p24 : lw_okq (⟨"QuillRelayModel", "ends", "(I)I"⟩, 19) := ⟨⟨by decide +kernel, by decide +kernel⟩, List.mem_of_getElem? (i := 1406) (by decide +kernel), List.mem_of_getElem? (i := 1497) (by decide +kernel), List.mem_of_getElem? (i := 1498) (by decide +kernel)⟩
theorem lw_p25 : lw_okq (⟨"QuillRelayModel", "speeds", "(III)I"⟩, 19) := ⟨⟨by decide +kernel, by decide +kernel⟩, List.mem_of_getElem? (i := 1406) (by decide +kernel), List.mem_of_getElem? (i := 1505) (by decide +kernel), List.mem_of_getElem? (i := 1506) (by decide +kernel)⟩
theorem lw_p26 : lw_okq (⟨"QuillRelayModel", "isTeam", "(I)Z"⟩, 19) := ⟨⟨by decide +kernel, by decide +kernel⟩, List.mem_of_getElem? (i := 1406) (by decide +kernel), List.mem_of_getElem? (i := 1509) (by decide +kernel), List.mem_of_getElem? (i := 1510) (by decide +kernel)⟩
theorem lw_p27 : lw_okq (⟨"QuillRelayModel", "of", "(II)I"⟩, 19) := ⟨⟨by decide +kernel, by decide +kernel⟩, List.mem_of_getElem? (i := 1406) (by decide +kernel), List.mem_of_getElem? (i := 1519) (by decide +kernel), List.mem_of_getElem? (i := 1520) (by decide +kernel)⟩
theorem lw_p28 : lw_okq (⟨"QuillRelayModel", "draws", "(I)I"⟩, 19) := ⟨⟨by decide +kernel, by decide +kernel⟩, List.mem_of_getElem? (i := 1406) (by decide +kernel), List.mem_of_getElem? (i := 1531) (by decide +kernel), List.mem_of_getElem? (i := 1532) (by decide +kernel)⟩
theorem lw_p29 : lw_okq (⟨"QuillRelayModel", "freeLane", "(II)I"⟩, 19) := ⟨⟨by decide +kernel, by decide +kernel⟩, List.mem_of_getElem? (i := 1406) (by decide +kernel), List.mem_of_getElem? (i := 1535) (by decide +kernel), List.mem_of_getElem? (i := 1536) (by decide +kernel)⟩
theorem lw_p30 : lw_okq (⟨"QuillRelayModel", "starts", "()I"⟩, 19) := ⟨⟨by decide +kernel, by decide +kernel⟩, List.mem_of_getElem? (i := 1406) (by decide +kernel), List.mem_of_getElem? (i := 1543) (by decide +kernel), List.mem_of_getElem? (i := 1544) (by decide +kernel)⟩
theorem lw_p31 : lw_okq (⟨"QuillRelayModel", "secondsPass", "(I)I"⟩, 19) := ⟨⟨by decide +kernel, by decide +kernel⟩, List.mem_of_getElem? (i := 1406) (by decide +kernel), List.mem_of_getElem? (i := 1551) (by decide +kernel), List.mem_of_getElem? (i := 1552) (by decide +kernel)⟩
def lw_privs_2 : List (MethodName × Nat) := [(⟨"QuillRelay$Program", "readKind", "()Z"⟩, 6), (⟨"QuillRelay", "performAll", "()I"⟩, 11), (⟨"QuillRelay", "faultOf", "(LQuillRelay$Verb;III)LQuillRelay$Fault;"⟩, 11), (⟨"QuillRelay", "apply", "(LQuillRelay$Verb;III)V"⟩, 11), (⟨"QuillRelayModel", "keeps", "()V"⟩, 19), (⟨"QuillRelayModel", "isUnprepared", "()Z"⟩, 19), (⟨"QuillRelayModel", "isThrown", "(ZI)Z"⟩, 19), (⟨"QuillRelayModel", "sets", "(III)V"⟩, 19), (⟨"QuillRelayModel", "ends", "(I)I"⟩, 19), (⟨"QuillRelayModel", "speeds", "(III)I"⟩, 19), (⟨"QuillRelayModel", "isTeam", "(I)Z"⟩, 19), (⟨"QuillRelayModel", "of", "(II)I"⟩, 19), (⟨"QuillRelayModel", "draws", "(I)I"⟩, 19), (⟨"QuillRelayModel", "freeLane", "(II)I"⟩, 19), (⟨"QuillRelayModel", "starts", "()I"⟩, 19), (⟨"QuillRelayModel", "secondsPass", "(I)I"⟩, 19)]
theorem lw_r2 : ∀ q ∈ lw_privs_2, lw_okq q := List.forall_mem_cons.mpr ⟨lw_p16, List.forall_mem_cons.mpr ⟨lw_p17, List.forall_mem_cons.mpr ⟨lw_p18, List.forall_mem_cons.mpr ⟨lw_p19, List.forall_mem_cons.mpr ⟨lw_p20, List.forall_mem_cons.mpr ⟨lw_p21, List.forall_mem_cons.mpr ⟨lw_p22, List.forall_mem_cons.mpr ⟨lw_p23, List.forall_mem_cons.mpr ⟨lw_p24, List.forall_mem_cons.mpr ⟨lw_p25, List.forall_mem_cons.mpr ⟨lw_p26, List.forall_mem_cons.mpr ⟨lw_p27, List.forall_mem_cons.mpr ⟨lw_p28, List.forall_mem_cons.mpr ⟨lw_p29, List.forall_mem_cons.mpr ⟨lw_p30, List.forall_mem_cons.mpr ⟨lw_p31, fun _ h => absurd h List.not_mem_nil⟩⟩⟩⟩⟩⟩⟩⟩⟩⟩⟩⟩⟩⟩⟩⟩
theorem lw_p32 : lw_okq (⟨"QuillRelayModel", "inStatus", "(I)I"⟩, 19) := ⟨⟨by decide +kernel, by decide +kernel⟩, List.mem_of_getElem? (i := 1406) (by decide +kernel), List.mem_of_getElem? (i := 1555) (by decide +kernel), List.mem_of_getElem? (i := 1556) (by decide +kernel)⟩
theorem lw_p33 : lw_okq (⟨"QuillRelayModel", "moves", "(I)V"⟩, 19) := ⟨⟨by decide +kernel, by decide +kernel⟩, List.mem_of_getElem? (i := 1406) (by decide +kernel), List.mem_of_getElem? (i := 1559) (by decide +kernel), List.mem_of_getElem? (i := 1560) (by decide +kernel)⟩
theorem lw_p34 : lw_okq (⟨"QuillRelayModel", "standsAtBound", "(I)Z"⟩, 19) := ⟨⟨by decide +kernel, by decide +kernel⟩, List.mem_of_getElem? (i := 1406) (by decide +kernel), List.mem_of_getElem? (i := 1563) (by decide +kernel), List.mem_of_getElem? (i := 1564) (by decide +kernel)⟩
theorem lw_p35 : lw_okq (⟨"QuillRelayModel", "endOf", "(I)I"⟩, 19) := ⟨⟨by decide +kernel, by decide +kernel⟩, List.mem_of_getElem? (i := 1406) (by decide +kernel), List.mem_of_getElem? (i := 1567) (by decide +kernel), List.mem_of_getElem? (i := 1568) (by decide +kernel)⟩
theorem lw_p36 : lw_okq (⟨"QuillRelayModel", "carries", "(I)V"⟩, 19) := ⟨⟨by decide +kernel, by decide +kernel⟩, List.mem_of_getElem? (i := 1406) (by decide +kernel), List.mem_of_getElem? (i := 1571) (by decide +kernel), List.mem_of_getElem? (i := 1572) (by decide +kernel)⟩
theorem lw_p37 : lw_okq (⟨"QuillRelayModel", "passes", "(I)I"⟩, 19) := ⟨⟨by decide +kernel, by decide +kernel⟩, List.mem_of_getElem? (i := 1406) (by decide +kernel), List.mem_of_getElem? (i := 1582) (by decide +kernel), List.mem_of_getElem? (i := 1583) (by decide +kernel)⟩
theorem lw_p38 : lw_okq (⟨"QuillRelayModel", "isRefused", "(I)Z"⟩, 19) := ⟨⟨by decide +kernel, by decide +kernel⟩, List.mem_of_getElem? (i := 1406) (by decide +kernel), List.mem_of_getElem? (i := 1586) (by decide +kernel), List.mem_of_getElem? (i := 1587) (by decide +kernel)⟩
theorem lw_p39 : lw_okq (⟨"QuillRelayModel", "reason", "(I)I"⟩, 19) := ⟨⟨by decide +kernel, by decide +kernel⟩, List.mem_of_getElem? (i := 1406) (by decide +kernel), List.mem_of_getElem? (i := 1590) (by decide +kernel), List.mem_of_getElem? (i := 1591) (by decide +kernel)⟩
theorem lw_p40 : lw_okq (⟨"QuillRelayModel", "drops", "(II)I"⟩, 19) := ⟨⟨by decide +kernel, by decide +kernel⟩, List.mem_of_getElem? (i := 1406) (by decide +kernel), List.mem_of_getElem? (i := 1598) (by decide +kernel), List.mem_of_getElem? (i := 1599) (by decide +kernel)⟩
theorem lw_p41 : lw_okq (⟨"QuillRelayModel", "inZone", "(I)Z"⟩, 19) := ⟨⟨by decide +kernel, by decide +kernel⟩, List.mem_of_getElem? (i := 1406) (by decide +kernel), List.mem_of_getElem? (i := 1602) (by decide +kernel), List.mem_of_getElem? (i := 1603) (by decide +kernel)⟩
theorem lw_p42 : lw_okq (⟨"QuillRelayModel", "leaves", "(I)I"⟩, 19) := ⟨⟨by decide +kernel, by decide +kernel⟩, List.mem_of_getElem? (i := 1406) (by decide +kernel), List.mem_of_getElem? (i := 1610) (by decide +kernel), List.mem_of_getElem? (i := 1611) (by decide +kernel)⟩
theorem lw_p43 : lw_okq (⟨"QuillRelayModel", "protests", "(III)I"⟩, 19) := ⟨⟨by decide +kernel, by decide +kernel⟩, List.mem_of_getElem? (i := 1406) (by decide +kernel), List.mem_of_getElem? (i := 1618) (by decide +kernel), List.mem_of_getElem? (i := 1619) (by decide +kernel)⟩
theorem lw_p44 : lw_okq (⟨"QuillRelayModel", "ofTeam", "(II)I"⟩, 19) := ⟨⟨by decide +kernel, by decide +kernel⟩, List.mem_of_getElem? (i := 1406) (by decide +kernel), List.mem_of_getElem? (i := 1650) (by decide +kernel), List.mem_of_getElem? (i := 1651) (by decide +kernel)⟩
theorem lw_p45 : lw_okq (⟨"QuillRelayModel", "isNoResult", "(I)Z"⟩, 19) := ⟨⟨by decide +kernel, by decide +kernel⟩, List.mem_of_getElem? (i := 1406) (by decide +kernel), List.mem_of_getElem? (i := 1702) (by decide +kernel), List.mem_of_getElem? (i := 1703) (by decide +kernel)⟩
theorem lw_p46 : lw_okq (⟨"QuillRelayModel", "result", "(I)I"⟩, 19) := ⟨⟨by decide +kernel, by decide +kernel⟩, List.mem_of_getElem? (i := 1406) (by decide +kernel), List.mem_of_getElem? (i := 1710) (by decide +kernel), List.mem_of_getElem? (i := 1711) (by decide +kernel)⟩
theorem lw_p47 : lw_okq (⟨"QuillRelayModel", "rank", "(I)I"⟩, 19) := ⟨⟨by decide +kernel, by decide +kernel⟩, List.mem_of_getElem? (i := 1406) (by decide +kernel), List.mem_of_getElem? (i := 1718) (by decide +kernel), List.mem_of_getElem? (i := 1719) (by decide +kernel)⟩
def lw_privs_3 : List (MethodName × Nat) := [(⟨"QuillRelayModel", "inStatus", "(I)I"⟩, 19), (⟨"QuillRelayModel", "moves", "(I)V"⟩, 19), (⟨"QuillRelayModel", "standsAtBound", "(I)Z"⟩, 19), (⟨"QuillRelayModel", "endOf", "(I)I"⟩, 19), (⟨"QuillRelayModel", "carries", "(I)V"⟩, 19), (⟨"QuillRelayModel", "passes", "(I)I"⟩, 19), (⟨"QuillRelayModel", "isRefused", "(I)Z"⟩, 19), (⟨"QuillRelayModel", "reason", "(I)I"⟩, 19), (⟨"QuillRelayModel", "drops", "(II)I"⟩, 19), (⟨"QuillRelayModel", "inZone", "(I)Z"⟩, 19), (⟨"QuillRelayModel", "leaves", "(I)I"⟩, 19), (⟨"QuillRelayModel", "protests", "(III)I"⟩, 19), (⟨"QuillRelayModel", "ofTeam", "(II)I"⟩, 19), (⟨"QuillRelayModel", "isNoResult", "(I)Z"⟩, 19), (⟨"QuillRelayModel", "result", "(I)I"⟩, 19), (⟨"QuillRelayModel", "rank", "(I)I"⟩, 19)]
theorem lw_r3 : ∀ q ∈ lw_privs_3, lw_okq q := List.forall_mem_cons.mpr ⟨lw_p32, List.forall_mem_cons.mpr ⟨lw_p33, List.forall_mem_cons.mpr ⟨lw_p34, List.forall_mem_cons.mpr ⟨lw_p35, List.forall_mem_cons.mpr ⟨lw_p36, List.forall_mem_cons.mpr ⟨lw_p37, List.forall_mem_cons.mpr ⟨lw_p38, List.forall_mem_cons.mpr ⟨lw_p39, List.forall_mem_cons.mpr ⟨lw_p40, List.forall_mem_cons.mpr ⟨lw_p41, List.forall_mem_cons.mpr ⟨lw_p42, List.forall_mem_cons.mpr ⟨lw_p43, List.forall_mem_cons.mpr ⟨lw_p44, List.forall_mem_cons.mpr ⟨lw_p45, List.forall_mem_cons.mpr ⟨lw_p46, List.forall_mem_cons.mpr ⟨lw_p47, fun _ h => absurd h List.not_mem_nil⟩⟩⟩⟩⟩⟩⟩⟩⟩⟩⟩⟩⟩⟩⟩⟩
theorem lw_p48 : lw_okq (⟨"QuillRelayModel", "isAhead", "(II)Z"⟩, 19) := ⟨⟨by decide +kernel, by decide +kernel⟩, List.mem_of_getElem? (i := 1406) (by decide +kernel), List.mem_of_getElem? (i := 1722) (by decide +kernel), List.mem_of_getElem? (i := 1723) (by decide +kernel)⟩
theorem lw_p49 : lw_okq (⟨"QuillRelayModel", "group", "(I)I"⟩, 19) := ⟨⟨by decide +kernel, by decide +kernel⟩, List.mem_of_getElem? (i := 1406) (by decide +kernel), List.mem_of_getElem? (i := 1726) (by decide +kernel), List.mem_of_getElem? (i := 1727) (by decide +kernel)⟩
theorem lw_p50 : lw_okq (⟨"QuillRelayModel", "puts", "(I)V"⟩, 19) := ⟨⟨by decide +kernel, by decide +kernel⟩, List.mem_of_getElem? (i := 1406) (by decide +kernel), List.mem_of_getElem? (i := 1763) (by decide +kernel), List.mem_of_getElem? (i := 1764) (by decide +kernel)⟩
theorem lw_p51 : lw_okq (⟨"QuillRelayModel", "number", "(I)V"⟩, 19) := ⟨⟨by decide +kernel, by decide +kernel⟩, List.mem_of_getElem? (i := 1406) (by decide +kernel), List.mem_of_getElem? (i := 1767) (by decide +kernel), List.mem_of_getElem? (i := 1768) (by decide +kernel)⟩
theorem lw_p52 : lw_okq (⟨"QuillRelayModel", "isProgram", "()Z"⟩, 19) := ⟨⟨by decide +kernel, by decide +kernel⟩, List.mem_of_getElem? (i := 1406) (by decide +kernel), List.mem_of_getElem? (i := 1785) (by decide +kernel), List.mem_of_getElem? (i := 1786) (by decide +kernel)⟩
theorem lw_p53 : lw_okq (⟨"QuillRelayModel", "readsCommand", "()Z"⟩, 19) := ⟨⟨by decide +kernel, by decide +kernel⟩, List.mem_of_getElem? (i := 1406) (by decide +kernel), List.mem_of_getElem? (i := 1789) (by decide +kernel), List.mem_of_getElem? (i := 1790) (by decide +kernel)⟩
theorem lw_p54 : lw_okq (⟨"QuillRelayModel", "sign", "()I"⟩, 19) := ⟨⟨by decide +kernel, by decide +kernel⟩, List.mem_of_getElem? (i := 1406) (by decide +kernel), List.mem_of_getElem? (i := 1793) (by decide +kernel), List.mem_of_getElem? (i := 1794) (by decide +kernel)⟩
theorem lw_p55 : lw_okq (⟨"QuillRelayModel", "readsRest", "(II)Z"⟩, 19) := ⟨⟨by decide +kernel, by decide +kernel⟩, List.mem_of_getElem? (i := 1406) (by decide +kernel), List.mem_of_getElem? (i := 1800) (by decide +kernel), List.mem_of_getElem? (i := 1801) (by decide +kernel)⟩
theorem lw_p56 : lw_okq (⟨"QuillRelayModel", "readsS", "(I)Z"⟩, 19) := ⟨⟨by decide +kernel, by decide +kernel⟩, List.mem_of_getElem? (i := 1406) (by decide +kernel), List.mem_of_getElem? (i := 1804) (by decide +kernel), List.mem_of_getElem? (i := 1805) (by decide +kernel)⟩
theorem lw_p57 : lw_okq (⟨"QuillRelayModel", "isSign", "(I)Z"⟩, 19) := ⟨⟨by decide +kernel, by decide +kernel⟩, List.mem_of_getElem? (i := 1406) (by decide +kernel), List.mem_of_getElem? (i := 1808) (by decide +kernel), List.mem_of_getElem? (i := 1809) (by decide +kernel)⟩
theorem lw_p58 : lw_okq (⟨"QuillRelayModel", "isWord", "(Ljava/lang/String;)Z"⟩, 19) := ⟨⟨by decide +kernel, by decide +kernel⟩, List.mem_of_getElem? (i := 1406) (by decide +kernel), List.mem_of_getElem? (i := 1813) (by decide +kernel), List.mem_of_getElem? (i := 1814) (by decide +kernel)⟩
theorem lw_p59 : lw_okq (⟨"QuillRelayModel", "isSpaced", "(II)Z"⟩, 19) := ⟨⟨by decide +kernel, by decide +kernel⟩, List.mem_of_getElem? (i := 1406) (by decide +kernel), List.mem_of_getElem? (i := 1819) (by decide +kernel), List.mem_of_getElem? (i := 1820) (by decide +kernel)⟩
theorem lw_p60 : lw_okq (⟨"QuillRelayModel", "isNumber", "(II)Z"⟩, 19) := ⟨⟨by decide +kernel, by decide +kernel⟩, List.mem_of_getElem? (i := 1406) (by decide +kernel), List.mem_of_getElem? (i := 1823) (by decide +kernel), List.mem_of_getElem? (i := 1824) (by decide +kernel)⟩
theorem lw_p61 : lw_okq (⟨"QuillRelayModel", "readsP", "(I)Z"⟩, 19) := ⟨⟨by decide +kernel, by decide +kernel⟩, List.mem_of_getElem? (i := 1406) (by decide +kernel), List.mem_of_getElem? (i := 1827) (by decide +kernel), List.mem_of_getElem? (i := 1828) (by decide +kernel)⟩
theorem lw_p62 : lw_okq (⟨"QuillRelayModel", "isKind", "(I)Z"⟩, 19) := ⟨⟨by decide +kernel, by decide +kernel⟩, List.mem_of_getElem? (i := 1406) (by decide +kernel), List.mem_of_getElem? (i := 1833) (by decide +kernel), List.mem_of_getElem? (i := 1834) (by decide +kernel)⟩
theorem lw_p63 : lw_okq (⟨"QuillRelayModel", "readsD", "(I)Z"⟩, 19) := ⟨⟨by decide +kernel, by decide +kernel⟩, List.mem_of_getElem? (i := 1406) (by decide +kernel), List.mem_of_getElem? (i := 1837) (by decide +kernel), List.mem_of_getElem? (i := 1838) (by decide +kernel)⟩
def lw_privs_4 : List (MethodName × Nat) := [(⟨"QuillRelayModel", "isAhead", "(II)Z"⟩, 19), (⟨"QuillRelayModel", "group", "(I)I"⟩, 19), (⟨"QuillRelayModel", "puts", "(I)V"⟩, 19), (⟨"QuillRelayModel", "number", "(I)V"⟩, 19), (⟨"QuillRelayModel", "isProgram", "()Z"⟩, 19), (⟨"QuillRelayModel", "readsCommand", "()Z"⟩, 19), (⟨"QuillRelayModel", "sign", "()I"⟩, 19), (⟨"QuillRelayModel", "readsRest", "(II)Z"⟩, 19), (⟨"QuillRelayModel", "readsS", "(I)Z"⟩, 19), (⟨"QuillRelayModel", "isSign", "(I)Z"⟩, 19), (⟨"QuillRelayModel", "isWord", "(Ljava/lang/String;)Z"⟩, 19), (⟨"QuillRelayModel", "isSpaced", "(II)Z"⟩, 19), (⟨"QuillRelayModel", "isNumber", "(II)Z"⟩, 19), (⟨"QuillRelayModel", "readsP", "(I)Z"⟩, 19), (⟨"QuillRelayModel", "isKind", "(I)Z"⟩, 19), (⟨"QuillRelayModel", "readsD", "(I)Z"⟩, 19)]
theorem lw_r4 : ∀ q ∈ lw_privs_4, lw_okq q := List.forall_mem_cons.mpr ⟨lw_p48, List.forall_mem_cons.mpr ⟨lw_p49, List.forall_mem_cons.mpr ⟨lw_p50, List.forall_mem_cons.mpr ⟨lw_p51, List.forall_mem_cons.mpr ⟨lw_p52, List.forall_mem_cons.mpr ⟨lw_p53, List.forall_mem_cons.mpr ⟨lw_p54, List.forall_mem_cons.mpr ⟨lw_p55, List.forall_mem_cons.mpr ⟨lw_p56, List.forall_mem_cons.mpr ⟨lw_p57, List.forall_mem_cons.mpr ⟨lw_p58, List.forall_mem_cons.mpr ⟨lw_p59, List.forall_mem_cons.mpr ⟨lw_p60, List.forall_mem_cons.mpr ⟨lw_p61, List.forall_mem_cons.mpr ⟨lw_p62, List.forall_mem_cons.mpr ⟨lw_p63, fun _ h => absurd h List.not_mem_nil⟩⟩⟩⟩⟩⟩⟩⟩⟩⟩⟩⟩⟩⟩⟩⟩
theorem lw_p64 : lw_okq (⟨"QuillRelayModel", "does", "(I)I"⟩, 19) := ⟨⟨by decide +kernel, by decide +kernel⟩, List.mem_of_getElem? (i := 1406) (by decide +kernel), List.mem_of_getElem? (i := 1845) (by decide +kernel), List.mem_of_getElem? (i := 1846) (by decide +kernel)⟩
def lw_privs_5 : List (MethodName × Nat) := [(⟨"QuillRelayModel", "does", "(I)I"⟩, 19)]
theorem lw_r5 : ∀ q ∈ lw_privs_5, lw_okq q := List.forall_mem_cons.mpr ⟨lw_p64, fun _ h => absurd h List.not_mem_nil⟩
def lw_privs : List (MethodName × Nat) := lw_privs_1 ++ (lw_privs_2 ++ (lw_privs_3 ++ (lw_privs_4 ++ (lw_privs_5))))
def lw_tbl : List Cond := k2_sels lw_privs ++ tables_1
theorem lw_privs_ok : ∀ q ∈ lw_privs, lw_okq q := by
  show ∀ q ∈ lw_privs_1 ++ (lw_privs_2 ++ (lw_privs_3 ++ (lw_privs_4 ++ (lw_privs_5)))), lw_okq q
  exact List.forall_mem_append.mpr ⟨lw_r1, List.forall_mem_append.mpr ⟨lw_r2, List.forall_mem_append.mpr ⟨lw_r3, List.forall_mem_append.mpr ⟨lw_r4, lw_r5⟩⟩⟩⟩
/-- the streams that the claim lets the run draw from -/
abbrev lw_cs : List Choice := [Jvm.Choice.named "NaN.bits"]
theorem lw_bits : nanBits ∈ lw_cs := by first | decide | exact List.mem_cons_self | simp [lw_cs, nanBits]
end
section
def RX0 : String := "QuillRelay$1"
def TX0 : u_T := fun k => match k with
  | _ => ("", "", "", false)
def tyX0 : Nat → FieldType := fun k => match k with
  | _ => .int
theorem nmX0 : ∀ a, a < 0 → ∀ b, b < 0 → a ≠ b → (TX0 a).2.1 ≠ (TX0 b).2.1 := by decide +kernel
theorem tyX0_ok : ∀ k, k < 0 → parseFieldDescriptor (TX0 k).2.2.1 = some (tyX0 k) := by decide +kernel
def RX1 : String := "QuillRelay$Fault"
def TX1 : u_T := fun k => match k with
  | _ => ("", "", "", false)
def tyX1 : Nat → FieldType := fun k => match k with
  | _ => .int
theorem nmX1 : ∀ a, a < 0 → ∀ b, b < 0 → a ≠ b → (TX1 a).2.1 ≠ (TX1 b).2.1 := by decide +kernel
theorem tyX1_ok : ∀ k, k < 0 → parseFieldDescriptor (TX1 k).2.2.1 = some (tyX1 k) := by decide +kernel
def RX2 : String := "QuillRelay$History"
def TX2 : u_T := fun k => match k with
  | 0 => ("QuillRelay$History", "rows", "[LQuillRelay$Race;", true)
  | 1 => ("QuillRelay$History", "newest", "I", false)
  | _ => ("QuillRelay$History", "size", "I", false)
def tyX2 : Nat → FieldType := fun k => match k with
  | 0 => .array (.object "QuillRelay$Race")
  | 1 => .int
  | _ => .int
theorem nmX2 : ∀ a, a < 3 → ∀ b, b < 3 → a ≠ b → (TX2 a).2.1 ≠ (TX2 b).2.1 := by decide +kernel
theorem tyX2_ok : ∀ k, k < 3 → parseFieldDescriptor (TX2 k).2.2.1 = some (tyX2 k) := by decide +kernel
abbrev cX2_init : ByteArray := prog_4_method_1_code
def yX2_init : MethodName := ⟨RX2, "<init>", "()V"⟩
abbrev cX2_push : ByteArray := prog_4_method_2_code
def yX2_push : MethodName := ⟨RX2, "push", "(LQuillRelay$Race;)V"⟩
abbrev cX2_popInto : ByteArray := prog_4_method_3_code
def yX2_popInto : MethodName := ⟨RX2, "popInto", "(LQuillRelay$Race;)V"⟩
def RX3 : String := "QuillRelay$Program"
def TX3 : u_T := fun k => match k with
  | 0 => ("QuillRelay$Program", "text", "Ljava/lang/StringBuilder;", true)
  | 1 => ("QuillRelay$Program", "arguments", "[I", true)
  | 2 => ("QuillRelay$Program", "argumentCount", "I", false)
  | 3 => ("QuillRelay$Program", "end", "I", false)
  | 4 => ("QuillRelay$Program", "commands", "I", false)
  | _ => ("QuillRelay$Program", "verb", "LQuillRelay$Verb;", false)
def tyX3 : Nat → FieldType := fun k => match k with
  | 0 => .object "java/lang/StringBuilder"
  | 1 => .array .int
  | 2 => .int
  | 3 => .int
  | 4 => .int
  | _ => .object "QuillRelay$Verb"
theorem nmX3 : ∀ a, a < 6 → ∀ b, b < 6 → a ≠ b → (TX3 a).2.1 ≠ (TX3 b).2.1 := by decide +kernel
theorem tyX3_ok : ∀ k, k < 6 → parseFieldDescriptor (TX3 k).2.2.1 = some (tyX3 k) := by decide +kernel
abbrev cX3_init : ByteArray := prog_5_method_1_code
def yX3_init : MethodName := ⟨RX3, "<init>", "()V"⟩
abbrev cX3_findError : ByteArray := prog_5_method_2_code
def yX3_findError : MethodName := ⟨RX3, "findError", "()I"⟩
abbrev cX3_rewind : ByteArray := prog_5_method_3_code
def yX3_rewind : MethodName := ⟨RX3, "rewind", "()V"⟩
abbrev cX3_readNext : ByteArray := prog_5_method_4_code
def yX3_readNext : MethodName := ⟨RX3, "readNext", "()Z"⟩
abbrev cX3_readPattern : ByteArray := prog_5_method_5_code
def yX3_readPattern : MethodName := ⟨RX3, "readPattern", "(Ljava/lang/String;I)Z"⟩
abbrev cX3_readSign : ByteArray := prog_5_method_6_code
def yX3_readSign : MethodName := ⟨RX3, "readSign", "(C)Z"⟩
abbrev cX3_readCharacter : ByteArray := prog_5_method_7_code
def yX3_readCharacter : MethodName := ⟨RX3, "readCharacter", "(C)Z"⟩
abbrev cX3_readDigits : ByteArray := prog_5_method_8_code
def yX3_readDigits : MethodName := ⟨RX3, "readDigits", "(I)Z"⟩
abbrev cX3_isDigit : ByteArray := prog_5_method_9_code
def yX3_isDigit : MethodName := ⟨RX3, "isDigit", "(C)Z"⟩
abbrev cX3_readKind : ByteArray := prog_5_method_10_code
def yX3_readKind : MethodName := ⟨RX3, "readKind", "()Z"⟩
abbrev cX3_addArgument : ByteArray := prog_5_method_11_code
def yX3_addArgument : MethodName := ⟨RX3, "addArgument", "(I)V"⟩
def RX4 : String := "QuillRelay$Race"
def TX4 : u_T := fun k => match k with
  | 0 => ("QuillRelay$Race", "teams", "[LQuillRelay$Team;", true)
  | 1 => ("QuillRelay$Race", "begun", "Z", false)
  | 2 => ("QuillRelay$Race", "secondsPassed", "I", false)
  | _ => ("QuillRelay$Race", "legLength", "I", false)
def tyX4 : Nat → FieldType := fun k => match k with
  | 0 => .array (.object "QuillRelay$Team")
  | 1 => .boolean
  | 2 => .int
  | _ => .int
theorem nmX4 : ∀ a, a < 4 → ∀ b, b < 4 → a ≠ b → (TX4 a).2.1 ≠ (TX4 b).2.1 := by decide +kernel
theorem tyX4_ok : ∀ k, k < 4 → parseFieldDescriptor (TX4 k).2.2.1 = some (tyX4 k) := by decide +kernel
abbrev cX4_init : ByteArray := prog_6_method_1_code
def yX4_init : MethodName := ⟨RX4, "<init>", "()V"⟩
abbrev cX4_copyFrom : ByteArray := prog_6_method_2_code
def yX4_copyFrom : MethodName := ⟨RX4, "copyFrom", "(LQuillRelay$Race;)V"⟩
abbrev cX4_find : ByteArray := prog_6_method_3_code
def yX4_find : MethodName := ⟨RX4, "find", "(I)LQuillRelay$Team;"⟩
abbrev cX4_countEntered : ByteArray := prog_6_method_4_code
def yX4_countEntered : MethodName := ⟨RX4, "countEntered", "()I"⟩
abbrev cX4_countRunning : ByteArray := prog_6_method_5_code
def yX4_countRunning : MethodName := ⟨RX4, "countRunning", "()I"⟩
abbrev cX4_countFinished : ByteArray := prog_6_method_6_code
def yX4_countFinished : MethodName := ⟨RX4, "countFinished", "()I"⟩
abbrev cX4_countIn : ByteArray := prog_6_method_7_code
def yX4_countIn : MethodName := ⟨RX4, "countIn", "(LQuillRelay$Stage;)I"⟩
abbrev cX4_sumOfTimes : ByteArray := prog_6_method_8_code
def yX4_sumOfTimes : MethodName := ⟨RX4, "sumOfTimes", "()I"⟩
abbrev cX4_numberInLane : ByteArray := prog_6_method_9_code
def yX4_numberInLane : MethodName := ⟨RX4, "numberInLane", "(I)I"⟩
abbrev cX4_numberAtRank : ByteArray := prog_6_method_10_code
def yX4_numberAtRank : MethodName := ⟨RX4, "numberAtRank", "(I)I"⟩
abbrev cX4_countAhead : ByteArray := prog_6_method_11_code
def yX4_countAhead : MethodName := ⟨RX4, "countAhead", "(LQuillRelay$Team;)I"⟩
abbrev cX4_faultOfEntering : ByteArray := prog_6_method_12_code
def yX4_faultOfEntering : MethodName := ⟨RX4, "faultOfEntering", "()LQuillRelay$Fault;"⟩
abbrev cX4_faultOfSpeed : ByteArray := prog_6_method_13_code
def yX4_faultOfSpeed : MethodName := ⟨RX4, "faultOfSpeed", "(III)LQuillRelay$Fault;"⟩
abbrev cX4_faultOfLength : ByteArray := prog_6_method_14_code
def yX4_faultOfLength : MethodName := ⟨RX4, "faultOfLength", "(I)LQuillRelay$Fault;"⟩
abbrev cX4_faultOfDrawing : ByteArray := prog_6_method_15_code
def yX4_faultOfDrawing : MethodName := ⟨RX4, "faultOfDrawing", "(I)LQuillRelay$Fault;"⟩
abbrev cX4_faultOfStarting : ByteArray := prog_6_method_16_code
def yX4_faultOfStarting : MethodName := ⟨RX4, "faultOfStarting", "()LQuillRelay$Fault;"⟩
abbrev cX4_faultOfRunning : ByteArray := prog_6_method_17_code
def yX4_faultOfRunning : MethodName := ⟨RX4, "faultOfRunning", "(I)LQuillRelay$Fault;"⟩
abbrev cX4_faultOfDropping : ByteArray := prog_6_method_18_code
def yX4_faultOfDropping : MethodName := ⟨RX4, "faultOfDropping", "(II)LQuillRelay$Fault;"⟩
abbrev cX4_faultOfWithdrawing : ByteArray := prog_6_method_19_code
def yX4_faultOfWithdrawing : MethodName := ⟨RX4, "faultOfWithdrawing", "(I)LQuillRelay$Fault;"⟩
abbrev cX4_faultOfProtesting : ByteArray := prog_6_method_20_code
def yX4_faultOfProtesting : MethodName := ⟨RX4, "faultOfProtesting", "(III)LQuillRelay$Fault;"⟩
abbrev cX4_enterTeam : ByteArray := prog_6_method_21_code
def yX4_enterTeam : MethodName := ⟨RX4, "enterTeam", "()I"⟩
abbrev cX4_shuffleLanes : ByteArray := prog_6_method_22_code
def yX4_shuffleLanes : MethodName := ⟨RX4, "shuffleLanes", "(I)V"⟩
abbrev cX4_freeLane : ByteArray := prog_6_method_23_code
def yX4_freeLane : MethodName := ⟨RX4, "freeLane", "(III)I"⟩
abbrev cX4_isTaken : ByteArray := prog_6_method_24_code
def yX4_isTaken : MethodName := ⟨RX4, "isTaken", "(II)Z"⟩
abbrev cX4_begin : ByteArray := prog_6_method_25_code
def yX4_begin : MethodName := ⟨RX4, "begin", "()V"⟩
abbrev cX4_letSecondsPass : ByteArray := prog_6_method_26_code
def yX4_letSecondsPass : MethodName := ⟨RX4, "letSecondsPass", "(I)I"⟩
abbrev cX4_handOver : ByteArray := prog_6_method_27_code
def yX4_handOver : MethodName := ⟨RX4, "handOver", "(LQuillRelay$Team;)I"⟩
abbrev cX4_dropQuill : ByteArray := prog_6_method_28_code
def yX4_dropQuill : MethodName := ⟨RX4, "dropQuill", "(LQuillRelay$Team;I)I"⟩
abbrev cX4_judge : ByteArray := prog_6_method_29_code
def yX4_judge : MethodName := ⟨RX4, "judge", "(LQuillRelay$Team;LQuillRelay$Team;I)Z"⟩
def RX5 : String := "QuillRelay$Stage"
def TX5 : u_T := fun k => match k with
  | _ => ("", "", "", false)
def tyX5 : Nat → FieldType := fun k => match k with
  | _ => .int
theorem nmX5 : ∀ a, a < 0 → ∀ b, b < 0 → a ≠ b → (TX5 a).2.1 ≠ (TX5 b).2.1 := by decide +kernel
theorem tyX5_ok : ∀ k, k < 0 → parseFieldDescriptor (TX5 k).2.2.1 = some (tyX5 k) := by decide +kernel
def RX6 : String := "QuillRelay$Team"
def TX6 : u_T := fun k => match k with
  | 0 => ("QuillRelay$Team", "number", "I", true)
  | 1 => ("QuillRelay$Team", "speeds", "[I", true)
  | 2 => ("QuillRelay$Team", "splits", "[I", true)
  | 3 => ("QuillRelay$Team", "stage", "LQuillRelay$Stage;", false)
  | 4 => ("QuillRelay$Team", "lane", "I", false)
  | 5 => ("QuillRelay$Team", "position", "I", false)
  | 6 => ("QuillRelay$Team", "leg", "I", false)
  | 7 => ("QuillRelay$Team", "secondsRun", "I", false)
  | 8 => ("QuillRelay$Team", "standing", "I", false)
  | 9 => ("QuillRelay$Team", "penalty", "I", false)
  | 10 => ("QuillRelay$Team", "lastPass", "I", false)
  | 11 => ("QuillRelay$Team", "time", "I", false)
  | 12 => ("QuillRelay$Team", "lateFoul", "Z", false)
  | _ => ("QuillRelay$Team", "dropFoul", "Z", false)
def tyX6 : Nat → FieldType := fun k => match k with
  | 0 => .int
  | 1 => .array .int
  | 2 => .array .int
  | 3 => .object "QuillRelay$Stage"
  | 4 => .int
  | 5 => .int
  | 6 => .int
  | 7 => .int
  | 8 => .int
  | 9 => .int
  | 10 => .int
  | 11 => .int
  | 12 => .boolean
  | _ => .boolean
theorem nmX6 : ∀ a, a < 14 → ∀ b, b < 14 → a ≠ b → (TX6 a).2.1 ≠ (TX6 b).2.1 := by decide +kernel
theorem tyX6_ok : ∀ k, k < 14 → parseFieldDescriptor (TX6 k).2.2.1 = some (tyX6 k) := by decide +kernel
abbrev cX6_init : ByteArray := prog_8_method_1_code
def yX6_init : MethodName := ⟨RX6, "<init>", "(I)V"⟩
abbrev cX6_copyFrom : ByteArray := prog_8_method_2_code
def yX6_copyFrom : MethodName := ⟨RX6, "copyFrom", "(LQuillRelay$Team;)V"⟩
abbrev cX6_speedOn : ByteArray := prog_8_method_3_code
def yX6_speedOn : MethodName := ⟨RX6, "speedOn", "(I)I"⟩
abbrev cX6_changeSpeed : ByteArray := prog_8_method_4_code
def yX6_changeSpeed : MethodName := ⟨RX6, "changeSpeed", "(II)I"⟩
abbrev cX6_legEnd : ByteArray := prog_8_method_5_code
def yX6_legEnd : MethodName := ⟨RX6, "legEnd", "(I)I"⟩
abbrev cX6_inZone : ByteArray := prog_8_method_6_code
def yX6_inZone : MethodName := ⟨RX6, "inZone", "(I)Z"⟩
abbrev cX6_reasonToRefuse : ByteArray := prog_8_method_7_code
def yX6_reasonToRefuse : MethodName := ⟨RX6, "reasonToRefuse", "(I)I"⟩
abbrev cX6_moveOneSecond : ByteArray := prog_8_method_8_code
def yX6_moveOneSecond : MethodName := ⟨RX6, "moveOneSecond", "(II)Z"⟩
abbrev cX6_runOneSecond : ByteArray := prog_8_method_9_code
def yX6_runOneSecond : MethodName := ⟨RX6, "runOneSecond", "(I)V"⟩
abbrev cX6_endLeg : ByteArray := prog_8_method_10_code
def yX6_endLeg : MethodName := ⟨RX6, "endLeg", "(I)I"⟩
abbrev cX6_hasEnded : ByteArray := prog_8_method_11_code
def yX6_hasEnded : MethodName := ⟨RX6, "hasEnded", "(I)Z"⟩
abbrev cX6_secondsUntilZone : ByteArray := prog_8_method_12_code
def yX6_secondsUntilZone : MethodName := ⟨RX6, "secondsUntilZone", "(I)I"⟩
abbrev cX6_committed : ByteArray := prog_8_method_13_code
def yX6_committed : MethodName := ⟨RX6, "committed", "(I)Z"⟩
abbrev cX6_removeFoul : ByteArray := prog_8_method_14_code
def yX6_removeFoul : MethodName := ⟨RX6, "removeFoul", "(I)V"⟩
abbrev cX6_result : ByteArray := prog_8_method_15_code
def yX6_result : MethodName := ⟨RX6, "result", "()I"⟩
abbrev cX6_isAheadOf : ByteArray := prog_8_method_16_code
def yX6_isAheadOf : MethodName := ⟨RX6, "isAheadOf", "(LQuillRelay$Team;)Z"⟩
def RX7 : String := "QuillRelay$Verb"
def TX7 : u_T := fun k => match k with
  | _ => ("", "", "", false)
def tyX7 : Nat → FieldType := fun k => match k with
  | _ => .int
theorem nmX7 : ∀ a, a < 0 → ∀ b, b < 0 → a ≠ b → (TX7 a).2.1 ≠ (TX7 b).2.1 := by decide +kernel
theorem tyX7_ok : ∀ k, k < 0 → parseFieldDescriptor (TX7 k).2.2.1 = some (tyX7 k) := by decide +kernel
def RX8 : String := "QuillRelay"
def TX8 : u_T := fun k => match k with
  | 0 => ("QuillRelay", "race", "LQuillRelay$Race;", true)
  | 1 => ("QuillRelay", "before", "LQuillRelay$Race;", true)
  | 2 => ("QuillRelay", "snapshot", "LQuillRelay$Race;", true)
  | 3 => ("QuillRelay", "history", "LQuillRelay$History;", true)
  | 4 => ("QuillRelay", "program", "LQuillRelay$Program;", true)
  | 5 => ("QuillRelay", "banner", "Ljava/lang/StringBuilder;", true)
  | 6 => ("QuillRelay", "snapshotTaken", "Z", false)
  | 7 => ("QuillRelay", "lastReason", "I", false)
  | 8 => ("QuillRelay", "lastRefusedTeam", "I", false)
  | 9 => ("QuillRelay", "lastError", "I", false)
  | _ => ("QuillRelay", "lastFailure", "I", false)
def tyX8 : Nat → FieldType := fun k => match k with
  | 0 => .object "QuillRelay$Race"
  | 1 => .object "QuillRelay$Race"
  | 2 => .object "QuillRelay$Race"
  | 3 => .object "QuillRelay$History"
  | 4 => .object "QuillRelay$Program"
  | 5 => .object "java/lang/StringBuilder"
  | 6 => .boolean
  | 7 => .int
  | 8 => .int
  | 9 => .int
  | _ => .int
theorem nmX8 : ∀ a, a < 11 → ∀ b, b < 11 → a ≠ b → (TX8 a).2.1 ≠ (TX8 b).2.1 := by decide +kernel
theorem tyX8_ok : ∀ k, k < 11 → parseFieldDescriptor (TX8 k).2.2.1 = some (tyX8 k) := by decide +kernel
abbrev cX8_init : ByteArray := prog_1_method_1_code
def yX8_init : MethodName := ⟨RX8, "<init>", "()V"⟩
abbrev cX8_addTeam : ByteArray := prog_1_method_2_code
def yX8_addTeam : MethodName := ⟨RX8, "addTeam", "()I"⟩
abbrev cX8_setSpeed : ByteArray := prog_1_method_3_code
def yX8_setSpeed : MethodName := ⟨RX8, "setSpeed", "(III)I"⟩
abbrev cX8_setLength : ByteArray := prog_1_method_4_code
def yX8_setLength : MethodName := ⟨RX8, "setLength", "(I)I"⟩
abbrev cX8_drawLanes : ByteArray := prog_1_method_5_code
def yX8_drawLanes : MethodName := ⟨RX8, "drawLanes", "(I)I"⟩
abbrev cX8_start : ByteArray := prog_1_method_6_code
def yX8_start : MethodName := ⟨RX8, "start", "()I"⟩
abbrev cX8_run : ByteArray := prog_1_method_7_code
def yX8_run : MethodName := ⟨RX8, "run", "(I)I"⟩
abbrev cX8_pass : ByteArray := prog_1_method_8_code
def yX8_pass : MethodName := ⟨RX8, "pass", "(I)I"⟩
abbrev cX8_drop : ByteArray := prog_1_method_9_code
def yX8_drop : MethodName := ⟨RX8, "drop", "(II)I"⟩
abbrev cX8_withdraw : ByteArray := prog_1_method_10_code
def yX8_withdraw : MethodName := ⟨RX8, "withdraw", "(I)I"⟩
abbrev cX8_protest : ByteArray := prog_1_method_11_code
def yX8_protest : MethodName := ⟨RX8, "protest", "(III)Z"⟩
abbrev cX8_teamCount : ByteArray := prog_1_method_12_code
def yX8_teamCount : MethodName := ⟨RX8, "teamCount", "()I"⟩
abbrev cX8_runningCount : ByteArray := prog_1_method_13_code
def yX8_runningCount : MethodName := ⟨RX8, "runningCount", "()I"⟩
abbrev cX8_isStarted : ByteArray := prog_1_method_14_code
def yX8_isStarted : MethodName := ⟨RX8, "isStarted", "()Z"⟩
abbrev cX8_isFinished : ByteArray := prog_1_method_15_code
def yX8_isFinished : MethodName := ⟨RX8, "isFinished", "()Z"⟩
abbrev cX8_clock : ByteArray := prog_1_method_16_code
def yX8_clock : MethodName := ⟨RX8, "clock", "()I"⟩
abbrev cX8_length : ByteArray := prog_1_method_17_code
def yX8_length : MethodName := ⟨RX8, "length", "()I"⟩
abbrev cX8_laneOf : ByteArray := prog_1_method_18_code
def yX8_laneOf : MethodName := ⟨RX8, "laneOf", "(I)I"⟩
abbrev cX8_teamInLane : ByteArray := prog_1_method_19_code
def yX8_teamInLane : MethodName := ⟨RX8, "teamInLane", "(I)I"⟩
abbrev cX8_speedOf : ByteArray := prog_1_method_20_code
def yX8_speedOf : MethodName := ⟨RX8, "speedOf", "(II)I"⟩
abbrev cX8_positionOf : ByteArray := prog_1_method_21_code
def yX8_positionOf : MethodName := ⟨RX8, "positionOf", "(I)I"⟩
abbrev cX8_legOf : ByteArray := prog_1_method_22_code
def yX8_legOf : MethodName := ⟨RX8, "legOf", "(I)I"⟩
abbrev cX8_isRunning : ByteArray := prog_1_method_23_code
def yX8_isRunning : MethodName := ⟨RX8, "isRunning", "(I)Z"⟩
abbrev cX8_isInZone : ByteArray := prog_1_method_24_code
def yX8_isInZone : MethodName := ⟨RX8, "isInZone", "(I)Z"⟩
abbrev cX8_standingOf : ByteArray := prog_1_method_25_code
def yX8_standingOf : MethodName := ⟨RX8, "standingOf", "(I)I"⟩
abbrev cX8_penaltyOf : ByteArray := prog_1_method_26_code
def yX8_penaltyOf : MethodName := ⟨RX8, "penaltyOf", "(I)I"⟩
abbrev cX8_hasFoul : ByteArray := prog_1_method_27_code
def yX8_hasFoul : MethodName := ⟨RX8, "hasFoul", "(II)Z"⟩
abbrev cX8_splitOf : ByteArray := prog_1_method_28_code
def yX8_splitOf : MethodName := ⟨RX8, "splitOf", "(II)I"⟩
abbrev cX8_splitSum : ByteArray := prog_1_method_29_code
def yX8_splitSum : MethodName := ⟨RX8, "splitSum", "(I)I"⟩
abbrev cX8_timeOf : ByteArray := prog_1_method_30_code
def yX8_timeOf : MethodName := ⟨RX8, "timeOf", "(I)I"⟩
abbrev cX8_resultOf : ByteArray := prog_1_method_31_code
def yX8_resultOf : MethodName := ⟨RX8, "resultOf", "(I)I"⟩
abbrev cX8_teamAtRank : ByteArray := prog_1_method_32_code
def yX8_teamAtRank : MethodName := ⟨RX8, "teamAtRank", "(I)I"⟩
abbrev cX8_rankOf : ByteArray := prog_1_method_33_code
def yX8_rankOf : MethodName := ⟨RX8, "rankOf", "(I)I"⟩
abbrev cX8_meanTime : ByteArray := prog_1_method_34_code
def yX8_meanTime : MethodName := ⟨RX8, "meanTime", "()D"⟩
abbrev cX8_reach : ByteArray := prog_1_method_35_code
def yX8_reach : MethodName := ⟨RX8, "reach", "(III)I"⟩
abbrev cX8_reachByStretches : ByteArray := prog_1_method_36_code
def yX8_reachByStretches : MethodName := ⟨RX8, "reachByStretches", "(III)I"⟩
abbrev cX8_secondsToZone : ByteArray := prog_1_method_37_code
def yX8_secondsToZone : MethodName := ⟨RX8, "secondsToZone", "(I)I"⟩
abbrev cX8_refusalReason : ByteArray := prog_1_method_38_code
def yX8_refusalReason : MethodName := ⟨RX8, "refusalReason", "()I"⟩
abbrev cX8_refusedTeam : ByteArray := prog_1_method_39_code
def yX8_refusedTeam : MethodName := ⟨RX8, "refusedTeam", "()I"⟩
abbrev cX8_writeBanner : ByteArray := prog_1_method_40_code
def yX8_writeBanner : MethodName := ⟨RX8, "writeBanner", "(I)I"⟩
abbrev cX8_bannerAt : ByteArray := prog_1_method_41_code
def yX8_bannerAt : MethodName := ⟨RX8, "bannerAt", "(I)C"⟩
abbrev cX8_type : ByteArray := prog_1_method_42_code
def yX8_type : MethodName := ⟨RX8, "type", "(C)I"⟩
abbrev cX8_execute : ByteArray := prog_1_method_43_code
def yX8_execute : MethodName := ⟨RX8, "execute", "()I"⟩
abbrev cX8_errorPosition : ByteArray := prog_1_method_44_code
def yX8_errorPosition : MethodName := ⟨RX8, "errorPosition", "()I"⟩
abbrev cX8_failedCommand : ByteArray := prog_1_method_45_code
def yX8_failedCommand : MethodName := ⟨RX8, "failedCommand", "()I"⟩
abbrev cX8_undo : ByteArray := prog_1_method_46_code
def yX8_undo : MethodName := ⟨RX8, "undo", "()I"⟩
abbrev cX8_save : ByteArray := prog_1_method_47_code
def yX8_save : MethodName := ⟨RX8, "save", "()I"⟩
abbrev cX8_restore : ByteArray := prog_1_method_48_code
def yX8_restore : MethodName := ⟨RX8, "restore", "()I"⟩
abbrev cX8_raise : ByteArray := prog_1_method_49_code
def yX8_raise : MethodName := ⟨RX8, "raise", "(LQuillRelay$Fault;)V"⟩
abbrev cX8_teamWith : ByteArray := prog_1_method_50_code
def yX8_teamWith : MethodName := ⟨RX8, "teamWith", "(I)LQuillRelay$Team;"⟩
abbrev cX8_teamWithLeg : ByteArray := prog_1_method_51_code
def yX8_teamWithLeg : MethodName := ⟨RX8, "teamWithLeg", "(II)LQuillRelay$Team;"⟩
abbrev cX8_finishedTeamWith : ByteArray := prog_1_method_52_code
def yX8_finishedTeamWith : MethodName := ⟨RX8, "finishedTeamWith", "(I)LQuillRelay$Team;"⟩
abbrev cX8_speedForReach : ByteArray := prog_1_method_53_code
def yX8_speedForReach : MethodName := ⟨RX8, "speedForReach", "(III)I"⟩
abbrev cX8_faultOfPassing : ByteArray := prog_1_method_54_code
def yX8_faultOfPassing : MethodName := ⟨RX8, "faultOfPassing", "(I)LQuillRelay$Fault;"⟩
abbrev cX8_appendStage : ByteArray := prog_1_method_55_code
def yX8_appendStage : MethodName := ⟨RX8, "appendStage", "(LQuillRelay$Team;)V"⟩
abbrev cX8_performAll : ByteArray := prog_1_method_56_code
def yX8_performAll : MethodName := ⟨RX8, "performAll", "()I"⟩
abbrev cX8_faultOf : ByteArray := prog_1_method_57_code
def yX8_faultOf : MethodName := ⟨RX8, "faultOf", "(LQuillRelay$Verb;III)LQuillRelay$Fault;"⟩
abbrev cX8_apply : ByteArray := prog_1_method_58_code
def yX8_apply : MethodName := ⟨RX8, "apply", "(LQuillRelay$Verb;III)V"⟩
abbrev cX8_isLeg : ByteArray := prog_1_method_59_code
def yX8_isLeg : MethodName := ⟨RX8, "isLeg", "(I)Z"⟩
abbrev cX8_isKind : ByteArray := prog_1_method_60_code
def yX8_isKind : MethodName := ⟨RX8, "isKind", "(I)Z"⟩
abbrev cX8_pace : ByteArray := prog_1_method_61_code
def yX8_pace : MethodName := ⟨RX8, "pace", "(II)I"⟩
abbrev cX8_at : ByteArray := prog_1_method_62_code
def yX8_at : MethodName := ⟨RX8, "at", "([II)I"⟩
abbrev cX8_put : ByteArray := prog_1_method_63_code
def yX8_put : MethodName := ⟨RX8, "put", "([III)V"⟩
abbrev cX8_copyRow : ByteArray := prog_1_method_64_code
def yX8_copyRow : MethodName := ⟨RX8, "copyRow", "([I[I)V"⟩
def RX9 : String := "QuillRelayModel"
def TX9 : u_T := fun k => match k with
  | 0 => ("QuillRelayModel", "s", "[I", true)
  | 1 => ("QuillRelayModel", "was", "[I", true)
  | 2 => ("QuillRelayModel", "saved", "[I", true)
  | 3 => ("QuillRelayModel", "past", "[I", true)
  | 4 => ("QuillRelayModel", "changes", "I", false)
  | 5 => ("QuillRelayModel", "thrown", "I", false)
  | 6 => ("QuillRelayModel", "errorAt", "I", false)
  | 7 => ("QuillRelayModel", "failedAt", "I", false)
  | 8 => ("QuillRelayModel", "refused", "I", false)
  | 9 => ("QuillRelayModel", "refusedBy", "I", false)
  | 10 => ("QuillRelayModel", "answer", "I", false)
  | 11 => ("QuillRelayModel", "isSaved", "Z", false)
  | 12 => ("QuillRelayModel", "line", "[I", true)
  | 13 => ("QuillRelayModel", "lined", "I", false)
  | 14 => ("QuillRelayModel", "tape", "[I", true)
  | 15 => ("QuillRelayModel", "commands", "[I", true)
  | 16 => ("QuillRelayModel", "taped", "I", false)
  | 17 => ("QuillRelayModel", "here", "I", false)
  | _ => ("QuillRelayModel", "commandMany", "I", false)
def tyX9 : Nat → FieldType := fun k => match k with
  | 0 => .array .int
  | 1 => .array .int
  | 2 => .array .int
  | 3 => .array .int
  | 4 => .int
  | 5 => .int
  | 6 => .int
  | 7 => .int
  | 8 => .int
  | 9 => .int
  | 10 => .int
  | 11 => .boolean
  | 12 => .array .int
  | 13 => .int
  | 14 => .array .int
  | 15 => .array .int
  | 16 => .int
  | 17 => .int
  | _ => .int
theorem nmX9 : ∀ a, a < 19 → ∀ b, b < 19 → a ≠ b → (TX9 a).2.1 ≠ (TX9 b).2.1 := by decide +kernel
theorem tyX9_ok : ∀ k, k < 19 → parseFieldDescriptor (TX9 k).2.2.1 = some (tyX9 k) := by decide +kernel
abbrev cX9_init : ByteArray := prog_11_method_1_code
def yX9_init : MethodName := ⟨RX9, "<init>", "()V"⟩
abbrev cX9_thrown : ByteArray := prog_11_method_2_code
def yX9_thrown : MethodName := ⟨RX9, "thrown", "()I"⟩
abbrev cX9_isIn : ByteArray := prog_11_method_3_code
def yX9_isIn : MethodName := ⟨RX9, "isIn", "(III)Z"⟩
abbrev cX9_copies : ByteArray := prog_11_method_4_code
def yX9_copies : MethodName := ⟨RX9, "copies", "([II[II)V"⟩
abbrev cX9_keeps : ByteArray := prog_11_method_5_code
def yX9_keeps : MethodName := ⟨RX9, "keeps", "()V"⟩
abbrev cX9_ends : ByteArray := prog_11_method_6_code
def yX9_ends : MethodName := ⟨RX9, "ends", "(I)I"⟩
abbrev cX9_isThrown : ByteArray := prog_11_method_7_code
def yX9_isThrown : MethodName := ⟨RX9, "isThrown", "(ZI)Z"⟩
abbrev cX9_of : ByteArray := prog_11_method_8_code
def yX9_of : MethodName := ⟨RX9, "of", "(II)I"⟩
abbrev cX9_sets : ByteArray := prog_11_method_9_code
def yX9_sets : MethodName := ⟨RX9, "sets", "(III)V"⟩
abbrev cX9_isTeam : ByteArray := prog_11_method_10_code
def yX9_isTeam : MethodName := ⟨RX9, "isTeam", "(I)Z"⟩
abbrev cX9_isLeg : ByteArray := prog_11_method_11_code
def yX9_isLeg : MethodName := ⟨RX9, "isLeg", "(I)Z"⟩
abbrev cX9_isUnprepared : ByteArray := prog_11_method_12_code
def yX9_isUnprepared : MethodName := ⟨RX9, "isUnprepared", "()Z"⟩
abbrev cX9_inStatus : ByteArray := prog_11_method_13_code
def yX9_inStatus : MethodName := ⟨RX9, "inStatus", "(I)I"⟩
abbrev cX9_addTeam : ByteArray := prog_11_method_14_code
def yX9_addTeam : MethodName := ⟨RX9, "addTeam", "()I"⟩
abbrev cX9_speeds : ByteArray := prog_11_method_15_code
def yX9_speeds : MethodName := ⟨RX9, "speeds", "(III)I"⟩
abbrev cX9_setSpeed : ByteArray := prog_11_method_16_code
def yX9_setSpeed : MethodName := ⟨RX9, "setSpeed", "(III)I"⟩
abbrev cX9_setLength : ByteArray := prog_11_method_17_code
def yX9_setLength : MethodName := ⟨RX9, "setLength", "(I)I"⟩
abbrev cX9_freeLane : ByteArray := prog_11_method_18_code
def yX9_freeLane : MethodName := ⟨RX9, "freeLane", "(II)I"⟩
abbrev cX9_draws : ByteArray := prog_11_method_19_code
def yX9_draws : MethodName := ⟨RX9, "draws", "(I)I"⟩
abbrev cX9_drawLanes : ByteArray := prog_11_method_20_code
def yX9_drawLanes : MethodName := ⟨RX9, "drawLanes", "(I)I"⟩
abbrev cX9_starts : ByteArray := prog_11_method_21_code
def yX9_starts : MethodName := ⟨RX9, "starts", "()I"⟩
abbrev cX9_start : ByteArray := prog_11_method_22_code
def yX9_start : MethodName := ⟨RX9, "start", "()I"⟩
abbrev cX9_step : ByteArray := prog_11_method_23_code
def yX9_step : MethodName := ⟨RX9, "step", "(II)I"⟩
abbrev cX9_endOf : ByteArray := prog_11_method_24_code
def yX9_endOf : MethodName := ⟨RX9, "endOf", "(I)I"⟩
abbrev cX9_standsAtBound : ByteArray := prog_11_method_25_code
def yX9_standsAtBound : MethodName := ⟨RX9, "standsAtBound", "(I)Z"⟩
abbrev cX9_carries : ByteArray := prog_11_method_26_code
def yX9_carries : MethodName := ⟨RX9, "carries", "(I)V"⟩
abbrev cX9_moves : ByteArray := prog_11_method_27_code
def yX9_moves : MethodName := ⟨RX9, "moves", "(I)V"⟩
abbrev cX9_secondsPass : ByteArray := prog_11_method_28_code
def yX9_secondsPass : MethodName := ⟨RX9, "secondsPass", "(I)I"⟩
abbrev cX9_run : ByteArray := prog_11_method_29_code
def yX9_run : MethodName := ⟨RX9, "run", "(I)I"⟩
abbrev cX9_inZone : ByteArray := prog_11_method_30_code
def yX9_inZone : MethodName := ⟨RX9, "inZone", "(I)Z"⟩
abbrev cX9_reason : ByteArray := prog_11_method_31_code
def yX9_reason : MethodName := ⟨RX9, "reason", "(I)I"⟩
abbrev cX9_isRefused : ByteArray := prog_11_method_32_code
def yX9_isRefused : MethodName := ⟨RX9, "isRefused", "(I)Z"⟩
abbrev cX9_passes : ByteArray := prog_11_method_33_code
def yX9_passes : MethodName := ⟨RX9, "passes", "(I)I"⟩
abbrev cX9_pass : ByteArray := prog_11_method_34_code
def yX9_pass : MethodName := ⟨RX9, "pass", "(I)I"⟩
abbrev cX9_drops : ByteArray := prog_11_method_35_code
def yX9_drops : MethodName := ⟨RX9, "drops", "(II)I"⟩
abbrev cX9_drop : ByteArray := prog_11_method_36_code
def yX9_drop : MethodName := ⟨RX9, "drop", "(II)I"⟩
abbrev cX9_leaves : ByteArray := prog_11_method_37_code
def yX9_leaves : MethodName := ⟨RX9, "leaves", "(I)I"⟩
abbrev cX9_withdraw : ByteArray := prog_11_method_38_code
def yX9_withdraw : MethodName := ⟨RX9, "withdraw", "(I)I"⟩
abbrev cX9_protests : ByteArray := prog_11_method_39_code
def yX9_protests : MethodName := ⟨RX9, "protests", "(III)I"⟩
abbrev cX9_protest : ByteArray := prog_11_method_40_code
def yX9_protest : MethodName := ⟨RX9, "protest", "(III)Z"⟩
abbrev cX9_teamCount : ByteArray := prog_11_method_41_code
def yX9_teamCount : MethodName := ⟨RX9, "teamCount", "()I"⟩
abbrev cX9_runningCount : ByteArray := prog_11_method_42_code
def yX9_runningCount : MethodName := ⟨RX9, "runningCount", "()I"⟩
abbrev cX9_isStarted : ByteArray := prog_11_method_43_code
def yX9_isStarted : MethodName := ⟨RX9, "isStarted", "()Z"⟩
abbrev cX9_isFinished : ByteArray := prog_11_method_44_code
def yX9_isFinished : MethodName := ⟨RX9, "isFinished", "()Z"⟩
abbrev cX9_clock : ByteArray := prog_11_method_45_code
def yX9_clock : MethodName := ⟨RX9, "clock", "()I"⟩
abbrev cX9_length : ByteArray := prog_11_method_46_code
def yX9_length : MethodName := ⟨RX9, "length", "()I"⟩
abbrev cX9_ofTeam : ByteArray := prog_11_method_47_code
def yX9_ofTeam : MethodName := ⟨RX9, "ofTeam", "(II)I"⟩
abbrev cX9_laneOf : ByteArray := prog_11_method_48_code
def yX9_laneOf : MethodName := ⟨RX9, "laneOf", "(I)I"⟩
abbrev cX9_teamInLane : ByteArray := prog_11_method_49_code
def yX9_teamInLane : MethodName := ⟨RX9, "teamInLane", "(I)I"⟩
abbrev cX9_speedOf : ByteArray := prog_11_method_50_code
def yX9_speedOf : MethodName := ⟨RX9, "speedOf", "(II)I"⟩
abbrev cX9_positionOf : ByteArray := prog_11_method_51_code
def yX9_positionOf : MethodName := ⟨RX9, "positionOf", "(I)I"⟩
abbrev cX9_legOf : ByteArray := prog_11_method_52_code
def yX9_legOf : MethodName := ⟨RX9, "legOf", "(I)I"⟩
abbrev cX9_isRunning : ByteArray := prog_11_method_53_code
def yX9_isRunning : MethodName := ⟨RX9, "isRunning", "(I)Z"⟩
abbrev cX9_isInZone : ByteArray := prog_11_method_54_code
def yX9_isInZone : MethodName := ⟨RX9, "isInZone", "(I)Z"⟩
abbrev cX9_standingOf : ByteArray := prog_11_method_55_code
def yX9_standingOf : MethodName := ⟨RX9, "standingOf", "(I)I"⟩
abbrev cX9_penaltyOf : ByteArray := prog_11_method_56_code
def yX9_penaltyOf : MethodName := ⟨RX9, "penaltyOf", "(I)I"⟩
abbrev cX9_hasFoul : ByteArray := prog_11_method_57_code
def yX9_hasFoul : MethodName := ⟨RX9, "hasFoul", "(II)Z"⟩
abbrev cX9_splitOf : ByteArray := prog_11_method_58_code
def yX9_splitOf : MethodName := ⟨RX9, "splitOf", "(II)I"⟩
abbrev cX9_splitSum : ByteArray := prog_11_method_59_code
def yX9_splitSum : MethodName := ⟨RX9, "splitSum", "(I)I"⟩
abbrev cX9_isNoResult : ByteArray := prog_11_method_60_code
def yX9_isNoResult : MethodName := ⟨RX9, "isNoResult", "(I)Z"⟩
abbrev cX9_result : ByteArray := prog_11_method_61_code
def yX9_result : MethodName := ⟨RX9, "result", "(I)I"⟩
abbrev cX9_timeOf : ByteArray := prog_11_method_62_code
def yX9_timeOf : MethodName := ⟨RX9, "timeOf", "(I)I"⟩
abbrev cX9_resultOf : ByteArray := prog_11_method_63_code
def yX9_resultOf : MethodName := ⟨RX9, "resultOf", "(I)I"⟩
abbrev cX9_group : ByteArray := prog_11_method_64_code
def yX9_group : MethodName := ⟨RX9, "group", "(I)I"⟩
abbrev cX9_isAhead : ByteArray := prog_11_method_65_code
def yX9_isAhead : MethodName := ⟨RX9, "isAhead", "(II)Z"⟩
abbrev cX9_rank : ByteArray := prog_11_method_66_code
def yX9_rank : MethodName := ⟨RX9, "rank", "(I)I"⟩
abbrev cX9_teamAtRank : ByteArray := prog_11_method_67_code
def yX9_teamAtRank : MethodName := ⟨RX9, "teamAtRank", "(I)I"⟩
abbrev cX9_rankOf : ByteArray := prog_11_method_68_code
def yX9_rankOf : MethodName := ⟨RX9, "rankOf", "(I)I"⟩
abbrev cX9_meanTime : ByteArray := prog_11_method_69_code
def yX9_meanTime : MethodName := ⟨RX9, "meanTime", "()D"⟩
abbrev cX9_reach : ByteArray := prog_11_method_70_code
def yX9_reach : MethodName := ⟨RX9, "reach", "(III)I"⟩
abbrev cX9_reachByStretches : ByteArray := prog_11_method_71_code
def yX9_reachByStretches : MethodName := ⟨RX9, "reachByStretches", "(III)I"⟩
abbrev cX9_secondsToZone : ByteArray := prog_11_method_72_code
def yX9_secondsToZone : MethodName := ⟨RX9, "secondsToZone", "(I)I"⟩
abbrev cX9_refusalReason : ByteArray := prog_11_method_73_code
def yX9_refusalReason : MethodName := ⟨RX9, "refusalReason", "()I"⟩
abbrev cX9_refusedTeam : ByteArray := prog_11_method_74_code
def yX9_refusedTeam : MethodName := ⟨RX9, "refusedTeam", "()I"⟩
abbrev cX9_puts : ByteArray := prog_11_method_75_code
def yX9_puts : MethodName := ⟨RX9, "puts", "(I)V"⟩
abbrev cX9_number : ByteArray := prog_11_method_76_code
def yX9_number : MethodName := ⟨RX9, "number", "(I)V"⟩
abbrev cX9_writeBanner : ByteArray := prog_11_method_77_code
def yX9_writeBanner : MethodName := ⟨RX9, "writeBanner", "(I)I"⟩
abbrev cX9_bannerAt : ByteArray := prog_11_method_78_code
def yX9_bannerAt : MethodName := ⟨RX9, "bannerAt", "(I)C"⟩
abbrev cX9_type : ByteArray := prog_11_method_79_code
def yX9_type : MethodName := ⟨RX9, "type", "(C)I"⟩
abbrev cX9_sign : ByteArray := prog_11_method_80_code
def yX9_sign : MethodName := ⟨RX9, "sign", "()I"⟩
abbrev cX9_isSign : ByteArray := prog_11_method_81_code
def yX9_isSign : MethodName := ⟨RX9, "isSign", "(I)Z"⟩
abbrev cX9_isNumber : ByteArray := prog_11_method_82_code
def yX9_isNumber : MethodName := ⟨RX9, "isNumber", "(II)Z"⟩
abbrev cX9_isSpaced : ByteArray := prog_11_method_83_code
def yX9_isSpaced : MethodName := ⟨RX9, "isSpaced", "(II)Z"⟩
abbrev cX9_isWord : ByteArray := prog_11_method_84_code
def yX9_isWord : MethodName := ⟨RX9, "isWord", "(Ljava/lang/String;)Z"⟩
abbrev cX9_isKind : ByteArray := prog_11_method_85_code
def yX9_isKind : MethodName := ⟨RX9, "isKind", "(I)Z"⟩
abbrev cX9_readsS : ByteArray := prog_11_method_86_code
def yX9_readsS : MethodName := ⟨RX9, "readsS", "(I)Z"⟩
abbrev cX9_readsP : ByteArray := prog_11_method_87_code
def yX9_readsP : MethodName := ⟨RX9, "readsP", "(I)Z"⟩
abbrev cX9_readsD : ByteArray := prog_11_method_88_code
def yX9_readsD : MethodName := ⟨RX9, "readsD", "(I)Z"⟩
abbrev cX9_readsRest : ByteArray := prog_11_method_89_code
def yX9_readsRest : MethodName := ⟨RX9, "readsRest", "(II)Z"⟩
abbrev cX9_isFirst : ByteArray := prog_11_method_90_code
def yX9_isFirst : MethodName := ⟨RX9, "isFirst", "(I)Z"⟩
abbrev cX9_readsCommand : ByteArray := prog_11_method_91_code
def yX9_readsCommand : MethodName := ⟨RX9, "readsCommand", "()Z"⟩
abbrev cX9_isProgram : ByteArray := prog_11_method_92_code
def yX9_isProgram : MethodName := ⟨RX9, "isProgram", "()Z"⟩
abbrev cX9_does : ByteArray := prog_11_method_93_code
def yX9_does : MethodName := ⟨RX9, "does", "(I)I"⟩
abbrev cX9_execute : ByteArray := prog_11_method_94_code
def yX9_execute : MethodName := ⟨RX9, "execute", "()I"⟩
abbrev cX9_errorPosition : ByteArray := prog_11_method_95_code
def yX9_errorPosition : MethodName := ⟨RX9, "errorPosition", "()I"⟩
abbrev cX9_failedCommand : ByteArray := prog_11_method_96_code
def yX9_failedCommand : MethodName := ⟨RX9, "failedCommand", "()I"⟩
abbrev cX9_undo : ByteArray := prog_11_method_97_code
def yX9_undo : MethodName := ⟨RX9, "undo", "()I"⟩
abbrev cX9_save : ByteArray := prog_11_method_98_code
def yX9_save : MethodName := ⟨RX9, "save", "()I"⟩
abbrev cX9_restore : ByteArray := prog_11_method_99_code
def yX9_restore : MethodName := ⟨RX9, "restore", "()I"⟩
def RJx145de : String := "java/io/Serializable"
def TJx145de : u_T := fun k => match k with
  | _ => ("", "", "", false)
def tyJx145de : Nat → FieldType := fun k => match k with
  | _ => .int
theorem nmJx145de : ∀ a, a < 0 → ∀ b, b < 0 → a ≠ b → (TJx145de a).2.1 ≠ (TJx145de b).2.1 := by decide +kernel
theorem tyJx145de_ok : ∀ k, k < 0 → parseFieldDescriptor (TJx145de k).2.2.1 = some (tyJx145de k) := by decide +kernel
def RJ5 : String := "java/lang/AbstractStringBuilder"
def TJ5 : u_T := fun k => match k with
  | _ => ("", "", "", false)
def tyJ5 : Nat → FieldType := fun k => match k with
  | _ => .int
theorem nmJ5 : ∀ a, a < 0 → ∀ b, b < 0 → a ≠ b → (TJ5 a).2.1 ≠ (TJ5 b).2.1 := by decide +kernel
theorem tyJ5_ok : ∀ k, k < 0 → parseFieldDescriptor (TJ5 k).2.2.1 = some (tyJ5 k) := by decide +kernel
abbrev cJ5_init_d00df : ByteArray := prog_13_method_2_code
def yJ5_init_d00df : MethodName := ⟨RJ5, "<init>", "(I)V"⟩
abbrev cJ5_length_8abf5 : ByteArray := prog_13_method_6_code
def yJ5_length_8abf5 : MethodName := ⟨RJ5, "length", "()I"⟩
abbrev cJ5_ensureCapacityInternal_d00df : ByteArray := prog_13_method_9_code
def yJ5_ensureCapacityInternal_d00df : MethodName := ⟨RJ5, "ensureCapacityInternal", "(I)V"⟩
abbrev cJ5_newCapacity_0f7a4 : ByteArray := prog_13_method_10_code
def yJ5_newCapacity_0f7a4 : MethodName := ⟨RJ5, "newCapacity", "(I)I"⟩
abbrev cJ5_inflate_da8c8 : ByteArray := prog_13_method_11_code
def yJ5_inflate_da8c8 : MethodName := ⟨RJ5, "inflate", "()V"⟩
abbrev cJ5_setLength_d00df : ByteArray := prog_13_method_13_code
def yJ5_setLength_d00df : MethodName := ⟨RJ5, "setLength", "(I)V"⟩
abbrev cJ5_charAt_5068e : ByteArray := prog_13_method_14_code
def yJ5_charAt_5068e : MethodName := ⟨RJ5, "charAt", "(I)C"⟩
abbrev cJ5_append_cf1ce : ByteArray := prog_13_method_22_code
def yJ5_append_cf1ce : MethodName := ⟨RJ5, "append", "(Ljava/lang/String;)Ljava/lang/AbstractStringBuilder;"⟩
abbrev cJ5_appendNull_278bc : ByteArray := prog_13_method_26_code
def yJ5_appendNull_278bc : MethodName := ⟨RJ5, "appendNull", "()Ljava/lang/AbstractStringBuilder;"⟩
abbrev cJ5_append_3fe6f : ByteArray := prog_13_method_31_code
def yJ5_append_3fe6f : MethodName := ⟨RJ5, "append", "(C)Ljava/lang/AbstractStringBuilder;"⟩
abbrev cJ5_append_c97b9 : ByteArray := prog_13_method_32_code
def yJ5_append_c97b9 : MethodName := ⟨RJ5, "append", "(I)Ljava/lang/AbstractStringBuilder;"⟩
abbrev cJ5_getValue_6d5f1 : ByteArray := prog_13_method_64_code
def yJ5_getValue_6d5f1 : MethodName := ⟨RJ5, "getValue", "()[B"⟩
abbrev cJ5_isLatin1_aae02 : ByteArray := prog_13_method_68_code
def yJ5_isLatin1_aae02 : MethodName := ⟨RJ5, "isLatin1", "()Z"⟩
abbrev cJ5_inflateIfNeededFor_a7421 : ByteArray := prog_13_method_71_code
def yJ5_inflateIfNeededFor_a7421 : MethodName := ⟨RJ5, "inflateIfNeededFor", "(Ljava/lang/String;)V"⟩
abbrev cJ5_putStringAt_47b60 : ByteArray := prog_13_method_73_code
def yJ5_putStringAt_47b60 : MethodName := ⟨RJ5, "putStringAt", "(ILjava/lang/String;)V"⟩
def RJx2cfe8 : String := "java/lang/Appendable"
def TJx2cfe8 : u_T := fun k => match k with
  | _ => ("", "", "", false)
def tyJx2cfe8 : Nat → FieldType := fun k => match k with
  | _ => .int
theorem nmJx2cfe8 : ∀ a, a < 0 → ∀ b, b < 0 → a ≠ b → (TJx2cfe8 a).2.1 ≠ (TJx2cfe8 b).2.1 := by decide +kernel
theorem tyJx2cfe8_ok : ∀ k, k < 0 → parseFieldDescriptor (TJx2cfe8 k).2.2.1 = some (tyJx2cfe8 k) := by decide +kernel
def RJx00060 : String := "java/lang/ArrayIndexOutOfBoundsException"
def TJx00060 : u_T := fun k => match k with
  | 0 => ("java/lang/Throwable", "backtrace", "Ljava/lang/Object;", false)
  | 1 => ("java/lang/Throwable", "detailMessage", "Ljava/lang/String;", false)
  | 2 => ("java/lang/Throwable", "cause", "Ljava/lang/Throwable;", false)
  | 3 => ("java/lang/Throwable", "stackTrace", "[Ljava/lang/StackTraceElement;", false)
  | 4 => ("java/lang/Throwable", "depth", "I", false)
  | _ => ("java/lang/Throwable", "suppressedExceptions", "Ljava/util/List;", false)
def tyJx00060 : Nat → FieldType := fun k => match k with
  | 0 => .object "java/lang/Object"
  | 1 => .object "java/lang/String"
  | 2 => .object "java/lang/Throwable"
  | 3 => .array (.object "java/lang/StackTraceElement")
  | 4 => .int
  | _ => .object "java/util/List"
theorem nmJx00060 : ∀ a, a < 6 → ∀ b, b < 6 → a ≠ b → (TJx00060 a).2.1 ≠ (TJx00060 b).2.1 := by decide +kernel
theorem tyJx00060_ok : ∀ k, k < 6 → parseFieldDescriptor (TJx00060 k).2.2.1 = some (tyJx00060 k) := by decide +kernel
abbrev cJx00060_init_a7421 : ByteArray := prog_16_method_2_code
def yJx00060_init_a7421 : MethodName := ⟨RJx00060, "<init>", "(Ljava/lang/String;)V"⟩
abbrev cJx00060_init_d00df : ByteArray := prog_16_method_3_code
def yJx00060_init_d00df : MethodName := ⟨RJx00060, "<init>", "(I)V"⟩
def RJx9f9b0 : String := "java/lang/CharSequence"
def TJx9f9b0 : u_T := fun k => match k with
  | _ => ("", "", "", false)
def tyJx9f9b0 : Nat → FieldType := fun k => match k with
  | _ => .int
theorem nmJx9f9b0 : ∀ a, a < 0 → ∀ b, b < 0 → a ≠ b → (TJx9f9b0 a).2.1 ≠ (TJx9f9b0 b).2.1 := by decide +kernel
theorem tyJx9f9b0_ok : ∀ k, k < 0 → parseFieldDescriptor (TJx9f9b0 k).2.2.1 = some (tyJx9f9b0 k) := by decide +kernel
def RJx8e188 : String := "java/lang/Cloneable"
def TJx8e188 : u_T := fun k => match k with
  | _ => ("", "", "", false)
def tyJx8e188 : Nat → FieldType := fun k => match k with
  | _ => .int
theorem nmJx8e188 : ∀ a, a < 0 → ∀ b, b < 0 → a ≠ b → (TJx8e188 a).2.1 ≠ (TJx8e188 b).2.1 := by decide +kernel
theorem tyJx8e188_ok : ∀ k, k < 0 → parseFieldDescriptor (TJx8e188 k).2.2.1 = some (tyJx8e188 k) := by decide +kernel
def RJxb160c : String := "java/lang/Comparable"
def TJxb160c : u_T := fun k => match k with
  | _ => ("", "", "", false)
def tyJxb160c : Nat → FieldType := fun k => match k with
  | _ => .int
theorem nmJxb160c : ∀ a, a < 0 → ∀ b, b < 0 → a ≠ b → (TJxb160c a).2.1 ≠ (TJxb160c b).2.1 := by decide +kernel
theorem tyJxb160c_ok : ∀ k, k < 0 → parseFieldDescriptor (TJxb160c k).2.2.1 = some (tyJxb160c k) := by decide +kernel
def RJx29ce0 : String := "java/lang/Enum"
def TJx29ce0 : u_T := fun k => match k with
  | _ => ("", "", "", false)
def tyJx29ce0 : Nat → FieldType := fun k => match k with
  | _ => .int
theorem nmJx29ce0 : ∀ a, a < 0 → ∀ b, b < 0 → a ≠ b → (TJx29ce0 a).2.1 ≠ (TJx29ce0 b).2.1 := by decide +kernel
theorem tyJx29ce0_ok : ∀ k, k < 0 → parseFieldDescriptor (TJx29ce0 k).2.2.1 = some (tyJx29ce0 k) := by decide +kernel
abbrev cJx29ce0_ordinal_8abf5 : ByteArray := prog_20_method_2_code
def yJx29ce0_ordinal_8abf5 : MethodName := ⟨RJx29ce0, "ordinal", "()I"⟩
def RJ6 : String := "java/lang/Integer"
def TJ6 : u_T := fun k => match k with
  | _ => ("", "", "", false)
def tyJ6 : Nat → FieldType := fun k => match k with
  | _ => .int
theorem nmJ6 : ∀ a, a < 0 → ∀ b, b < 0 → a ≠ b → (TJ6 a).2.1 ≠ (TJ6 b).2.1 := by decide +kernel
theorem tyJ6_ok : ∀ k, k < 0 → parseFieldDescriptor (TJ6 k).2.2.1 = some (tyJ6 k) := by decide +kernel
abbrev cJ6_getChars_ba4f3 : ByteArray := prog_25_method_12_code
def yJ6_getChars_ba4f3 : MethodName := ⟨RJ6, "getChars", "(II[B)I"⟩
abbrev cJ6_stringSize_0f7a4 : ByteArray := prog_25_method_13_code
def yJ6_stringSize_0f7a4 : MethodName := ⟨RJ6, "stringSize", "(I)I"⟩
def RJ9 : String := "java/lang/Math"
def TJ9 : u_T := fun k => match k with
  | _ => ("", "", "", false)
def tyJ9 : Nat → FieldType := fun k => match k with
  | _ => .int
theorem nmJ9 : ∀ a, a < 0 → ∀ b, b < 0 → a ≠ b → (TJ9 a).2.1 ≠ (TJ9 b).2.1 := by decide +kernel
theorem tyJ9_ok : ∀ k, k < 0 → parseFieldDescriptor (TJ9 k).2.2.1 = some (tyJ9 k) := by decide +kernel
abbrev cJ9_max_7cf53 : ByteArray := prog_26_method_65_code
def yJ9_max_7cf53 : MethodName := ⟨RJ9, "max", "(II)I"⟩
abbrev cJ9_min_7cf53 : ByteArray := prog_26_method_69_code
def yJ9_min_7cf53 : MethodName := ⟨RJ9, "min", "(II)I"⟩
def RJxd2413 : String := "java/lang/Number"
def TJxd2413 : u_T := fun k => match k with
  | _ => ("", "", "", false)
def tyJxd2413 : Nat → FieldType := fun k => match k with
  | _ => .int
theorem nmJxd2413 : ∀ a, a < 0 → ∀ b, b < 0 → a ≠ b → (TJxd2413 a).2.1 ≠ (TJxd2413 b).2.1 := by decide +kernel
theorem tyJxd2413_ok : ∀ k, k < 0 → parseFieldDescriptor (TJxd2413 k).2.2.1 = some (tyJxd2413 k) := by decide +kernel
def RJ0 : String := "java/lang/String"
def TJ0 : u_T := fun k => match k with
  | 0 => ("java/lang/String", "value", "[B", true)
  | 1 => ("java/lang/String", "coder", "B", true)
  | 2 => ("java/lang/String", "hash", "I", false)
  | _ => ("java/lang/String", "hashIsZero", "Z", false)
def tyJ0 : Nat → FieldType := fun k => match k with
  | 0 => .array .byte
  | 1 => .byte
  | 2 => .int
  | _ => .boolean
theorem nmJ0 : ∀ a, a < 4 → ∀ b, b < 4 → a ≠ b → (TJ0 a).2.1 ≠ (TJ0 b).2.1 := by decide +kernel
theorem tyJ0_ok : ∀ k, k < 4 → parseFieldDescriptor (TJ0 k).2.2.1 = some (tyJ0 k) := by decide +kernel
abbrev cJ0_init_81219 : ByteArray := prog_29_method_53_code
def yJ0_init_81219 : MethodName := ⟨RJ0, "<init>", "(Ljava/lang/StringBuilder;)V"⟩
abbrev cJ0_length_8abf5 : ByteArray := prog_29_method_54_code
def yJ0_length_8abf5 : MethodName := ⟨RJ0, "length", "()I"⟩
abbrev cJ0_charAt_5068e : ByteArray := prog_29_method_56_code
def yJ0_charAt_5068e : MethodName := ⟨RJ0, "charAt", "(I)C"⟩
abbrev cJ0_getBytes_840e7 : ByteArray := prog_29_method_147_code
def yJ0_getBytes_840e7 : MethodName := ⟨RJ0, "getBytes", "([BIB)V"⟩
abbrev cJ0_init_db425 : ByteArray := prog_29_method_150_code
def yJ0_init_db425 : MethodName := ⟨RJ0, "<init>", "(Ljava/lang/AbstractStringBuilder;Ljava/lang/Void;)V"⟩
abbrev cJ0_coder_7d493 : ByteArray := prog_29_method_152_code
def yJ0_coder_7d493 : MethodName := ⟨RJ0, "coder", "()B"⟩
abbrev cJ0_isLatin1_aae02 : ByteArray := prog_29_method_154_code
def yJ0_isLatin1_aae02 : MethodName := ⟨RJ0, "isLatin1", "()Z"⟩
abbrev cJ0_checkIndex_df160 : ByteArray := prog_29_method_155_code
def yJ0_checkIndex_df160 : MethodName := ⟨RJ0, "checkIndex", "(II)V"⟩
abbrev cJ0_checkBoundsOffCount_cabcc : ByteArray := prog_29_method_157_code
def yJ0_checkBoundsOffCount_cabcc : MethodName := ⟨RJ0, "checkBoundsOffCount", "(III)I"⟩
abbrev cJ0_checkBoundsBeginEnd_23922 : ByteArray := prog_29_method_158_code
def yJ0_checkBoundsBeginEnd_23922 : MethodName := ⟨RJ0, "checkBoundsBeginEnd", "(III)V"⟩
def RJ4 : String := "java/lang/StringBuilder"
def TJ4 : u_T := fun k => match k with
  | 0 => ("java/lang/AbstractStringBuilder", "value", "[B", false)
  | 1 => ("java/lang/AbstractStringBuilder", "coder", "B", false)
  | 2 => ("java/lang/AbstractStringBuilder", "maybeLatin1", "Z", false)
  | _ => ("java/lang/AbstractStringBuilder", "count", "I", false)
def tyJ4 : Nat → FieldType := fun k => match k with
  | 0 => .array .byte
  | 1 => .byte
  | 2 => .boolean
  | _ => .int
theorem nmJ4 : ∀ a, a < 4 → ∀ b, b < 4 → a ≠ b → (TJ4 a).2.1 ≠ (TJ4 b).2.1 := by decide +kernel
theorem tyJ4_ok : ∀ k, k < 4 → parseFieldDescriptor (TJ4 k).2.2.1 = some (tyJ4 k) := by decide +kernel
abbrev cJ4_init_da8c8 : ByteArray := prog_30_method_1_code
def yJ4_init_da8c8 : MethodName := ⟨RJ4, "<init>", "()V"⟩
abbrev cJ4_append_15ec4 : ByteArray := prog_30_method_7_code
def yJ4_append_15ec4 : MethodName := ⟨RJ4, "append", "(Ljava/lang/String;)Ljava/lang/StringBuilder;"⟩
abbrev cJ4_append_cf468 : ByteArray := prog_30_method_14_code
def yJ4_append_cf468 : MethodName := ⟨RJ4, "append", "(C)Ljava/lang/StringBuilder;"⟩
abbrev cJ4_append_bf812 : ByteArray := prog_30_method_15_code
def yJ4_append_bf812 : MethodName := ⟨RJ4, "append", "(I)Ljava/lang/StringBuilder;"⟩
abbrev cJ4_toString_0e30d : ByteArray := prog_30_method_42_code
def yJ4_toString_0e30d : MethodName := ⟨RJ4, "toString", "()Ljava/lang/String;"⟩
abbrev cJ4_charAt_5068e : ByteArray := prog_30_method_88_code
def yJ4_charAt_5068e : MethodName := ⟨RJ4, "charAt", "(I)C"⟩
abbrev cJ4_setLength_d00df : ByteArray := prog_30_method_89_code
def yJ4_setLength_d00df : MethodName := ⟨RJ4, "setLength", "(I)V"⟩
abbrev cJ4_length_8abf5 : ByteArray := prog_30_method_93_code
def yJ4_length_8abf5 : MethodName := ⟨RJ4, "length", "()I"⟩
def RJx7c733 : String := "java/lang/StringIndexOutOfBoundsException"
def TJx7c733 : u_T := fun k => match k with
  | 0 => ("java/lang/Throwable", "backtrace", "Ljava/lang/Object;", false)
  | 1 => ("java/lang/Throwable", "detailMessage", "Ljava/lang/String;", false)
  | 2 => ("java/lang/Throwable", "cause", "Ljava/lang/Throwable;", false)
  | 3 => ("java/lang/Throwable", "stackTrace", "[Ljava/lang/StackTraceElement;", false)
  | 4 => ("java/lang/Throwable", "depth", "I", false)
  | _ => ("java/lang/Throwable", "suppressedExceptions", "Ljava/util/List;", false)
def tyJx7c733 : Nat → FieldType := fun k => match k with
  | 0 => .object "java/lang/Object"
  | 1 => .object "java/lang/String"
  | 2 => .object "java/lang/Throwable"
  | 3 => .array (.object "java/lang/StackTraceElement")
  | 4 => .int
  | _ => .object "java/util/List"
theorem nmJx7c733 : ∀ a, a < 6 → ∀ b, b < 6 → a ≠ b → (TJx7c733 a).2.1 ≠ (TJx7c733 b).2.1 := by decide +kernel
theorem tyJx7c733_ok : ∀ k, k < 6 → parseFieldDescriptor (TJx7c733 k).2.2.1 = some (tyJx7c733 k) := by decide +kernel
abbrev cJx7c733_init_d00df : ByteArray := prog_31_method_3_code
def yJx7c733_init_d00df : MethodName := ⟨RJx7c733, "<init>", "(I)V"⟩
def RJ1 : String := "java/lang/StringLatin1"
def TJ1 : u_T := fun k => match k with
  | _ => ("", "", "", false)
def tyJ1 : Nat → FieldType := fun k => match k with
  | _ => .int
theorem nmJ1 : ∀ a, a < 0 → ∀ b, b < 0 → a ≠ b → (TJ1 a).2.1 ≠ (TJ1 b).2.1 := by decide +kernel
theorem tyJ1_ok : ∀ k, k < 0 → parseFieldDescriptor (TJ1 k).2.2.1 = some (tyJ1 k) := by decide +kernel
abbrev cJ1_charAt_3b067 : ByteArray := prog_32_method_2_code
def yJ1_charAt_3b067 : MethodName := ⟨RJ1, "charAt", "([BI)C"⟩
abbrev cJ1_canEncode_fc78d : ByteArray := prog_32_method_3_code
def yJ1_canEncode_fc78d : MethodName := ⟨RJ1, "canEncode", "(C)Z"⟩
abbrev cJ1_fillNull_b72d1 : ByteArray := prog_32_method_48_code
def yJ1_fillNull_b72d1 : MethodName := ⟨RJ1, "fillNull", "([BII)V"⟩
abbrev cJ1_inflate_0e8fd : ByteArray := prog_32_method_50_code
def yJ1_inflate_0e8fd : MethodName := ⟨RJ1, "inflate", "([BI[BII)V"⟩
def RJ2 : String := "java/lang/StringUTF16"
def TJ2 : u_T := fun k => match k with
  | _ => ("", "", "", false)
def tyJ2 : Nat → FieldType := fun k => match k with
  | _ => .int
theorem nmJ2 : ∀ a, a < 0 → ∀ b, b < 0 → a ≠ b → (TJ2 a).2.1 ≠ (TJ2 b).2.1 := by decide +kernel
theorem tyJ2_ok : ∀ k, k < 0 → parseFieldDescriptor (TJ2 k).2.2.1 = some (tyJ2 k) := by decide +kernel
abbrev cJ2_newBytesFor_77867 : ByteArray := prog_33_method_2_code
def yJ2_newBytesFor_77867 : MethodName := ⟨RJ2, "newBytesFor", "(I)[B"⟩
abbrev cJ2_newBytesLength_0f7a4 : ByteArray := prog_33_method_3_code
def yJ2_newBytesLength_0f7a4 : MethodName := ⟨RJ2, "newBytesLength", "(I)I"⟩
abbrev cJ2_putChar_b72d1 : ByteArray := prog_33_method_4_code
def yJ2_putChar_b72d1 : MethodName := ⟨RJ2, "putChar", "([BII)V"⟩
abbrev cJ2_getChar_3b067 : ByteArray := prog_33_method_5_code
def yJ2_getChar_3b067 : MethodName := ⟨RJ2, "getChar", "([BI)C"⟩
abbrev cJ2_length_9d52b : ByteArray := prog_33_method_6_code
def yJ2_length_9d52b : MethodName := ⟨RJ2, "length", "([B)I"⟩
abbrev cJ2_coderFromArrayLen_85cad : ByteArray := prog_33_method_15_code
def yJ2_coderFromArrayLen_85cad : MethodName := ⟨RJ2, "coderFromArrayLen", "([BI)B"⟩
abbrev cJ2_compress_39247 : ByteArray := prog_33_method_17_code
def yJ2_compress_39247 : MethodName := ⟨RJ2, "compress", "([BII)[B"⟩
abbrev cJ2_compress_5af95 : ByteArray := prog_33_method_22_code
def yJ2_compress_5af95 : MethodName := ⟨RJ2, "compress", "([BI[BII)I"⟩
abbrev cJ2_fillNull_b72d1 : ByteArray := prog_33_method_70_code
def yJ2_fillNull_b72d1 : MethodName := ⟨RJ2, "fillNull", "([BII)V"⟩
abbrev cJ2_putCharSB_b72d1 : ByteArray := prog_33_method_71_code
def yJ2_putCharSB_b72d1 : MethodName := ⟨RJ2, "putCharSB", "([BII)V"⟩
abbrev cJ2_getChars_46870 : ByteArray := prog_33_method_77_code
def yJ2_getChars_46870 : MethodName := ⟨RJ2, "getChars", "(III[B)I"⟩
abbrev cJ2_putCharsAt_cd4e5 : ByteArray := prog_33_method_81_code
def yJ2_putCharsAt_cd4e5 : MethodName := ⟨RJ2, "putCharsAt", "([BICCCC)I"⟩
abbrev cJ2_charAt_3b067 : ByteArray := prog_33_method_83_code
def yJ2_charAt_3b067 : MethodName := ⟨RJ2, "charAt", "([BI)C"⟩
abbrev cJ2_inflate_0e8fd : ByteArray := prog_33_method_86_code
def yJ2_inflate_0e8fd : MethodName := ⟨RJ2, "inflate", "([BI[BII)V"⟩
abbrev cJ2_getChars_ba4f3 : ByteArray := prog_33_method_89_code
def yJ2_getChars_ba4f3 : MethodName := ⟨RJ2, "getChars", "(II[B)I"⟩
abbrev cJ2_checkIndex_2214a : ByteArray := prog_33_method_91_code
def yJ2_checkIndex_2214a : MethodName := ⟨RJ2, "checkIndex", "(I[B)V"⟩
abbrev cJ2_checkBoundsBeginEnd_d044e : ByteArray := prog_33_method_93_code
def yJ2_checkBoundsBeginEnd_d044e : MethodName := ⟨RJ2, "checkBoundsBeginEnd", "(II[B)V"⟩
abbrev cJ2_checkBoundsOffCount_d044e : ByteArray := prog_33_method_94_code
def yJ2_checkBoundsOffCount_d044e : MethodName := ⟨RJ2, "checkBoundsOffCount", "(II[B)V"⟩
def RJ10 : String := "java/lang/System"
def TJ10 : u_T := fun k => match k with
  | _ => ("", "", "", false)
def tyJ10 : Nat → FieldType := fun k => match k with
  | _ => .int
theorem nmJ10 : ∀ a, a < 0 → ∀ b, b < 0 → a ≠ b → (TJ10 a).2.1 ≠ (TJ10 b).2.1 := by decide +kernel
theorem tyJ10_ok : ∀ k, k < 0 → parseFieldDescriptor (TJ10 k).2.2.1 = some (tyJ10 k) := by decide +kernel
def RJxfd54e : String := "java/lang/constant/Constable"
def TJxfd54e : u_T := fun k => match k with
  | _ => ("", "", "", false)
def tyJxfd54e : Nat → FieldType := fun k => match k with
  | _ => .int
theorem nmJxfd54e : ∀ a, a < 0 → ∀ b, b < 0 → a ≠ b → (TJxfd54e a).2.1 ≠ (TJxfd54e b).2.1 := by decide +kernel
theorem tyJxfd54e_ok : ∀ k, k < 0 → parseFieldDescriptor (TJxfd54e k).2.2.1 = some (tyJxfd54e k) := by decide +kernel
def RJx3cf43 : String := "java/lang/constant/ConstantDesc"
def TJx3cf43 : u_T := fun k => match k with
  | _ => ("", "", "", false)
def tyJx3cf43 : Nat → FieldType := fun k => match k with
  | _ => .int
theorem nmJx3cf43 : ∀ a, a < 0 → ∀ b, b < 0 → a ≠ b → (TJx3cf43 a).2.1 ≠ (TJx3cf43 b).2.1 := by decide +kernel
theorem tyJx3cf43_ok : ∀ k, k < 0 → parseFieldDescriptor (TJx3cf43 k).2.2.1 = some (tyJx3cf43 k) := by decide +kernel
def RJ7 : String := "java/util/Arrays"
def TJ7 : u_T := fun k => match k with
  | _ => ("", "", "", false)
def tyJ7 : Nat → FieldType := fun k => match k with
  | _ => .int
theorem nmJ7 : ∀ a, a < 0 → ∀ b, b < 0 → a ≠ b → (TJ7 a).2.1 ≠ (TJ7 b).2.1 := by decide +kernel
theorem tyJ7_ok : ∀ k, k < 0 → parseFieldDescriptor (TJ7 k).2.2.1 = some (tyJ7 k) := by decide +kernel
abbrev cJ7_rangeCheck_23922 : ByteArray := prog_39_method_30_code
def yJ7_rangeCheck_23922 : MethodName := ⟨RJ7, "rangeCheck", "(III)V"⟩
abbrev cJ7_fill_eb02e : ByteArray := prog_39_method_110_code
def yJ7_fill_eb02e : MethodName := ⟨RJ7, "fill", "([BIIB)V"⟩
abbrev cJ7_copyOf_9075b : ByteArray := prog_39_method_121_code
def yJ7_copyOf_9075b : MethodName := ⟨RJ7, "copyOf", "([BI)[B"⟩
abbrev cJ7_checkLength_df160 : ByteArray := prog_39_method_131_code
def yJ7_checkLength_df160 : MethodName := ⟨RJ7, "checkLength", "(II)V"⟩
abbrev cJ7_copyOfRange_39247 : ByteArray := prog_39_method_132_code
def yJ7_copyOfRange_39247 : MethodName := ⟨RJ7, "copyOfRange", "([BII)[B"⟩
abbrev cJ7_copyOfRangeByte_39247 : ByteArray := prog_39_method_133_code
def yJ7_copyOfRangeByte_39247 : MethodName := ⟨RJ7, "copyOfRangeByte", "([BII)[B"⟩
def RJ8 : String := "jdk/internal/util/ArraysSupport"
def TJ8 : u_T := fun k => match k with
  | _ => ("", "", "", false)
def tyJ8 : Nat → FieldType := fun k => match k with
  | _ => .int
theorem nmJ8 : ∀ a, a < 0 → ∀ b, b < 0 → a ≠ b → (TJ8 a).2.1 ≠ (TJ8 b).2.1 := by decide +kernel
theorem tyJ8_ok : ∀ k, k < 0 → parseFieldDescriptor (TJ8 k).2.2.1 = some (tyJ8 k) := by decide +kernel
abbrev cJ8_newLength_cabcc : ByteArray := prog_41_method_27_code
def yJ8_newLength_cabcc : MethodName := ⟨RJ8, "newLength", "(III)I"⟩
abbrev cJ8_hugeLength_7cf53 : ByteArray := prog_41_method_28_code
def yJ8_hugeLength_7cf53 : MethodName := ⟨RJ8, "hugeLength", "(II)I"⟩
def RJ3 : String := "jdk/internal/util/Preconditions"
def TJ3 : u_T := fun k => match k with
  | _ => ("", "", "", false)
def tyJ3 : Nat → FieldType := fun k => match k with
  | _ => .int
theorem nmJ3 : ∀ a, a < 0 → ∀ b, b < 0 → a ≠ b → (TJ3 a).2.1 ≠ (TJ3 b).2.1 := by decide +kernel
theorem tyJ3_ok : ∀ k, k < 0 → parseFieldDescriptor (TJ3 k).2.2.1 = some (tyJ3 k) := by decide +kernel
abbrev cJ3_checkIndex_8e157 : ByteArray := prog_42_method_11_code
def yJ3_checkIndex_8e157 : MethodName := ⟨RJ3, "checkIndex", "(IILjava/util/function/BiFunction;)I"⟩
abbrev cJ3_checkFromToIndex_8c36e : ByteArray := prog_42_method_12_code
def yJ3_checkFromToIndex_8c36e : MethodName := ⟨RJ3, "checkFromToIndex", "(IIILjava/util/function/BiFunction;)I"⟩
abbrev cJ3_checkFromIndexSize_8c36e : ByteArray := prog_42_method_13_code
def yJ3_checkFromIndexSize_8c36e : MethodName := ⟨RJ3, "checkFromIndexSize", "(IIILjava/util/function/BiFunction;)I"⟩
def RL : String := "QuillRelayLaw"
abbrev cL_addTeam : ByteArray := method_3_code
def yL_addTeam : MethodName := ⟨RL, "addTeam", "(LQuillRelay;[J)I"⟩
abbrev cL_setSpeed : ByteArray := method_4_code
def yL_setSpeed : MethodName := ⟨RL, "setSpeed", "(LQuillRelay;III[J)I"⟩
abbrev cL_setLength : ByteArray := method_5_code
def yL_setLength : MethodName := ⟨RL, "setLength", "(LQuillRelay;I[J)I"⟩
abbrev cL_drawLanes : ByteArray := method_6_code
def yL_drawLanes : MethodName := ⟨RL, "drawLanes", "(LQuillRelay;I[J)I"⟩
abbrev cL_start : ByteArray := method_7_code
def yL_start : MethodName := ⟨RL, "start", "(LQuillRelay;[J)I"⟩
abbrev cL_run : ByteArray := method_8_code
def yL_run : MethodName := ⟨RL, "run", "(LQuillRelay;I[J)I"⟩
abbrev cL_pass : ByteArray := method_9_code
def yL_pass : MethodName := ⟨RL, "pass", "(LQuillRelay;I[J)I"⟩
abbrev cL_drop : ByteArray := method_10_code
def yL_drop : MethodName := ⟨RL, "drop", "(LQuillRelay;II[J)I"⟩
abbrev cL_withdraw : ByteArray := method_11_code
def yL_withdraw : MethodName := ⟨RL, "withdraw", "(LQuillRelay;I[J)I"⟩
abbrev cL_protest : ByteArray := method_12_code
def yL_protest : MethodName := ⟨RL, "protest", "(LQuillRelay;III[J)I"⟩
abbrev cL_laneOf : ByteArray := method_13_code
def yL_laneOf : MethodName := ⟨RL, "laneOf", "(LQuillRelay;I[J)I"⟩
abbrev cL_teamInLane : ByteArray := method_14_code
def yL_teamInLane : MethodName := ⟨RL, "teamInLane", "(LQuillRelay;I[J)I"⟩
abbrev cL_speedOf : ByteArray := method_15_code
def yL_speedOf : MethodName := ⟨RL, "speedOf", "(LQuillRelay;II[J)I"⟩
abbrev cL_positionOf : ByteArray := method_16_code
def yL_positionOf : MethodName := ⟨RL, "positionOf", "(LQuillRelay;I[J)I"⟩
abbrev cL_legOf : ByteArray := method_17_code
def yL_legOf : MethodName := ⟨RL, "legOf", "(LQuillRelay;I[J)I"⟩
abbrev cL_isRunning : ByteArray := method_18_code
def yL_isRunning : MethodName := ⟨RL, "isRunning", "(LQuillRelay;I[J)I"⟩
abbrev cL_isInZone : ByteArray := method_19_code
def yL_isInZone : MethodName := ⟨RL, "isInZone", "(LQuillRelay;I[J)I"⟩
abbrev cL_standingOf : ByteArray := method_20_code
def yL_standingOf : MethodName := ⟨RL, "standingOf", "(LQuillRelay;I[J)I"⟩
abbrev cL_penaltyOf : ByteArray := method_21_code
def yL_penaltyOf : MethodName := ⟨RL, "penaltyOf", "(LQuillRelay;I[J)I"⟩
abbrev cL_hasFoul : ByteArray := method_22_code
def yL_hasFoul : MethodName := ⟨RL, "hasFoul", "(LQuillRelay;II[J)I"⟩
abbrev cL_splitOf : ByteArray := method_23_code
def yL_splitOf : MethodName := ⟨RL, "splitOf", "(LQuillRelay;II[J)I"⟩
abbrev cL_splitSum : ByteArray := method_24_code
def yL_splitSum : MethodName := ⟨RL, "splitSum", "(LQuillRelay;I[J)I"⟩
abbrev cL_timeOf : ByteArray := method_25_code
def yL_timeOf : MethodName := ⟨RL, "timeOf", "(LQuillRelay;I[J)I"⟩
abbrev cL_resultOf : ByteArray := method_26_code
def yL_resultOf : MethodName := ⟨RL, "resultOf", "(LQuillRelay;I[J)I"⟩
abbrev cL_teamAtRank : ByteArray := method_27_code
def yL_teamAtRank : MethodName := ⟨RL, "teamAtRank", "(LQuillRelay;I[J)I"⟩
abbrev cL_rankOf : ByteArray := method_28_code
def yL_rankOf : MethodName := ⟨RL, "rankOf", "(LQuillRelay;I[J)I"⟩
abbrev cL_meanTime : ByteArray := method_29_code
def yL_meanTime : MethodName := ⟨RL, "meanTime", "(LQuillRelay;[D)I"⟩
abbrev cL_reach : ByteArray := method_30_code
def yL_reach : MethodName := ⟨RL, "reach", "(LQuillRelay;III[J)I"⟩
abbrev cL_reachByStretches : ByteArray := method_31_code
def yL_reachByStretches : MethodName := ⟨RL, "reachByStretches", "(LQuillRelay;III[J)I"⟩
abbrev cL_secondsToZone : ByteArray := method_32_code
def yL_secondsToZone : MethodName := ⟨RL, "secondsToZone", "(LQuillRelay;I[J)I"⟩
abbrev cL_refusalReason : ByteArray := method_33_code
def yL_refusalReason : MethodName := ⟨RL, "refusalReason", "(LQuillRelay;[J)I"⟩
abbrev cL_refusedTeam : ByteArray := method_34_code
def yL_refusedTeam : MethodName := ⟨RL, "refusedTeam", "(LQuillRelay;[J)I"⟩
abbrev cL_writeBanner : ByteArray := method_35_code
def yL_writeBanner : MethodName := ⟨RL, "writeBanner", "(LQuillRelay;I[J)I"⟩
abbrev cL_bannerAt : ByteArray := method_36_code
def yL_bannerAt : MethodName := ⟨RL, "bannerAt", "(LQuillRelay;I[J)I"⟩
abbrev cL_type : ByteArray := method_37_code
def yL_type : MethodName := ⟨RL, "type", "(LQuillRelay;C[J)I"⟩
abbrev cL_execute : ByteArray := method_38_code
def yL_execute : MethodName := ⟨RL, "execute", "(LQuillRelay;[J)I"⟩
abbrev cL_errorPosition : ByteArray := method_39_code
def yL_errorPosition : MethodName := ⟨RL, "errorPosition", "(LQuillRelay;[J)I"⟩
abbrev cL_failedCommand : ByteArray := method_40_code
def yL_failedCommand : MethodName := ⟨RL, "failedCommand", "(LQuillRelay;[J)I"⟩
abbrev cL_undo : ByteArray := method_41_code
def yL_undo : MethodName := ⟨RL, "undo", "(LQuillRelay;[J)I"⟩
abbrev cL_restore : ByteArray := method_42_code
def yL_restore : MethodName := ⟨RL, "restore", "(LQuillRelay;[J)I"⟩
abbrev cL_law : ByteArray := code
def yL_law : MethodName := ⟨RL, "law", "([I)Z"⟩
abbrev vwCl : List vw_C := [(RJ0, TJ0, 4), (RJ4, TJ4, 4), (RJx00060, TJx00060, 6), (RJx7c733, TJx7c733, 6), (RX2, TX2, 3), (RX3, TX3, 6), (RX4, TX4, 4), (RX6, TX6, 14), (RX8, TX8, 11), (RX9, TX9, 19)]
end
section
/-! ===== BEGIN words of one list among another's, by their places ===== -/
theorem goodIn_r {big : List Cond} (ws : List Cond) (ps : List Nat) (hp : ws = ps.filterMap (fun i => big[i]?)) (h : ws.all goodWord = true) : GoodIn big ws := by
  intro w hw
  have h1 := List.all_eq_true.mp h w hw
  rw [hp] at hw
  obtain ⟨i, -, hi⟩ := List.mem_filterMap.mp hw
  have hm : w ∈ big := by first | exact List.mem_of_getElem? hi | exact List.getElem?_mem hi
  exact ⟨hm, good_of_word h1⟩
theorem goodIn_app {big a b : List Cond} (ha : GoodIn big a) (hb : GoodIn big b) : GoodIn big (a ++ b) := fun w h => (List.mem_append.mp h).elim (ha w) (hb w)
theorem goodIn_ca {big a b : List Cond} {c : Cond} (ha : GoodIn big (c :: a)) (hb : GoodIn big b) : GoodIn big (c :: (a ++ b)) := fun w h => (List.mem_cons.mp h).elim (fun e => ha w (List.mem_cons.mpr (Or.inl e))) (fun h => (List.mem_append.mp h).elim (fun h => ha w (List.mem_cons.mpr (Or.inr h))) (hb w))
theorem goodIn_sub {big ws : List Cond} (hm : ∀ w ∈ ws, w ∈ big) (h : ws.all goodWord = true) : GoodIn big ws := fun w hw => ⟨hm w hw, good_of_word (List.all_eq_true.mp h w hw)⟩
/-! ===== END ===== -/

/-! ===== BEGIN exceptions that leave a method, and their catching by the caller (launches without stack traces) ===== -/
section VXA
/-! The laws vx_back, vx_callV, vx_callS, vx_callSW, vx_throw0, vx_throwS follow proofs of the library, with one case more: JvmDerived/Free/Laws.lean (Back.of_free), Shelf42/LK1.lean (callV, callS), Shelf/KitTraced.lean (throwNew0V, throwNewS). -/
/-- where a method has thrown q: the class by its name, the cell, what was written, the world -/
def vx_T (XC : String → State → State → Prop) (st : State) (q : Addr) (t : State) (mc ms : Nat) (free : Addr → Prop) : Prop :=
  ∃ (E : String) (ce : Cell) (L : List Loc), XC E st t ∧ t.heap[q]? = some ce ∧ ce.vm = .none ∧ st.vm.findClass E = some ce.cls ∧ st.WarmedH t.vm ∧ st.sameButNew ({ t with vm := st.vm } : State) L mc ms ∧ ∀ z ∈ L, free z.base
def vx_Q (Qc : Array Value → State → Outcome → State → Prop) (XC : String → State → State → Prop) (mc ms : Nat) (free : Addr → Prop) : Array Value → State → Outcome → State → Prop := fun a st o t =>
  (Qc a st o t ∧ ∃ L, FrameEnd st o t L mc ms ∧ ∀ q ∈ L, free q.base) ∨ ∃ q, o = .threw q ∧ vx_T XC st q t mc ms free
/-- a callee that returns or throws -/
def vx_Met (l : Launch) (y : MethodName) (ws : List Cond) (rm : Room) (Pc : Array Value → State → Prop) (Qc : Array Value → State → Outcome → State → Prop) (XC : String → State → State → Prop) (mc ms : Nat) (free : Addr → Prop) : Prop :=
  MetFree l y (headSpec ws rm) Pc (fun _ _ _ _ _ => True) (vx_Q Qc XC mc ms free)
def vx_Post (XC : String → State → State → Prop) (mc ms : Nat) (free : Addr → Prop) : Pt → Array Value → Addr → Pt → Prop := fun A a q B =>
  ∃ (g : JFrame) (mk : MethodId) (t : State) (L : List Loc) (E : String) (ce : Cell), B.U.heap = t.heap ∧ B.U.vm = t.vm ∧ XC E (A.U.calling g mk a) t ∧ t.heap[q]? = some ce ∧ ce.vm = .none ∧ A.U.vm.findClass E = some ce.cls ∧ B.locs = A.locs ++ L ∧ (∀ z ∈ L, free z.base) ∧ B.cells = A.cells + mc ∧ B.slots = A.slots + ms
def vx_Back (l : Launch) (R : Room) (p : Program) (e : Env) (below : List Frame) (s : State) (sargs : Array Value) (y : MethodName) (len W9 : Nat)
    (Pre : Pt → Array Value → Prop) (Post : Pt → Array Value → Option Value → Pt → Prop) (PostX : Pt → Array Value → Addr → Pt → Prop) : Prop :=
  ∀ (m : MethodId) (meth : Method) (c : Code) (A : Pt) (g : JFrame) (ig : Instr) (mk : MethodId) (a : Array Value),
    Stand p l e R s m sargs below meth c A.U A.locs A.cells A.slots → g.method = m → g.locals.size = c.maxLocals → decode c.code g.pc = .ok (ig, len) →
    2 * g.monitorRoom + (g.stack.map fun v => v.category).sum ≤ W9 → A.U.methodNamed? y = some mk → Pre A a →
    (∃ (v : Option Value) (B : Pt), Stand p l e R s m sargs below meth c B.U B.locs B.cells B.slots ∧ Post A a v B ∧
      Steps p.tables e below (doInvoke e (A.U.setTop g) [] mk a).1 (B.U.setTop { g with pc := g.pc + len, stack := v.toList ++ g.stack })) ∨
    (∃ (q : Addr) (B : Pt), Stand p l e R s m sargs below meth c B.U B.locs B.cells B.slots ∧ PostX A a q B ∧
      Steps p.tables e below (doInvoke e (A.U.setTop g) [] mk a).1 ((B.U.setTop g).pushFrame (.throwing q)))
section Payer
variable {l : Launch} {R : Room} {p : Program} {e : Env} {below : List Frame} {s : State} {sargs : Array Value} {y : MethodName} {len W9 : Nat}
theorem vx_back {ws : List Cond} {rm : Room} {Pc : Array Value → State → Prop} {Qc : Array Value → State → Outcome → State → Prop} {XC : String → State → State → Prop} {mc ms : Nat} {free : Addr → Prop} {bytes : ByteArray} {maxL : Nat} {ret : Option FieldType}
    (hM : vx_Met l y ws rm Pc Qc XC mc ms free) (hblind : FrameBlind Pc) (hrc : rm.cells = mc) (hrs : rm.slots = ms)
    (hframes : rm.frames + 1 ≤ R.frames) (hlocals : W9 + (maxL + 11) + rm.locals ≤ R.locals)
    (hws : ∀ w ∈ ws, ∀ a' U, s.WarmedH U.vm → w.before a' U = true) (hcode : Cond.code y bytes maxL ret ∈ ws) (hinit : ∀ a' U, s.WarmedH U.vm → (Cond.initialized y.cls).before a' U = true) :
    vx_Back l R p e below s sargs y len W9 (PreOf R mc ms Pc) (PostOf Qc mc ms free) (vx_Post XC mc ms free) := by
  intro m meth c A g ig mk a X hg hsize hdg hW hn hp
  have h1 : (headSpec ws rm).pre.before a A.U = true := atoms_intro fun w hw => hws w hw _ _ X.warmed
  have h2 : (Cond.code y bytes maxL ret).before a A.U = true := hws _ hcode _ _ X.warmed
  have h3 : (Cond.initialized y.cls).before a A.U = true := hinit _ _ X.warmed
  have h4 : A.cells + (headSpec ws rm).room.cells ≤ R.cells := by rw [show (headSpec ws rm).room.cells = mc from hrc]; exact hp.1
  have h5 : A.slots + (headSpec ws rm).room.slots ≤ R.slots := by rw [show (headSpec ws rm).room.slots = ms from hrs]; exact hp.2.1
  have hPc : Pc a (A.U.calling g mk a) := hblind _ _ _ _ hp.2.2
  obtain ⟨U, Ls, c0, s0⟩ := A
  dsimp only [Pt.U, Pt.locs, Pt.cells, Pt.slots] at h1 h2 h3 h4 h5 X hn hPc ⊢
  obtain ⟨methY, cY, hmY, hcY, -, hlY, -, -, -, -⟩ := Cond.code_spec hn h2
  obtain ⟨kY, hkY, -⟩ := className_of_methodNamed hn
  have hinitY : kY.init = .initialized := Cond.initialized_spec (findClass_of_methodNamed hn) hkY h3
  have h : At U g.method c below := by rw [hg]; exact X.here
  have hlocals9 : W9 + (maxL + 11) + (headSpec ws rm).room.locals ≤ R.locals := hlocals
  have happ : (headSpec ws rm).appliesLoose y e.platform (U.calling g mk a) = true :=
    Spec.appliesLoose_calling (g := g) h hdg hn hkY hinitY
      (X.room_calling (g := g) (R' := (headSpec ws rm).room) hsize hmY hcY hframes (by rw [hlY]; omega) h4 h5) h1
  obtain ⟨mid, hmid⟩ := h.above
  have hfr : (U.setTop g).frames = (.java g :: mid) ++ below := by rw [State.frames_setTop' g h.top, hmid]; rfl
  obtain ⟨o, s₂, hsteps, -, hend, hq⟩ := Steps.callFree hM p X.admits X.cas X.clock (acts := []) hfr happ hPc trivial
  have hq' : vx_Q Qc XC mc ms free a (U.calling g mk a) o s₂ := hq
  rw [State.frames_setTop' g h.top] at hend
  obtain ⟨g₀, hg0⟩ := Option.isSome_iff_exists.mp h.top
  obtain ⟨r, hr⟩ := State.topJava?_eq_some.mp hg0
  have hr' : (({ U with heap := s₂.heap, slotsUsed := s₂.slotsUsed } : State).setVm s₂.vm).frames = .java g₀ :: r := hr
  rcases hq' with ⟨hqc, L, hfe, hL⟩ | ⟨q, rfl, E, ce, L, hx, hce, hcv, hcl, hW₂, hsm, hL⟩
  · obtain ⟨⟨v, rfl⟩, hW₂, e2, q2, q3, q4, q5, q6⟩ := id hfe
    have e3 : s₂ = ({ (U.calling g mk a).setFrames s₂.frames with heap := s₂.heap, slotsUsed := s₂.slotsUsed } : State).setVm s₂.vm := by
      have : s₂ = ({ s₂ with vm := (U.calling g mk a).vm } : State).setVm s₂.vm := rfl
      rw [e2] at this
      exact this
    obtain ⟨c₂, i₂, len₂, hc₂, hd₂, hf₂⟩ := hend
    have hW' : U.WarmedH s₂.vm := hW₂
    have hcc : c₂ = c := by
      have h1 : s₂.code? g.method = U.code? g.method := by
        rw [State.code?_eq, State.code?_eq, hW'.alike.method?]
      exact Option.some.inj (hc₂.symm.trans (h1.trans h.code))
    subst hcc
    have hlen : len₂ = len := by rw [hdg] at hd₂; cases hd₂; rfl
    subst hlen
    have hs₂ : s₂ = (({ U with heap := s₂.heap, slotsUsed := s₂.slotsUsed } : State).setVm s₂.vm).setTop { g with pc := g.pc + len₂, stack := v.toList ++ g.stack } := by
      refine e3.trans ?_
      rw [hf₂, State.calling_eq h.top, State.setFrames_setFrames, State.setTop_of_frames _ hr', hr]
      rfl
    have hsame : U.sameButNew ({ U with heap := s₂.heap, slotsUsed := s₂.slotsUsed } : State) L mc ms := by
      refine ⟨?_, q2, q3, q4, q5, q6⟩
      obtain ⟨t, ht, -⟩ := State.frames_cons hr
      show ({ U with heap := s₂.heap, slotsUsed := s₂.slotsUsed } : State) = { U.setFrames U.frames with heap := s₂.heap, slotsUsed := s₂.slotsUsed }
      rw [State.setFrames_self ht]
    subst hg
    refine Or.inl ⟨v, ⟨(({ U with heap := s₂.heap, slotsUsed := s₂.slotsUsed } : State).setVm s₂.vm), Ls ++ L, c0 + mc, s0 + ms⟩,
      ⟨X.admits, X.cas, X.clock, X.frames, X.room, X.hears, X.method, X.code, (X.here.setHeapUsed s₂.heap s₂.slotsUsed).setVm hW'.alike, X.tail, State.WarmedH.trans X.warmed hW', X.limits, X.bytes, X.same.trans (hsame.setVm s.vm)⟩,
      ⟨g, mk, s₂, L, rfl, rfl, hqc, rfl, hL, rfl, rfl⟩, ?_⟩
    show Steps p.tables e below _ ((({ U with heap := s₂.heap, slotsUsed := s₂.slotsUsed } : State).setVm s₂.vm).setTop { g with pc := g.pc + len₂, stack := v.toList ++ g.stack })
    rw [← hs₂]
    exact hsteps
  · obtain ⟨e2, q2, q3, q4, q5, q6⟩ := id hsm
    have e3 : s₂ = ({ (U.calling g mk a).setFrames s₂.frames with heap := s₂.heap, slotsUsed := s₂.slotsUsed } : State).setVm s₂.vm := by
      have : s₂ = ({ s₂ with vm := (U.calling g mk a).vm } : State).setVm s₂.vm := rfl
      rw [e2] at this
      exact this
    have hf₂ : s₂.frames = .throwing q :: .java g :: U.frames.tail := hend
    have hW' : U.WarmedH s₂.vm := hW₂
    have hs₂ : s₂ = ((({ U with heap := s₂.heap, slotsUsed := s₂.slotsUsed } : State).setVm s₂.vm).setTop g).pushFrame (.throwing q) := by
      refine e3.trans ?_
      rw [hf₂, State.calling_eq h.top, State.setFrames_setFrames, State.pushFrame, State.frames_setTop _ hr', State.setTop_of_frames _ hr', State.setFrames_setFrames, hr]
      rfl
    have hsame : U.sameButNew ({ U with heap := s₂.heap, slotsUsed := s₂.slotsUsed } : State) L mc ms := by
      refine ⟨?_, q2, q3, q4, q5, q6⟩
      obtain ⟨t, ht, -⟩ := State.frames_cons hr
      show ({ U with heap := s₂.heap, slotsUsed := s₂.slotsUsed } : State) = { U.setFrames U.frames with heap := s₂.heap, slotsUsed := s₂.slotsUsed }
      rw [State.setFrames_self ht]
    subst hg
    refine Or.inr ⟨q, ⟨(({ U with heap := s₂.heap, slotsUsed := s₂.slotsUsed } : State).setVm s₂.vm), Ls ++ L, c0 + mc, s0 + ms⟩,
      ⟨X.admits, X.cas, X.clock, X.frames, X.room, X.hears, X.method, X.code, (X.here.setHeapUsed s₂.heap s₂.slotsUsed).setVm hW'.alike, X.tail, State.WarmedH.trans X.warmed hW', X.limits, X.bytes, X.same.trans (hsame.setVm s.vm)⟩,
      ⟨g, mk, s₂, L, E, ce, rfl, rfl, hx, hce, hcv, hcl, rfl, hL, rfl, rfl⟩, ?_⟩
    show Steps p.tables e below _ (((({ U with heap := s₂.heap, slotsUsed := s₂.slotsUsed } : State).setVm s₂.vm).setTop g).pushFrame (.throwing q))
    rw [← hs₂]
    exact hsteps
end Payer
section Calls
variable {p : Program} {l : Launch} {e : Env} {R : Room} {s : State} {m : MethodId} {args : Array Value} {below : List Frame} {meth : Method} {c : Code} {T : State} {locs : List Loc} {cells slots : Nat}
theorem vx_callV (X : Stand p l e R s m args below meth c T locs cells slots) (hexec : p.tables.exec = Jvm.exec) {own C : String} {index : Nat} {y : MethodName} {bytes : ByteArray} {maxL : Nat} {ret : Option FieldType}
    (hown : s.vm.findClass own = some m.cls) (hlink : (Cond.methodLink own index y).before args s = true) (hinst : (Cond.instanceMethod y).before args s = true) (hsel : (Cond.selects C y y).before args s = true)
    (hcode : (Cond.code y bytes maxL ret).before args s = true) (hy : y.cls ≠ "java/lang/invoke/MethodHandle" ∧ y.cls ≠ "java/lang/invoke/VarHandle")
    {W9 : Nat} {Pre : Pt → Array Value → Prop} {Post : Pt → Array Value → Option Value → Pt → Prop} {PostX : Pt → Array Value → Addr → Pt → Prop} (hK : vx_Back l R p e below s args y 3 W9 Pre Post PostX)
    {b : Addr} {cellB : Cell} (hcell : T.heap[b]? = some cellB) (hobj : cellB.vm.isStatics = false) (hcls : s.vm.findClass C = some cellB.cls)
    {g : JFrame} (hg : g.method = m) (hsize : g.locals.size = c.maxLocals) {argsL rest : List Value} (hlen : ∀ sig, parseMethodDescriptor y.desc = some sig → argsL.length = sig.parameters.length)
    (hstack : g.stack = argsL.reverse ++ .ref b :: rest) (hW : 2 * g.monitorRoom + (rest.map fun v => v.category).sum ≤ W9) (hdg : decode c.code g.pc = .ok (.invokevirtual index, 3))
    (hpre : ∀ vm₁, s.WarmedH vm₁ → Pre ⟨T.setVm vm₁, locs, cells, slots⟩ (Value.ref b :: argsL).toArray) :
    (∃ (v : Option Value) (vm₁ : Vm) (B : Pt), s.WarmedH vm₁ ∧ Stand p l e R s m args below meth c B.U B.locs B.cells B.slots ∧ Post ⟨T.setVm vm₁, locs, cells, slots⟩ (Value.ref b :: argsL).toArray v B ∧
      ∀ target, Steps p.tables e below (B.U.setTop { g with pc := g.pc + 3, stack := v.toList ++ rest }) target → Steps p.tables e below (T.setTop g) target) ∨
    (∃ (q : Addr) (vm₁ : Vm) (B : Pt), s.WarmedH vm₁ ∧ Stand p l e R s m args below meth c B.U B.locs B.cells B.slots ∧ PostX ⟨T.setVm vm₁, locs, cells, slots⟩ (Value.ref b :: argsL).toArray q B ∧
      Steps p.tables e below (T.setTop g) ((B.U.setTop { g with stack := rest }).pushFrame (.throwing q))) := by
  obtain ⟨mk, methM, hnamed, hmethM, hstM, habM⟩ := Cond.instanceMethod_spec hinst
  obtain ⟨methM', cM, hmethM', -, -, -, -, -, -, hsigM⟩ := Cond.code_spec hnamed hcode
  cases hmethM.symm.trans hmethM'
  obtain ⟨c2, r2, m2, q1, q2, q3, q4, kP, hkP, hkPi⟩ := Cond.selects_spec hsel
  cases hcls.symm.trans q1
  cases (State.methodFound?_of_named hnamed hy).symm.trans q2
  cases hnamed.symm.trans q3
  have hselP : selectMethod e.platform s.vm cellB.cls mk = .method mk := by rw [Launch.admits_selectMethod X.admits]; exact q4
  obtain ⟨vm₁, X₁, hstep₁⟩ := X.invokevirtual hexec hown hlink hnamed hmethM hstM hkP hkPi hy (a := b) (cell := cellB) hcell
    (fun z h => by rw [h] at hobj; cases hobj) hselP hmethM habM hkP hkPi (g := g) hg (argsL := argsL) (rest := rest) (hlen _ hsigM) hstack hdg
  rcases hK m meth c ⟨T.setVm vm₁, locs, cells, slots⟩ { g with stack := rest } (.invokevirtual index) mk (Value.ref b :: argsL).toArray X₁ hg hsize hdg hW (X₁.named hnamed) (hpre vm₁ X₁.warmed) with ⟨v, B, X', hpost, hsteps⟩ | ⟨q, B, X', hpost, hsteps⟩
  · exact Or.inl ⟨v, vm₁, B, X₁.warmed, X', hpost, fun target h => hstep₁ _ fun acts => by rw [doInvoke_state]; exact hsteps.trans h⟩
  · exact Or.inr ⟨q, vm₁, B, X₁.warmed, X', hpost, hstep₁ _ fun acts => by rw [doInvoke_state]; exact hsteps⟩
theorem vx_callS (X : Stand p l e R s m args below meth c T locs cells slots) (hexec : p.tables.exec = Jvm.exec) {own : String} {index : Nat} {y : MethodName} {bytes : ByteArray} {maxL : Nat} {ret : Option FieldType}
    (hown : s.vm.findClass own = some m.cls) (hlink : (Cond.methodLink own index y).before args s = true) (hstat : (Cond.static y).before args s = true) (hinit : (Cond.initialized y.cls).before args s = true)
    (hcode : (Cond.code y bytes maxL ret).before args s = true) (hy : y.cls ≠ "java/lang/invoke/MethodHandle" ∧ y.cls ≠ "java/lang/invoke/VarHandle")
    {W9 : Nat} {Pre : Pt → Array Value → Prop} {Post : Pt → Array Value → Option Value → Pt → Prop} {PostX : Pt → Array Value → Addr → Pt → Prop} (hK : vx_Back l R p e below s args y 3 W9 Pre Post PostX)
    {g : JFrame} (hg : g.method = m) (hsize : g.locals.size = c.maxLocals) {argsL rest : List Value} (hlen : ∀ sig, parseMethodDescriptor y.desc = some sig → argsL.length = sig.parameters.length)
    (hstack : g.stack = argsL.reverse ++ rest) (hW : 2 * g.monitorRoom + (rest.map fun v => v.category).sum ≤ W9) (hdg : decode c.code g.pc = .ok (.invokestatic index, 3))
    (hpre : ∀ vm₁, s.WarmedH vm₁ → Pre ⟨T.setVm vm₁, locs, cells, slots⟩ argsL.toArray) :
    (∃ (v : Option Value) (vm₁ : Vm) (B : Pt), s.WarmedH vm₁ ∧ Stand p l e R s m args below meth c B.U B.locs B.cells B.slots ∧ Post ⟨T.setVm vm₁, locs, cells, slots⟩ argsL.toArray v B ∧
      ∀ target, Steps p.tables e below (B.U.setTop { g with pc := g.pc + 3, stack := v.toList ++ rest }) target → Steps p.tables e below (T.setTop g) target) ∨
    (∃ (q : Addr) (vm₁ : Vm) (B : Pt), s.WarmedH vm₁ ∧ Stand p l e R s m args below meth c B.U B.locs B.cells B.slots ∧ PostX ⟨T.setVm vm₁, locs, cells, slots⟩ argsL.toArray q B ∧
      Steps p.tables e below (T.setTop g) ((B.U.setTop { g with stack := rest }).pushFrame (.throwing q))) := by
  obtain ⟨mk, hnamed⟩ := Cond.code_named hcode
  obtain ⟨methM, cM, hmethM, -, -, -, -, -, -, hsigM⟩ := Cond.code_spec hnamed hcode
  have hstatic : methM.isStatic = true := Cond.static_spec hnamed hmethM hstat
  obtain ⟨kP, hkP, -⟩ := className_of_methodNamed hnamed
  have hinitP : kP.init = .initialized := Cond.initialized_spec (findClass_of_methodNamed hnamed) hkP hinit
  obtain ⟨vm₁, X₁, hstep₁⟩ := X.invokestatic hexec hown hlink hnamed hmethM hstatic hkP hinitP hy (g := g) hg (argsL := argsL) (rest := rest) (hlen _ hsigM) hstack hdg
  rcases hK m meth c ⟨T.setVm vm₁, locs, cells, slots⟩ { g with stack := rest } (.invokestatic index) mk argsL.toArray X₁ hg hsize hdg hW (X₁.named hnamed) (hpre vm₁ X₁.warmed) with ⟨v, B, X', hpost, hsteps⟩ | ⟨q, B, X', hpost, hsteps⟩
  · exact Or.inl ⟨v, vm₁, B, X₁.warmed, X', hpost, fun target h => hstep₁ _ fun acts => by rw [doInvoke_state]; exact hsteps.trans h⟩
  · exact Or.inr ⟨q, vm₁, B, X₁.warmed, X', hpost, hstep₁ _ fun acts => by rw [doInvoke_state]; exact hsteps⟩
end Calls
theorem vx_cls {s : State} {T : State} {vm₁ : Vm} {E : String} {k : ClassId} (hW : s.WarmedH vm₁) (h : (T.setVm vm₁).vm.findClass E = some k) : s.vm.findClass E = some k := by
  have h1 : vm₁.findClass E = some k := h
  rw [hW.alike.findClass] at h1
  exact h1
/-- the method's frame g, with q thrown over it -/
def vx_W (p : Program) (l : Launch) (e : Env) (R : Room) (s : State) (m : MethodId) (args : Array Value) (below : List Frame) (meth : Method) (c : Code) (H : Heap) (locs : List Loc) (cells slots : Nat) (Q : State → Prop) (g : JFrame) (q : Addr) : Prop :=
  ∀ T : State, T.heap = H → Stand p l e R s m args below meth c T locs cells slots → ∃ t, Steps p.tables e below ((T.setTop g).pushFrame (.throwing q)) t ∧ Q t
def vx_Run (p : Program) (l : Launch) (e : Env) (R : Room) (s : State) (m : MethodId) (args : Array Value) (below : List Frame) (meth : Method) (c : Code) (H : Heap) (locs : List Loc) (cells slots mc ms : Nat) (g : JFrame) (rest : List Value) (Qa : State → Outcome → State → Prop) (XC : String → State → State → Prop) (free : Addr → Prop) : Prop :=
  ∀ T : State, T.heap = H → Stand p l e R s m args below meth c T locs cells slots →
    (∃ (v : Option Value) (st₀ t T' : State) (L : List Loc), st₀.heap = H ∧ Stand p l e R s m args below meth c T' (locs ++ L) (cells + mc) (slots + ms) ∧ (∀ q ∈ L, free q.base) ∧ T'.heap = t.heap ∧ T'.vm = t.vm ∧ Qa st₀ (.returned v) t ∧
      Goes p e below T g T' { g with pc := g.pc + 3, stack := v.toList ++ rest }) ∨
    (∃ (q : Addr) (st₀ t T' : State) (L : List Loc) (E : String) (ce : Cell), st₀.heap = H ∧ Stand p l e R s m args below meth c T' (locs ++ L) (cells + mc) (slots + ms) ∧ (∀ z ∈ L, free z.base) ∧ T'.heap = t.heap ∧ T'.vm = t.vm ∧ XC E st₀ t ∧ t.heap[q]? = some ce ∧ ce.vm = .none ∧ s.vm.findClass E = some ce.cls ∧
      Steps p.tables e below (T.setTop g) ((T'.setTop { g with stack := rest }).pushFrame (.throwing q)))
def vx_X {S : Type} (px : S → Prop) (B : String → S → State → Prop) (A : Nat → Prop) : String → State → State → Prop := fun E st t => ∃ u : S, px u ∧ B E u t ∧ va_F A st t
section Runs
variable {p : Program} {l : Launch} {e : Env} {R : Room} {s : State} {m : MethodId} {args : Array Value} {below : List Frame} {meth : Method} {c : Code} {H : Heap} {locs : List Loc} {cells slots : Nat}
variable {y : MethodName} {bytes cc : ByteArray} {maxL nL mc ms n index : Nat} {ret : Option FieldType} {ws : List Cond} {rm : Room} {Pc : Array Value → State → Prop} {Qc : Array Value → State → Outcome → State → Prop} {XC : String → State → State → Prop} {free : Addr → Prop} {Ts : List Cond} {own C : String} {b : Addr} {As rest : List Value} {g : JFrame}
theorem vx_callBack (cb : CallB R s args own index y bytes maxL ret ws rm mc ms n) (hM : vx_Met l y ws rm Pc Qc XC mc ms free) (hbl : FrameBlind Pc) : vx_Back l R p e below s args y 3 8 (PreOf R mc ms Pc) (PostOf Qc mc ms free) (vx_Post XC mc ms free) := by
  obtain ⟨hrc, hrs, hfr, hlo, hws, hcw, -, hini, -⟩ := cb
  exact vx_back (bytes := bytes) (maxL := maxL) (ret := ret) hM hbl hrc hrs hfr hlo hws hcw (fun a' U hW => word_at hW (Or.inl (by first | rfl | simp [Cond.onTables, Cond.keeps, Cond.steady])) hini)
theorem vx_runV (S : CallFix p m c cc nL s args Ts own) (hM : vx_Met l y ws rm Pc Qc XC mc ms free) (cw : CallW R s args own C index y bytes maxL ret ws rm mc ms n) (hp : PreV s H C b Pc As)
    (hg : g.method = m) (hn : As.length = n) (hsize : g.locals.size = nL) (hstack : g.stack = As.reverse ++ .ref b :: rest) (hW : 2 * g.monitorRoom + (rest.map fun v => v.category).sum ≤ 8) (hdg : decode cc g.pc = .ok (.invokevirtual index, 3)) (hf : cells + mc ≤ R.cells ∧ slots + ms ≤ R.slots) :
    vx_Run p l e R s m args below meth c H locs cells slots mc ms g rest (Qc (Value.ref b :: As).toArray) XC free := by
  have hK : vx_Back l R p e below s args y 3 8 (PreOf R mc ms Pc) (PostOf Qc mc ms free) (vx_Post XC mc ms free) := vx_callBack cw.1 hM hp.1
  obtain ⟨⟨-, -, -, -, -, -, hcode, -, hy, hlen, hl⟩, hin, hse⟩ := cw
  obtain ⟨hx, hb, hml, ho, -⟩ := S
  obtain ⟨-, ⟨cellB, hcB, hoB, hclB⟩, hPc⟩ := hp
  intro T hT X
  rcases vx_callV X hx (C := C) (bytes := bytes) (maxL := maxL) (ret := ret) ho hl hin hse hcode hy hK (by rw [hT]; exact hcB) hoB hclB hg (hsize.trans hml.symm) (argsL := As) (rest := rest) (fun sig h => hn.trans (hlen sig h)) hstack hW (by rw [hb]; exact hdg)
    (fun vm₁ hW₁ => ⟨hf.1, hf.2, hPc (T.setVm vm₁) hT hW₁⟩) with ⟨v, vm₁, ⟨U', l2, c2, s2⟩, hW₁, X', ⟨g', mk, t, L, e1, e2, hq, h1, hL, h2, h3⟩, st⟩ | ⟨q, vm₁, ⟨U', l2, c2, s2⟩, hW₁, X', ⟨g', mk, t, L, E, ce, e1, e2, hq, hce, hcv, hcl, h1, hL, h2, h3⟩, st⟩
  · dsimp only [Pt.U, Pt.locs, Pt.cells, Pt.slots] at X' e1 e2 h1 h2 h3 st
    subst h1; subst h2; subst h3
    exact Or.inl ⟨v, (T.setVm vm₁).calling g' mk (Value.ref b :: As).toArray, t, U', L, hT, X', hL, e1, e2, hq, st⟩
  · dsimp only [Pt.U, Pt.locs, Pt.cells, Pt.slots] at X' e1 e2 h1 h2 h3 st hcl
    subst h1; subst h2; subst h3
    exact Or.inr ⟨q, (T.setVm vm₁).calling g' mk (Value.ref b :: As).toArray, t, U', L, E, ce, hT, X', hL, e1, e2, hq, hce, hcv, vx_cls hW₁ hcl, st⟩
theorem vx_runS (S : CallFix p m c cc nL s args Ts own) (hM : vx_Met l y ws rm Pc Qc XC mc ms free) (cw : CallB R s args own index y bytes maxL ret ws rm mc ms n ∧ (Cond.static y).before args s = true) (hp : PreS s H Pc As)
    (hg : g.method = m) (hn : As.length = n) (hsize : g.locals.size = nL) (hstack : g.stack = As.reverse ++ rest) (hW : 2 * g.monitorRoom + (rest.map fun v => v.category).sum ≤ 8) (hdg : decode cc g.pc = .ok (.invokestatic index, 3)) (hf : cells + mc ≤ R.cells ∧ slots + ms ≤ R.slots) :
    vx_Run p l e R s m args below meth c H locs cells slots mc ms g rest (Qc As.toArray) XC free := by
  have hK : vx_Back l R p e below s args y 3 8 (PreOf R mc ms Pc) (PostOf Qc mc ms free) (vx_Post XC mc ms free) := vx_callBack cw.1 hM hp.1
  obtain ⟨⟨-, -, -, -, -, -, hcode, hini, hy, hlen, hl⟩, hstt⟩ := cw
  obtain ⟨hx, hb, hml, ho, -⟩ := S
  intro T hT X
  rcases vx_callS X hx (bytes := bytes) (maxL := maxL) (ret := ret) ho hl hstt hini hcode hy hK hg (hsize.trans hml.symm) (argsL := As) (rest := rest) (fun sig h => hn.trans (hlen sig h)) hstack hW (by rw [hb]; exact hdg)
    (fun vm₁ hW₁ => ⟨hf.1, hf.2, hp.2 (T.setVm vm₁) hT hW₁⟩) with ⟨v, vm₁, ⟨U', l2, c2, s2⟩, hW₁, X', ⟨g', mk, t, L, e1, e2, hq, h1, hL, h2, h3⟩, st⟩ | ⟨q, vm₁, ⟨U', l2, c2, s2⟩, hW₁, X', ⟨g', mk, t, L, E, ce, e1, e2, hq, hce, hcv, hcl, h1, hL, h2, h3⟩, st⟩
  · dsimp only [Pt.U, Pt.locs, Pt.cells, Pt.slots] at X' e1 e2 h1 h2 h3 st
    subst h1; subst h2; subst h3
    exact Or.inl ⟨v, (T.setVm vm₁).calling g' mk As.toArray, t, U', L, hT, X', hL, e1, e2, hq, st⟩
  · dsimp only [Pt.U, Pt.locs, Pt.cells, Pt.slots] at X' e1 e2 h1 h2 h3 st hcl
    subst h1; subst h2; subst h3
    exact Or.inr ⟨q, (T.setVm vm₁).calling g' mk As.toArray, t, U', L, E, ce, hT, X', hL, e1, e2, hq, hce, hcv, vx_cls hW₁ hcl, st⟩
end Runs
section Rows
variable {p : Program} {l : Launch} {e : Env} {R : Room} {s : State} {m : MethodId} {args : Array Value} {below : List Frame} {meth : Method} {c : Code} {H : Heap} {locs : List Loc} {cells slots : Nat} {Q : State → Prop}
variable {mc ms : Nat} {free : Addr → Prop} {A0 A1 : Nat → Prop} {H0 : Heap} {a : Array Value} {pc : Nat} {ls : Array Slot} {st0 rest : List Value}
theorem vx_keep {st₀ t T' : State} {L : List Loc} (h0 : st₀.heap = H) (e1 : T'.heap = t.heap) (hS : va_S A0 H0 H locs) (hA : ∀ q, q < H.size → A1 q → A0 q) (hf : ∀ q, free q → A0 q) (hL : ∀ q ∈ L, free q.base) (hF : va_F A1 st₀ t) :
    H.size ≤ T'.heap.size ∧ (∀ q : Nat, q < H.size → ¬ A1 q → T'.heap[q]? = H[q]?) ∧ va_S A0 H0 T'.heap (locs ++ L) := by
  obtain ⟨hz, hk⟩ := hF
  rw [h0] at hz hk
  exact ⟨by rw [e1]; exact hz, fun q h1 h2 => by rw [e1]; exact hk q h1 h2,
    ⟨Nat.le_trans hS.1 (by rw [e1]; exact hz), fun q h1 h2 => by rw [e1, hk q (Nat.lt_of_lt_of_le h1 hS.1) (fun z => h2 (hA q (Nat.lt_of_lt_of_le h1 hS.1) z))]; exact hS.2.1 q h1 h2, fun q hq => by
      rcases List.mem_append.mp hq with h | h
      · exact hS.2.2 q h
      · exact hf _ (hL q h)⟩⟩
theorem vx_calli {S SX : Type} {post : Int32 → S → Prop} {px : SX → Prop} {B : S → State → Prop} {BX : String → SX → State → Prop} {AX : Nat → Prop} (hr : vx_Run p l e R s m args below meth c H locs cells slots mc ms (F0 m pc ls st0) rest (va_Qi post B A1 a) (vx_X px BX AX) free) (hS : va_S A0 H0 H locs) (hA : ∀ q, q < H.size → A1 q → A0 q) (hf : ∀ q, free q → A0 q) (hAX : ∀ q, q < H.size → AX q → A0 q)
    (kx : ∀ (E : String) (ce : Cell) (q9 : Addr) (u : SX) (t : State) (H1 : Heap) (locs1 : List Loc), t.heap = H1 → s.vm.Alike t.vm → px u → BX E u t → H.size ≤ H1.size → (∀ q : Nat, q < H.size → ¬ AX q → H1[q]? = H[q]?) → va_S A0 H0 H1 locs1 → H1[q9]? = some ce → ce.vm = .none → s.vm.findClass E = some ce.cls → vx_W p l e R s m args below meth c H1 locs1 (cells + mc) (slots + ms) Q (F0 m pc ls rest) q9)
    (kk : ∀ (r : Int32) (u : S) (t : State) (H1 : Heap) (locs1 : List Loc), t.heap = H1 → s.vm.Alike t.vm → post r u → B u t → H.size ≤ H1.size → (∀ q : Nat, q < H.size → ¬ A1 q → H1[q]? = H[q]?) → va_S A0 H0 H1 locs1 → W p l e R s m args below meth c H1 locs1 (cells + mc) (slots + ms) Q (F0 m (pc + 3) ls (.int r :: rest))) : W p l e R s m args below meth c H locs cells slots Q (F0 m pc ls st0) := by
  intro T hT X
  rcases hr T hT X with ⟨v, st₀, t, T', L, h0, X', hL, e1, e2, ⟨⟨r, u, hv, hp, hb⟩, hF⟩, st⟩ | ⟨q, st₀, t, T', L, E, ce, h0, X', hL, e1, e2, ⟨u, hp, hb, hF⟩, hce, hcv, hcl, st⟩
  · cases hv
    obtain ⟨k1, k2, k3⟩ := vx_keep h0 e1 hS hA hf hL hF
    obtain ⟨t2, a1, b1⟩ := kk r u t T'.heap (locs ++ L) e1.symm (by rw [← e2]; exact X'.warmed.alike) hp hb k1 k2 k3 T' rfl X'
    exact ⟨t2, st t2 a1, b1⟩
  · obtain ⟨k1, k2, k3⟩ := vx_keep h0 e1 hS hAX hf hL hF
    obtain ⟨t2, a1, b1⟩ := kx E ce q u t T'.heap (locs ++ L) e1.symm (by rw [← e2]; exact X'.warmed.alike) hp hb k1 k2 k3 (by rw [e1]; exact hce) hcv hcl T' rfl X'
    exact ⟨t2, st.trans a1, b1⟩
theorem vx_calll {S SX : Type} {post : Int64 → S → Prop} {px : SX → Prop} {B : S → State → Prop} {BX : String → SX → State → Prop} {AX : Nat → Prop} (hr : vx_Run p l e R s m args below meth c H locs cells slots mc ms (F0 m pc ls st0) rest (va_Ql post B A1 a) (vx_X px BX AX) free) (hS : va_S A0 H0 H locs) (hA : ∀ q, q < H.size → A1 q → A0 q) (hf : ∀ q, free q → A0 q) (hAX : ∀ q, q < H.size → AX q → A0 q)
    (kx : ∀ (E : String) (ce : Cell) (q9 : Addr) (u : SX) (t : State) (H1 : Heap) (locs1 : List Loc), t.heap = H1 → s.vm.Alike t.vm → px u → BX E u t → H.size ≤ H1.size → (∀ q : Nat, q < H.size → ¬ AX q → H1[q]? = H[q]?) → va_S A0 H0 H1 locs1 → H1[q9]? = some ce → ce.vm = .none → s.vm.findClass E = some ce.cls → vx_W p l e R s m args below meth c H1 locs1 (cells + mc) (slots + ms) Q (F0 m pc ls rest) q9)
    (kk : ∀ (r : Int64) (u : S) (t : State) (H1 : Heap) (locs1 : List Loc), t.heap = H1 → s.vm.Alike t.vm → post r u → B u t → H.size ≤ H1.size → (∀ q : Nat, q < H.size → ¬ A1 q → H1[q]? = H[q]?) → va_S A0 H0 H1 locs1 → W p l e R s m args below meth c H1 locs1 (cells + mc) (slots + ms) Q (F0 m (pc + 3) ls (.long r :: rest))) : W p l e R s m args below meth c H locs cells slots Q (F0 m pc ls st0) := by
  intro T hT X
  rcases hr T hT X with ⟨v, st₀, t, T', L, h0, X', hL, e1, e2, ⟨⟨r, u, hv, hp, hb⟩, hF⟩, st⟩ | ⟨q, st₀, t, T', L, E, ce, h0, X', hL, e1, e2, ⟨u, hp, hb, hF⟩, hce, hcv, hcl, st⟩
  · cases hv
    obtain ⟨k1, k2, k3⟩ := vx_keep h0 e1 hS hA hf hL hF
    obtain ⟨t2, a1, b1⟩ := kk r u t T'.heap (locs ++ L) e1.symm (by rw [← e2]; exact X'.warmed.alike) hp hb k1 k2 k3 T' rfl X'
    exact ⟨t2, st t2 a1, b1⟩
  · obtain ⟨k1, k2, k3⟩ := vx_keep h0 e1 hS hAX hf hL hF
    obtain ⟨t2, a1, b1⟩ := kx E ce q u t T'.heap (locs ++ L) e1.symm (by rw [← e2]; exact X'.warmed.alike) hp hb k1 k2 k3 (by rw [e1]; exact hce) hcv hcl T' rfl X'
    exact ⟨t2, st.trans a1, b1⟩
theorem vx_callf {S SX : Type} {post : UInt32 → S → Prop} {px : SX → Prop} {B : S → State → Prop} {BX : String → SX → State → Prop} {AX : Nat → Prop} (hr : vx_Run p l e R s m args below meth c H locs cells slots mc ms (F0 m pc ls st0) rest (va_Qf post B A1 a) (vx_X px BX AX) free) (hS : va_S A0 H0 H locs) (hA : ∀ q, q < H.size → A1 q → A0 q) (hf : ∀ q, free q → A0 q) (hAX : ∀ q, q < H.size → AX q → A0 q)
    (kx : ∀ (E : String) (ce : Cell) (q9 : Addr) (u : SX) (t : State) (H1 : Heap) (locs1 : List Loc), t.heap = H1 → s.vm.Alike t.vm → px u → BX E u t → H.size ≤ H1.size → (∀ q : Nat, q < H.size → ¬ AX q → H1[q]? = H[q]?) → va_S A0 H0 H1 locs1 → H1[q9]? = some ce → ce.vm = .none → s.vm.findClass E = some ce.cls → vx_W p l e R s m args below meth c H1 locs1 (cells + mc) (slots + ms) Q (F0 m pc ls rest) q9)
    (kk : ∀ (r : UInt32) (u : S) (t : State) (H1 : Heap) (locs1 : List Loc), t.heap = H1 → s.vm.Alike t.vm → post r u → B u t → H.size ≤ H1.size → (∀ q : Nat, q < H.size → ¬ A1 q → H1[q]? = H[q]?) → va_S A0 H0 H1 locs1 → W p l e R s m args below meth c H1 locs1 (cells + mc) (slots + ms) Q (F0 m (pc + 3) ls (.float r :: rest))) : W p l e R s m args below meth c H locs cells slots Q (F0 m pc ls st0) := by
  intro T hT X
  rcases hr T hT X with ⟨v, st₀, t, T', L, h0, X', hL, e1, e2, ⟨⟨r, u, hv, hp, hb⟩, hF⟩, st⟩ | ⟨q, st₀, t, T', L, E, ce, h0, X', hL, e1, e2, ⟨u, hp, hb, hF⟩, hce, hcv, hcl, st⟩
  · cases hv
    obtain ⟨k1, k2, k3⟩ := vx_keep h0 e1 hS hA hf hL hF
    obtain ⟨t2, a1, b1⟩ := kk r u t T'.heap (locs ++ L) e1.symm (by rw [← e2]; exact X'.warmed.alike) hp hb k1 k2 k3 T' rfl X'
    exact ⟨t2, st t2 a1, b1⟩
  · obtain ⟨k1, k2, k3⟩ := vx_keep h0 e1 hS hAX hf hL hF
    obtain ⟨t2, a1, b1⟩ := kx E ce q u t T'.heap (locs ++ L) e1.symm (by rw [← e2]; exact X'.warmed.alike) hp hb k1 k2 k3 (by rw [e1]; exact hce) hcv hcl T' rfl X'
    exact ⟨t2, st.trans a1, b1⟩
theorem vx_calld {S SX : Type} {post : UInt64 → S → Prop} {px : SX → Prop} {B : S → State → Prop} {BX : String → SX → State → Prop} {AX : Nat → Prop} (hr : vx_Run p l e R s m args below meth c H locs cells slots mc ms (F0 m pc ls st0) rest (va_Qd post B A1 a) (vx_X px BX AX) free) (hS : va_S A0 H0 H locs) (hA : ∀ q, q < H.size → A1 q → A0 q) (hf : ∀ q, free q → A0 q) (hAX : ∀ q, q < H.size → AX q → A0 q)
    (kx : ∀ (E : String) (ce : Cell) (q9 : Addr) (u : SX) (t : State) (H1 : Heap) (locs1 : List Loc), t.heap = H1 → s.vm.Alike t.vm → px u → BX E u t → H.size ≤ H1.size → (∀ q : Nat, q < H.size → ¬ AX q → H1[q]? = H[q]?) → va_S A0 H0 H1 locs1 → H1[q9]? = some ce → ce.vm = .none → s.vm.findClass E = some ce.cls → vx_W p l e R s m args below meth c H1 locs1 (cells + mc) (slots + ms) Q (F0 m pc ls rest) q9)
    (kk : ∀ (r : UInt64) (u : S) (t : State) (H1 : Heap) (locs1 : List Loc), t.heap = H1 → s.vm.Alike t.vm → post r u → B u t → H.size ≤ H1.size → (∀ q : Nat, q < H.size → ¬ A1 q → H1[q]? = H[q]?) → va_S A0 H0 H1 locs1 → W p l e R s m args below meth c H1 locs1 (cells + mc) (slots + ms) Q (F0 m (pc + 3) ls (.double r :: rest))) : W p l e R s m args below meth c H locs cells slots Q (F0 m pc ls st0) := by
  intro T hT X
  rcases hr T hT X with ⟨v, st₀, t, T', L, h0, X', hL, e1, e2, ⟨⟨r, u, hv, hp, hb⟩, hF⟩, st⟩ | ⟨q, st₀, t, T', L, E, ce, h0, X', hL, e1, e2, ⟨u, hp, hb, hF⟩, hce, hcv, hcl, st⟩
  · cases hv
    obtain ⟨k1, k2, k3⟩ := vx_keep h0 e1 hS hA hf hL hF
    obtain ⟨t2, a1, b1⟩ := kk r u t T'.heap (locs ++ L) e1.symm (by rw [← e2]; exact X'.warmed.alike) hp hb k1 k2 k3 T' rfl X'
    exact ⟨t2, st t2 a1, b1⟩
  · obtain ⟨k1, k2, k3⟩ := vx_keep h0 e1 hS hAX hf hL hF
    obtain ⟨t2, a1, b1⟩ := kx E ce q u t T'.heap (locs ++ L) e1.symm (by rw [← e2]; exact X'.warmed.alike) hp hb k1 k2 k3 (by rw [e1]; exact hce) hcv hcl T' rfl X'
    exact ⟨t2, st.trans a1, b1⟩
theorem vx_callv {S SX : Type} {post : S → Prop} {px : SX → Prop} {B : S → State → Prop} {BX : String → SX → State → Prop} {AX : Nat → Prop} (hr : vx_Run p l e R s m args below meth c H locs cells slots mc ms (F0 m pc ls st0) rest (va_Qv post B A1 a) (vx_X px BX AX) free) (hS : va_S A0 H0 H locs) (hA : ∀ q, q < H.size → A1 q → A0 q) (hf : ∀ q, free q → A0 q) (hAX : ∀ q, q < H.size → AX q → A0 q)
    (kx : ∀ (E : String) (ce : Cell) (q9 : Addr) (u : SX) (t : State) (H1 : Heap) (locs1 : List Loc), t.heap = H1 → s.vm.Alike t.vm → px u → BX E u t → H.size ≤ H1.size → (∀ q : Nat, q < H.size → ¬ AX q → H1[q]? = H[q]?) → va_S A0 H0 H1 locs1 → H1[q9]? = some ce → ce.vm = .none → s.vm.findClass E = some ce.cls → vx_W p l e R s m args below meth c H1 locs1 (cells + mc) (slots + ms) Q (F0 m pc ls rest) q9)
    (kk : ∀ (u : S) (t : State) (H1 : Heap) (locs1 : List Loc), t.heap = H1 → s.vm.Alike t.vm → post u → B u t → H.size ≤ H1.size → (∀ q : Nat, q < H.size → ¬ A1 q → H1[q]? = H[q]?) → va_S A0 H0 H1 locs1 → W p l e R s m args below meth c H1 locs1 (cells + mc) (slots + ms) Q (F0 m (pc + 3) ls (rest))) : W p l e R s m args below meth c H locs cells slots Q (F0 m pc ls st0) := by
  intro T hT X
  rcases hr T hT X with ⟨v, st₀, t, T', L, h0, X', hL, e1, e2, ⟨⟨u, hv, hp, hb⟩, hF⟩, st⟩ | ⟨q, st₀, t, T', L, E, ce, h0, X', hL, e1, e2, ⟨u, hp, hb, hF⟩, hce, hcv, hcl, st⟩
  · cases hv
    obtain ⟨k1, k2, k3⟩ := vx_keep h0 e1 hS hA hf hL hF
    obtain ⟨t2, a1, b1⟩ := kk u t T'.heap (locs ++ L) e1.symm (by rw [← e2]; exact X'.warmed.alike) hp hb k1 k2 k3 T' rfl X'
    exact ⟨t2, st t2 a1, b1⟩
  · obtain ⟨k1, k2, k3⟩ := vx_keep h0 e1 hS hAX hf hL hF
    obtain ⟨t2, a1, b1⟩ := kx E ce q u t T'.heap (locs ++ L) e1.symm (by rw [← e2]; exact X'.warmed.alike) hp hb k1 k2 k3 (by rw [e1]; exact hce) hcv hcl T' rfl X'
    exact ⟨t2, st.trans a1, b1⟩
/-- caught by the row x of this method's table; the rows ahead don't take it -/
theorem vx_catch {own name : String} {E : String} {ce : Cell} {q : Addr} (hown : s.vm.findClass own = some m.cls) (pre : List ExceptionTableEntry) (x : ExceptionTableEntry) (suf : List ExceptionTableEntry) (hsplit : c.exceptionTable.toList = pre ++ x :: suf)
    (hpass : ∀ z ∈ pre, covers z pc = false ∨ (z.catchType ≠ 0 ∧ ∃ nm : String, (Cond.classLink own z.catchType nm).before args s = true ∧ va_Nc E nm s)) (hx : covers x pc = true) (h0 : x.catchType ≠ 0)
    (hlink : (Cond.classLink own x.catchType name).before args s = true) (hcast : (Cond.castable E name).before args s = true) (hcell : H[q]? = some ce) (hv : ce.vm = .none) (hcl : s.vm.findClass E = some ce.cls)
    (kk : W p l e R s m args below meth c H locs cells slots Q (F0 m x.handlerPc ls [.ref q])) : vx_W p l e R s m args below meth c H locs cells slots Q (F0 m pc ls rest) q := by
  intro T hT X
  have hpl : e.platform.magicAccessors = ({} : Platform).magicAccessors := by rw [X.admits.platform]
  obtain ⟨c3, c4, hc3, hc4, hasg⟩ := Cond.castable_spec hcast
  cases Option.some.inj (hc3.symm.trans hcl)
  obtain ⟨c5, hc5, hcl5⟩ := Cond.classLink_spec hown hlink e.platform hpl
  cases Option.some.inj (hc4.symm.trans hc5)
  obtain ⟨vm', X', st⟩ := X.thenCaughtThrough q (g := F0 m pc ls rest) rfl (Steps.refl _) (by rw [hT]; exact hcell) (by rw [hv]; rfl) (by obtain ⟨k9, h9, -⟩ := Vm.findClass_spec hcl; exact ⟨k9, h9⟩) pre x suf hsplit
    (fun z hz => by
      rcases hpass z hz with h | ⟨hz0, nm, hl1, hn1⟩
      · exact Or.inl h
      · obtain ⟨c6, hc6, hcl6⟩ := Cond.classLink_spec hown hl1 e.platform hpl
        obtain ⟨a8, b8, h1, h2, h3⟩ := hn1
        cases Option.some.inj (h1.symm.trans hcl)
        cases Option.some.inj (h2.symm.trans hc6)
        exact Or.inr ⟨hz0, _, hcl6, h3⟩) hx (Or.inr ⟨h0, c4, hcl5, hasg⟩)
  obtain ⟨t, a1, b1⟩ := kk (T.setVm vm') hT X'
  exact ⟨t, st.trans a1, b1⟩
end Rows
section Ends
variable {p : Program} {l : Launch} {e : Env} {R : Room} {s : State} {m : MethodId} {args : Array Value} {below : List Frame} {meth : Method} {c : Code} {H : Heap} {locs : List Loc} {cells slots : Nat} {Q : State → Prop}
variable {mc ms : Nat} {free : Addr → Prop} {A0 A1 : Nat → Prop} {H0 : Heap} {a : Array Value} {ls : Array Slot} {st0 rest : List Value}
variable {Qc : Array Value → State → Outcome → State → Prop} {XC : String → State → State → Prop}
/-- what a body that may throw owes at its end -/
def vx_MQ (below : List Frame) (Qc : Array Value → State → Outcome → State → Prop) (XC : String → State → State → Prop) (a : Array Value) (s : State) (mc ms : Nat) (free : Addr → Prop) : State → Prop := fun t =>
  ∃ o, t.status = .running ∧ Ended t below o ∧ vx_Q Qc XC mc ms free a s o t
theorem vx_ret {g : JFrame} {mc ms : Nat} (k : W p l e R s m args below meth c H locs cells slots (MQ below Qc args s mc ms free) g) : W p l e R s m args below meth c H locs cells slots (vx_MQ below Qc XC args s mc ms free) g := by
  intro T hT X
  obtain ⟨t, a1, o, b1, b2, b3, b4⟩ := k T hT X
  exact ⟨t, a1, o, b1, b2, Or.inl ⟨b3, b4⟩⟩
/-- not caught here: it goes on to the caller -/
theorem vx_widen {g : JFrame} {q : Addr} {k n : Nat} (h1 : cells ≤ k) (h2 : slots ≤ n) (kk : vx_W p l e R s m args below meth c H locs k n Q g q) : vx_W p l e R s m args below meth c H locs cells slots Q g q := fun T hT X => kk T hT (stand_widen X h1 h2)
theorem vx_out {pc : Nat} {E : String} {ce : Cell} {q : Addr} {mc ms : Nat} (hout : ∀ x ∈ c.exceptionTable.toList, covers x pc = false) (hlocks : meth.locks = false) (hcell : H[q]? = some ce) (hv : ce.vm = .none) (hcl : s.vm.findClass E = some ce.cls)
    (hx : ∀ t : State, t.heap = H → s.vm.Alike t.vm → XC E s t) (hf : ∀ z ∈ locs, free z.base) (hc : cells ≤ mc) (hs : slots ≤ ms) :
    vx_W p l e R s m args below meth c H locs cells slots (vx_MQ below Qc XC args s mc ms free) (F0 m pc ls rest) q := by
  intro T hT X
  obtain ⟨st1, hrun, hend, hW, hsm⟩ := X.leaveThrown q (g := F0 m pc ls rest) rfl rfl rfl hout hlocks
  have hcell9 : (T.setFrames (.throwing q :: below)).heap[q]? = some ce := by
    show T.heap[q]? = some ce
    rw [hT]; exact hcell
  exact ⟨_, st1, .threw q, hrun, hend, Or.inr ⟨q, rfl, E, ce, locs, hx _ hT hW.alike, hcell9, hv, hcl, hW, hsm.mono hc hs, hf⟩⟩
theorem vx_frame {U : State} {k n : Nat} (h : s.sameButNew ({ U with vm := s.vm } : State) locs k n) : s.heap.size ≤ U.heap.size ∧ ∀ q : Nat, q < s.heap.size → (∀ z ∈ locs, z.base ≠ q) → U.heap[q]? = s.heap[q]? := by
  obtain ⟨-, h2, -, -, -, h6⟩ := h
  refine ⟨h2, fun q hq hz => ?_⟩
  obtain ⟨c9, e1, e2, e3, e4⟩ := h6 q _ (Array.getElem?_eq_getElem hq)
  have hs : c9.slots = (s.heap[q]).slots := Array.ext_getElem? fun i => e4 i fun hm => hz _ hm rfl
  have h9 : c9 = s.heap[q] := by
    rw [hs] at e2
    exact e2
  have e5 : U.heap[q]? = some c9 := e1
  rw [e5, h9, Array.getElem?_eq_getElem hq]
/-- the words of a throw but the four that speak of the heap -/
def vx_no (w : Cond) : Bool := decide (w ≠ .isRef (.static Bundle.tN "UNASSIGNED_STACK" Bundle.steD)) && decide (w ≠ .isRef (.static Bundle.tN "SUPPRESSED_SENTINEL" Bundle.listD)) && decide (w ≠ .laysStatic Bundle.tN "UNASSIGNED_STACK" Bundle.steD) && decide (w ≠ .laysStatic Bundle.tN "SUPPRESSED_SENTINEL" Bundle.listD)
def vx_at0 (own : String) (ic : Nat) (X : String) (names : List String) : List Cond := (Bundle.ownAtoms0 own ic X names).filter vx_no
def vx_atS (own : String) (ic : Nat) (X : String) (names : List String) : List Cond := (Bundle.ownAtoms own ic X names).filter vx_no
/-- a word that the tables alone decide, or a good one -/
def vx_ot (w : Cond) : Bool := w.onTables || goodWord w
theorem vx_ot_at {args a' : Array Value} {s U : State} {w : Cond} (hW : s.WarmedH U.vm) (hvm : s.vm = U.vm) (hg : vx_ot w = true) (h : w.before args s = true) : w.before a' U = true := by
  simp only [vx_ot, Bool.or_eq_true] at hg
  rcases hg with hg | hg
  · exact va_tabs hg hvm h
  · exact word_at hW (good_of_word hg) h
/-- a list's words: the good ones out of the method's own list, the others by premises of their own -/
theorem vx_hat {args : Array Value} {s : State} {L B : List Cond} (h1 : ∀ w ∈ L.filter goodWord, w.before args s = true) (h2 : ∀ w ∈ L.filter (fun w => !goodWord w), w ∈ B) (h3 : ∀ w ∈ B, w.before args s = true) : ∀ w ∈ L, w.before args s = true := by
  intro w hw
  by_cases g : goodWord w = true
  · exact h1 w (List.mem_filter.mpr ⟨hw, g⟩)
  · refine h3 w (h2 w (List.mem_filter.mpr ⟨hw, ?_⟩))
    show (!goodWord w) = true
    cases hgw : goodWord w
    · rfl
    · exact absurd hgw g
theorem vx_c {args : Array Value} {s : State} {w : Cond} {B : List Cond} (h : w.before args s = true) (t : ∀ w ∈ B, w.before args s = true) : ∀ w' ∈ w :: B, w'.before args s = true := fun w' h' => (List.mem_cons.mp h').elim (fun e => by rw [e]; exact h) (t w')
theorem vx_n {args : Array Value} {s : State} : ∀ w ∈ ([] : List Cond), w.before args s = true := fun _ h => nomatch h
theorem vx_own {args : Array Value} {s : State} {L : List Cond} (h1 : ∀ w ∈ L.filter vx_no, w.before args s = true)
    (hU : (Cond.isRef (.static Bundle.tN "UNASSIGNED_STACK" Bundle.steD)).before args s = true) (hN : (Cond.isRef (.static Bundle.tN "SUPPRESSED_SENTINEL" Bundle.listD)).before args s = true)
    (lU : (Cond.laysStatic Bundle.tN "UNASSIGNED_STACK" Bundle.steD).before args s = true) (lN : (Cond.laysStatic Bundle.tN "SUPPRESSED_SENTINEL" Bundle.listD).before args s = true) : ∀ w ∈ L, w.before args s = true := by
  intro w hw
  by_cases e1 : w = .isRef (.static Bundle.tN "UNASSIGNED_STACK" Bundle.steD)
  · rw [e1]; exact hU
  · by_cases e2 : w = .isRef (.static Bundle.tN "SUPPRESSED_SENTINEL" Bundle.listD)
    · rw [e2]; exact hN
    · by_cases e3 : w = .laysStatic Bundle.tN "UNASSIGNED_STACK" Bundle.steD
      · rw [e3]; exact lU
      · by_cases e4 : w = .laysStatic Bundle.tN "SUPPRESSED_SENTINEL" Bundle.listD
        · rw [e4]; exact lN
        · exact h1 w (List.mem_filter.mpr ⟨hw, by unfold vx_no; rw [decide_eq_true e1, decide_eq_true e2, decide_eq_true e3, decide_eq_true e4]; rfl⟩)
/-- where a static field lies, its class's statics cell in H -/
def vx_L (C n d : String) (A : Nat → Prop) (U : State) (H : Heap) : Prop := ∃ (c : ClassId) (k : Class) (i : Nat) (f : Field) (a : Nat) (cell : Cell), U.vm.findClass C = some c ∧ U.fieldFound? C n d = some (c, k, i, f) ∧ f.isStatic = true ∧ k.statics = some a ∧ H[a]? = some cell ∧ cell.vm.isStatics = true ∧ cell.cls = c ∧ f.slot < cell.slots.size ∧ k.staticTypes[f.slot]? = some f.type ∧ ¬ A a
theorem vx_L.moved {C n d : String} {A : Nat → Prop} {u U : State} {H : Heap} (hvm : u.vm.Alike U.vm) (h : vx_L C n d A u H) : vx_L C n d A U H := by
  obtain ⟨c, k, i, f, a, cell, h1, h2, h3, h4, h5, h6, h7, h8, h9, h10⟩ := h
  obtain ⟨k', hi', he⟩ := State.fieldFound?_setVm hvm h2
  exact ⟨c, k', i, f, a, cell, by rw [hvm.findClass]; exact h1, hi', h3, by rw [he]; exact h4, h5, h6, h7, h8, by rw [he]; exact h9, h10⟩
theorem vx_L.kept {C n d : String} {A : Nat → Prop} {U : State} {H H1 : Heap} (h : vx_L C n d A U H) (hq : ∀ a : Nat, a < H.size → ¬ A a → H1[a]? = H[a]?) : vx_L C n d A U H1 := by
  obtain ⟨c, k, i, f, a, cell, h1, h2, h3, h4, h5, h6, h7, h8, h9, h10⟩ := h
  exact ⟨c, k, i, f, a, cell, h1, h2, h3, h4, by rw [hq a (Array.getElem?_eq_some_iff.mp h5).1 h10]; exact h5, h6, h7, h8, h9, h10⟩
theorem vx_L.narrow {C n d : String} {A B : Nat → Prop} {U : State} {H : Heap} (h : vx_L C n d A U H) (hAB : ∀ q, B q → A q) : vx_L C n d B U H := by
  obtain ⟨c, k, i, f, a, cell, h1, h2, h3, h4, h5, h6, h7, h8, h9, h10⟩ := h
  exact ⟨c, k, i, f, a, cell, h1, h2, h3, h4, h5, h6, h7, h8, h9, fun z => h10 (hAB _ z)⟩
theorem vx_L.word {C n d : String} {A : Nat → Prop} {s : State} {args : Array Value} (h : vx_L C n d A s s.heap) : (Cond.laysStatic C n d).before args s = true := by
  obtain ⟨c, k, i, f, a, cell, h1, h2, h3, h4, h5, h6, h7, h8, h9, -⟩ := h
  show (Cond.laysStatic C n d).holds args s none s [] = true
  exact Cond.laysStatic_of h1 h2 h3 h4 h5 h6 h7 h8 h9
/-- .. and what it holds: null or some reference -/
def vx_Zq (C n d : String) (A : Nat → Prop) (U : State) (H : Heap) : Prop := va_Zq C n d A U H ∧ vx_L C n d A U H
theorem vx_Zq.moved {C n d : String} {A : Nat → Prop} {u U : State} {H : Heap} (hvm : u.vm.Alike U.vm) (h : vx_Zq C n d A u H) : vx_Zq C n d A U H := ⟨va_Zq.moved hvm h.1, vx_L.moved hvm h.2⟩
theorem vx_Zq.kept {C n d : String} {A : Nat → Prop} {U : State} {H H1 : Heap} (h : vx_Zq C n d A U H) (hq : ∀ a : Nat, a < H.size → ¬ A a → H1[a]? = H[a]?) : vx_Zq C n d A U H1 := ⟨va_Zq.kept h.1 hq, vx_L.kept h.2 hq⟩
theorem vx_Zq.narrow {C n d : String} {A B : Nat → Prop} {U : State} {H : Heap} (h : vx_Zq C n d A U H) (hAB : ∀ q, B q → A q) : vx_Zq C n d B U H := ⟨va_Zq.narrow h.1 hAB, vx_L.narrow h.2 hAB⟩
theorem vx_Zqof {args : Array Value} {s : State} {C n d : String} {A : Nat → Prop} (hl : (Cond.laysStatic C n d).before args s = true) (hini : (Cond.initialized C).before args s = true) (h : (Cond.isRef (.static C n d)).before args s = true) (hA : ∀ a : Nat, a < s.heap.size → ¬ A a) : vx_Zq C n d A s s.heap := by
  refine ⟨va_Zqof hl hini h hA, ?_⟩
  obtain ⟨c, k, i, f, a, cell, h1, h2, h3, h4, h5, h6, h7, h8, h9⟩ := Cond.laysStatic_spec hl
  exact ⟨c, k, i, f, a, cell, h1, h2, h3, h4, h5, h6, h7, h8, h9, hA a (Array.getElem?_eq_some_iff.mp h5).1⟩
theorem vx_isRef {C n d : String} {v : Value} {A : Nat → Prop} {s : State} {args : Array Value} (h : va_Z C n d v A s s.heap) (hv : v.isRef = true) : (Cond.isRef (.static C n d)).before args s = true := by
  obtain ⟨cf, kf, fi, f, a, cell, h1, h2, h3, h4, h5, h6, h7, -⟩ := h
  have he : (Term.static C n d).eval args s none [] s = some v := by
    simp [Term.eval, State.fieldNamed?, h1, h2, h4, h5, h6, h7]
  simp only [Cond.before, Cond.holds, Cond.value, he]
  cases v <;> simp_all [Value.isRef]
theorem vx_isRefq {C n d : String} {A : Nat → Prop} {s : State} {args : Array Value} (h : va_Zq C n d A s s.heap) : (Cond.isRef (.static C n d)).before args s = true := by
  rcases h with h | ⟨t, h⟩
  · exact vx_isRef h rfl
  · exact vx_isRef h rfl
/-- the same frame, seen from here: as if the method were called anew in this heap -/
theorem vx_rebase {T : State} (X : Stand p l e R s m args below meth c T locs cells slots) {R' : Room} (hf : R'.frames ≤ R.frames) (hl : R'.locals ≤ R.locals) (hc : cells + R'.cells ≤ R.cells) (hs : slots + R'.slots ≤ R.slots) :
    Stand p l e R' ((T.setVm s.vm).setFrames (.invoking m args :: below)) m args below meth c T [] 0 0 := by
  have htop : (T.setVm s.vm).topJava?.isSome := X.here.top
  have hF : ((T.setVm s.vm).setFrames (.invoking m args :: below)).frames = .invoking m args :: below := State.frames_setFrames _ (State.cur_lt_of_top htop)
  obtain ⟨g₀, hg0⟩ := Option.isSome_iff_exists.mp htop
  obtain ⟨r, hr⟩ := State.topJava?_eq_some.mp hg0
  have hl9 : e.platform.stackLimits (T.setVm s.vm).me = e.platform.stackLimits s.me := X.limits
  have hb9 : (T.setVm s.vm).me.stackBytes = s.me.stackBytes := X.bytes
  refine ⟨X.admits, X.cas, X.clock, hF, ?_, X.hears, X.method, X.code, X.here, X.tail, X.warmed, ?_, ?_, ?_⟩
  · have h := X.room
    have hU : ((T.setVm s.vm).setFrames (.invoking m args :: below)).localsInUse = s.localsInUse := by
      rw [State.localsInUse_invoking hF (meth := meth) (c := c) X.method X.code, State.localsInUse_invoking X.frames X.method X.code]
    simp only [State.hasRoom, Bool.and_eq_true, decide_eq_true_eq] at h ⊢
    obtain ⟨⟨⟨⟨h1, h2, h3, h4, h5, h6⟩, h7⟩, h8⟩, h9⟩ := h
    rw [X.frames, List.length_cons] at h2 h3
    have q1 := X.heapSize
    have q2 := X.used
    simp only [hF, hU, List.length_cons, State.stackLimits_setFrames, State.stackBytes_setFrames, hl9, hb9]
    refine ⟨⟨⟨⟨by omega, by omega, by omega, by omega, by omega, h6⟩, ?_⟩, ?_⟩, X.book⟩
    · show T.heap.size + R'.cells ≤ e.platform.maxCells
      omega
    · show T.slotsUsed + R'.slots ≤ e.platform.maxSlots
      omega
  · rw [State.stackLimits_setFrames]; rfl
  · rw [State.stackBytes_setFrames]; rfl
  · refine ⟨?_, Nat.le_refl _, Nat.le_refl _, ?_, ?_, fun a c9 h9 => ⟨c9, h9, rfl, rfl, fun _ _ => rfl⟩⟩
    · obtain ⟨t, ht, -⟩ := State.frames_cons hr
      show T.setVm s.vm = { ((T.setVm s.vm).setFrames (.invoking m args :: below)).setFrames (T.setVm s.vm).frames with heap := T.heap, slotsUsed := T.slotsUsed }
      rw [State.setFrames_setFrames, State.setFrames_self ht]
      rfl
    · show T.slotsUsed = T.slotsUsed + ((T.heap.toList.drop T.heap.size).map (·.slots.size)).sum
      rw [List.drop_eq_nil_of_le (Nat.le_of_eq Array.length_toList)]
      rfl
    · show ((T.heap.toList.drop T.heap.size).map (·.slots.size)).sum ≤ 0
      rw [List.drop_eq_nil_of_le (Nat.le_of_eq Array.length_toList)]
      exact Nat.le_refl _
/-- 'throw new E()': new; dup; invokespecial; athrow -/
theorem vx_throw0 {cc : ByteArray} {pc : Nat} (hexec : p.tables.exec = Jvm.exec) (hb : c.code = cc) (hl : l.stackTraces = false) {own cls : String} {names : List String} {ik ic mc ms : Nat} {A : Nat → Prop}
    (hown : s.vm.findClass own = some m.cls) (hcls : Bundle.fit cls = true) (hnames : ∀ n ∈ names, Bundle.fit n = true)
    (hk : (Cond.classLink own ik cls).before args s = true) (hini : (Cond.initialized cls).before args s = true) (hat : ∀ w ∈ vx_at0 own ic cls names, w.before args s = true)
    (hgood : ∀ w ∈ Cond.classLink own ik cls :: Cond.initialized cls :: vx_at0 own ic cls names, vx_ot w = true)
    (hU : vx_Zq Bundle.tN "UNASSIGNED_STACK" Bundle.steD A s s.heap) (hN : vx_Zq Bundle.tN "SUPPRESSED_SENTINEL" Bundle.listD A s s.heap) (hS : va_S A s.heap H locs) (hsize : ls.size = c.maxLocals)
    (d0 : decode cc pc = .ok (.new ik, 3)) (d3 : decode cc (pc + 3) = .ok (.dup, 1)) (d4 : decode cc (pc + 4) = .ok (.invokespecial ic, 3)) (d7 : decode cc (pc + 7) = .ok (.athrow, 1))
    (hout : ∀ x ∈ c.exceptionTable.toList, covers x (pc + 7) = false)
    (hRframes : names.length + 3 < R.frames) (hRlocals : (rest.map fun v => v.category).sum + (13 * (names.length + 1) + 42) ≤ R.locals) (hRcells : cells + 1 ≤ R.cells) (hRslots : slots + 6 ≤ R.slots) (hlocks : meth.locks = false)
    (hx : ∀ t : State, s.vm.Alike t.vm → H.size ≤ t.heap.size → (∀ q : Nat, q < H.size → t.heap[q]? = H[q]?) → XC cls s t)
    (hf : ∀ z ∈ locs, free z.base) (hc : cells + 1 ≤ mc) (hs : slots + 6 ≤ ms) :
    W p l e R s m args below meth c H locs cells slots (vx_MQ below Qc XC args s mc ms free) (F0 m pc ls rest) := by
  intro T hT X
  have htr : e.platform.stackTraces = false := (show e.platform.stackTraces = l.stackTraces by rw [X.admits.platform]).trans hl
  have Y := vx_rebase X (R' := { frames := R.frames, locals := R.locals, cells := 1, slots := 6 }) (Nat.le_refl _) (Nat.le_refl _) hRcells hRslots
  obtain ⟨s', hA⟩ : ∃ z, z = (T.setVm s.vm).setFrames (.invoking m args :: below) := ⟨_, rfl⟩
  rw [← hA] at Y
  have hvm : s'.vm = s.vm := by rw [hA]; rfl
  have hhp : s'.heap = H := by rw [hA]; exact hT
  have hW0 : s.WarmedH s'.vm := by rw [hvm]; exact State.WarmedH.refl s
  have hat' : ∀ w ∈ vx_at0 own ic cls names, w.before args s' = true := fun w hw => vx_ot_at hW0 hvm.symm (hgood w (List.mem_cons_of_mem _ (List.mem_cons_of_mem _ hw))) (hat w hw)
  have hk' : (Cond.classLink own ik cls).before args s' = true := vx_ot_at hW0 hvm.symm (hgood _ List.mem_cons_self) hk
  have hini' : (Cond.initialized cls).before args s' = true := vx_ot_at hW0 hvm.symm (hgood _ (List.mem_cons_of_mem _ List.mem_cons_self)) hini
  have hU' : vx_Zq Bundle.tN "UNASSIGNED_STACK" Bundle.steD A s' s'.heap := by rw [hhp]; exact vx_Zq.moved hW0.alike (hU.kept hS.2.1)
  have hN' : vx_Zq Bundle.tN "SUPPRESSED_SENTINEL" Bundle.listD A s' s'.heap := by rw [hhp]; exact vx_Zq.moved hW0.alike (hN.kept hS.2.1)
  have h : ∀ w ∈ Bundle.ownAtoms0 own ic cls names, w.before args s' = true := vx_own hat' (vx_isRefq hU'.1) (vx_isRefq hN'.1) hU'.2.word hN'.2.word
  have hown' : s'.vm.findClass own = some m.cls := by rw [hvm]; exact hown
  have hins : (Cond.instantiable cls 6).before args s' = true := h _ (by simp [Bundle.ownAtoms0])
  obtain ⟨vm₁, cX, kX, hfX, hkX, -, -, X₁, st1⟩ := Y.newCold hexec (own := own) (C := cls) (index := ik) (n := 6) hown' hk' hins hini'
    (g := F0 m pc ls rest) rfl (by rw [hb]; exact d0) (Nat.le_refl _) (Nat.le_refl _)
  generalize hT1 : (T.setVm vm₁).pushCell { cls := cX, slots := kX.instanceTypes.map defaultValue, vm := .none } = T1 at X₁ st1
  have hcat : (Value.ref T.heap.size).category = 1 := rfl
  have hcellA : T1.heap[T.heap.size]? = some (freshCell cX kX) := by rw [← hT1]; exact State.heap_pushCell_size _ _
  have d3' : decode c.code (pc + 3) = .ok (.dup, 1) := by rw [hb]; exact d3
  obtain ⟨U, hsteps, hrun, hend, hW, hsame, ce, hce, hO⟩ := X₁.ctorThrow0 hexec htr (own := own) (cls := cls) (names := names) (ic := ic) hown' hcls hnames h (fun x hx => nomatch hx) hfX hkX hcellA (by rw [hhp, hT]; exact Nat.le_refl _)
    (g := { method := m, pc := pc + 4, locals := ls, stack := .ref T.heap.size :: .ref T.heap.size :: rest, locked := none }) rfl hsize rfl rfl (rest := rest) rfl
    (by rw [hb]; exact d4) (by rw [hb]; exact d7) hout hRframes (by simp only [List.map_cons, List.sum_cons, hcat]; omega) hlocks
  obtain ⟨f1, f2⟩ := vx_frame hsame
  rw [hhp] at f1 f2
  have hWs : s.WarmedH U.vm := State.WarmedH.trans hW0 hW
  have hcl : s.vm.findClass cls = some ce.cls := by
    have h9 := hO.cls
    rw [hvm] at h9
    exact h9
  have hall : s.sameButNew ({ U with vm := s.vm } : State) locs mc ms := by
    subst hA
    obtain ⟨e1, e2⟩ := hsame
    rw [State.setFrames_setFrames] at e1
    have h2 : (T.setVm s.vm).sameButNew ({ U with vm := s.vm } : State) [] (0 + 1) (0 + 6) := ⟨e1, e2⟩
    have h3 := X.same.trans h2
    rw [List.append_nil] at h3
    exact h3.mono hc hs
  refine ⟨U, ?_, .threw T.heap.size, hrun, hend, Or.inr ⟨T.heap.size, rfl, cls, ce, locs, hx U hWs.alike f1 (fun q hq => f2 q hq (fun z hz => nomatch hz)), hce, hO.vm, hcl, hWs, hall, hf⟩⟩
  refine st1 _ ?_
  show Steps p.tables e below (T1.setTop { method := m, pc := pc + 3, locals := ls, stack := .ref T.heap.size :: rest, locked := none }) _
  jvm_step X₁.here [X₁.here.top, hexec, d3', Value.category]
  exact hsteps
/-- 'throw new E("text")': new; dup; ldc; invokespecial; athrow -/
theorem vx_throwS {cc : ByteArray} {pc : Nat} (hexec : p.tables.exec = Jvm.exec) (hb : c.code = cc) (hl : l.stackTraces = false) {own cls text : String} {names : List String} {ik is ic mc ms sa : Nat} {A : Nat → Prop}
    (hown : s.vm.findClass own = some m.cls) (hcls : Bundle.fit cls = true) (hnames : ∀ n ∈ names, Bundle.fit n = true)
    (hk : (Cond.classLink own ik cls).before args s = true) (hini : (Cond.initialized cls).before args s = true) (hstr : vk_R own is text sa s) (hat : ∀ w ∈ vx_atS own ic cls names, w.before args s = true)
    (hgood : ∀ w ∈ Cond.classLink own ik cls :: Cond.initialized cls :: vx_atS own ic cls names, vx_ot w = true)
    (hU : vx_Zq Bundle.tN "UNASSIGNED_STACK" Bundle.steD A s s.heap) (hN : vx_Zq Bundle.tN "SUPPRESSED_SENTINEL" Bundle.listD A s s.heap) (hS : va_S A s.heap H locs) (hsize : ls.size = c.maxLocals)
    (d0 : decode cc pc = .ok (.new ik, 3)) (d3 : decode cc (pc + 3) = .ok (.dup, 1)) (d4 : decode cc (pc + 4) = .ok (.ldc is, 2)) (d6 : decode cc (pc + 6) = .ok (.invokespecial ic, 3)) (d9 : decode cc (pc + 9) = .ok (.athrow, 1))
    (hout : ∀ x ∈ c.exceptionTable.toList, covers x (pc + 9) = false)
    (hRframes : names.length + 3 < R.frames) (hRlocals : (rest.map fun v => v.category).sum + (13 * (names.length + 1) + 43) ≤ R.locals) (hRcells : cells + 1 ≤ R.cells) (hRslots : slots + 6 ≤ R.slots) (hlocks : meth.locks = false)
    (hx : ∀ t : State, s.vm.Alike t.vm → H.size ≤ t.heap.size → (∀ q : Nat, q < H.size → t.heap[q]? = H[q]?) → XC cls s t)
    (hf : ∀ z ∈ locs, free z.base) (hc : cells + 1 ≤ mc) (hs : slots + 6 ≤ ms) :
    W p l e R s m args below meth c H locs cells slots (vx_MQ below Qc XC args s mc ms free) (F0 m pc ls rest) := by
  intro T hT X
  have htr : e.platform.stackTraces = false := (show e.platform.stackTraces = l.stackTraces by rw [X.admits.platform]).trans hl
  have Y := vx_rebase X (R' := { frames := R.frames, locals := R.locals, cells := 1, slots := 6 }) (Nat.le_refl _) (Nat.le_refl _) hRcells hRslots
  obtain ⟨s', hA⟩ : ∃ z, z = (T.setVm s.vm).setFrames (.invoking m args :: below) := ⟨_, rfl⟩
  rw [← hA] at Y
  have hvm : s'.vm = s.vm := by rw [hA]; rfl
  have hhp : s'.heap = H := by rw [hA]; exact hT
  have hW0 : s.WarmedH s'.vm := by rw [hvm]; exact State.WarmedH.refl s
  have hat' : ∀ w ∈ vx_atS own ic cls names, w.before args s' = true := fun w hw => vx_ot_at hW0 hvm.symm (hgood w (List.mem_cons_of_mem _ (List.mem_cons_of_mem _ hw))) (hat w hw)
  have hk' : (Cond.classLink own ik cls).before args s' = true := vx_ot_at hW0 hvm.symm (hgood _ List.mem_cons_self) hk
  have hini' : (Cond.initialized cls).before args s' = true := vx_ot_at hW0 hvm.symm (hgood _ (List.mem_cons_of_mem _ List.mem_cons_self)) hini
  have hU' : vx_Zq Bundle.tN "UNASSIGNED_STACK" Bundle.steD A s' s'.heap := by rw [hhp]; exact vx_Zq.moved hW0.alike (hU.kept hS.2.1)
  have hN' : vx_Zq Bundle.tN "SUPPRESSED_SENTINEL" Bundle.listD A s' s'.heap := by rw [hhp]; exact vx_Zq.moved hW0.alike (hN.kept hS.2.1)
  have h : ∀ w ∈ Bundle.ownAtoms own ic cls names, w.before args s' = true := vx_own hat' (vx_isRefq hU'.1) (vx_isRefq hN'.1) hU'.2.word hN'.2.word
  have hown' : s'.vm.findClass own = some m.cls := by rw [hvm]; exact hown
  have hins : (Cond.instantiable cls 6).before args s' = true := h _ (by simp [Bundle.ownAtoms])
  obtain ⟨vm₁, cX, kX, hfX, hkX, -, -, X₁, st1⟩ := Y.newCold hexec (own := own) (C := cls) (index := ik) (n := 6) hown' hk' hins hini'
    (g := F0 m pc ls rest) rfl (by rw [hb]; exact d0) (Nat.le_refl _) (Nat.le_refl _)
  generalize hT1 : (T.setVm vm₁).pushCell { cls := cX, slots := kX.instanceTypes.map defaultValue, vm := .none } = T1 at X₁ st1
  have hcat : (Value.ref T.heap.size).category = 1 := rfl
  have hcellA : T1.heap[T.heap.size]? = some (freshCell cX kX) := by rw [← hT1]; exact State.heap_pushCell_size _ _
  have d3' : decode c.code (pc + 3) = .ok (.dup, 1) := by rw [hb]; exact d3
  have d4' : decode c.code (pc + 4) = .ok (.ldc is, 2) := by rw [hb]; exact d4
  have hstr' : vk_R own is text sa s' := vk_R.warm hW0 hstr
  obtain ⟨U, hsteps, hrun, hend, hW, hsame, ce, hce, hO⟩ := X₁.ctorThrowS hexec htr (own := own) (cls := cls) (names := names) (ic := ic) hown' hcls hnames h (fun x hx => nomatch hx) hfX hkX hcellA (by rw [hhp, hT]; exact Nat.le_refl _) (msg := .ref sa) rfl
    (g := { method := m, pc := pc + 6, locals := ls, stack := .ref sa :: .ref T.heap.size :: .ref T.heap.size :: rest, locked := none }) rfl hsize rfl rfl (rest := rest) rfl
    (by rw [hb]; exact d6) (by rw [hb]; exact d9) hout hRframes (by simp only [List.map_cons, List.sum_cons, hcat]; omega) hlocks
  obtain ⟨f1, f2⟩ := vx_frame hsame
  rw [hhp] at f1 f2
  have hWs : s.WarmedH U.vm := State.WarmedH.trans hW0 hW
  have hcl : s.vm.findClass cls = some ce.cls := by
    have h9 := hO.cls
    rw [hvm] at h9
    exact h9
  have hall : s.sameButNew ({ U with vm := s.vm } : State) locs mc ms := by
    subst hA
    obtain ⟨e1, e2⟩ := hsame
    rw [State.setFrames_setFrames] at e1
    have h2 : (T.setVm s.vm).sameButNew ({ U with vm := s.vm } : State) [] (0 + 1) (0 + 6) := ⟨e1, e2⟩
    have h3 := X.same.trans h2
    rw [List.append_nil] at h3
    exact h3.mono hc hs
  refine ⟨U, ?_, .threw T.heap.size, hrun, hend, Or.inr ⟨T.heap.size, rfl, cls, ce, locs, hx U hWs.alike f1 (fun q hq => f2 q hq (fun z hz => nomatch hz)), hce, hO.vm, hcl, hWs, hall, hf⟩⟩
  refine st1 _ ?_
  show Steps p.tables e below (T1.setTop { method := m, pc := pc + 3, locals := ls, stack := .ref T.heap.size :: rest, locked := none }) _
  jvm_step X₁.here [X₁.here.top, hexec, d3', Value.category]
  exact X₁.ldcString hexec (own := own) (text := text) (index := is) (a := sa) hown' hstr'.1 hstr'.2
    (g := { method := m, pc := pc + 4, locals := ls, stack := .ref T.heap.size :: .ref T.heap.size :: rest, locked := none }) rfl d4' _ hsteps
/-- 'throw new E("text")', the text by a wide index -/
theorem vx_throwSW {cc : ByteArray} {pc : Nat} (hexec : p.tables.exec = Jvm.exec) (hb : c.code = cc) (hl : l.stackTraces = false) {own cls text : String} {names : List String} {ik is ic mc ms sa : Nat} {A : Nat → Prop}
    (hown : s.vm.findClass own = some m.cls) (hcls : Bundle.fit cls = true) (hnames : ∀ n ∈ names, Bundle.fit n = true)
    (hk : (Cond.classLink own ik cls).before args s = true) (hini : (Cond.initialized cls).before args s = true) (hstr : vk_R own is text sa s) (hat : ∀ w ∈ vx_atS own ic cls names, w.before args s = true)
    (hgood : ∀ w ∈ Cond.classLink own ik cls :: Cond.initialized cls :: vx_atS own ic cls names, vx_ot w = true)
    (hU : vx_Zq Bundle.tN "UNASSIGNED_STACK" Bundle.steD A s s.heap) (hN : vx_Zq Bundle.tN "SUPPRESSED_SENTINEL" Bundle.listD A s s.heap) (hS : va_S A s.heap H locs) (hsize : ls.size = c.maxLocals)
    (d0 : decode cc pc = .ok (.new ik, 3)) (d3 : decode cc (pc + 3) = .ok (.dup, 1)) (d4 : decode cc (pc + 4) = .ok (.ldc_w is, 3)) (d7 : decode cc (pc + 7) = .ok (.invokespecial ic, 3)) (d10 : decode cc (pc + 10) = .ok (.athrow, 1))
    (hout : ∀ x ∈ c.exceptionTable.toList, covers x (pc + 10) = false)
    (hRframes : names.length + 3 < R.frames) (hRlocals : (rest.map fun v => v.category).sum + (13 * (names.length + 1) + 43) ≤ R.locals) (hRcells : cells + 1 ≤ R.cells) (hRslots : slots + 6 ≤ R.slots) (hlocks : meth.locks = false)
    (hx : ∀ t : State, s.vm.Alike t.vm → H.size ≤ t.heap.size → (∀ q : Nat, q < H.size → t.heap[q]? = H[q]?) → XC cls s t)
    (hf : ∀ z ∈ locs, free z.base) (hc : cells + 1 ≤ mc) (hs : slots + 6 ≤ ms) :
    W p l e R s m args below meth c H locs cells slots (vx_MQ below Qc XC args s mc ms free) (F0 m pc ls rest) := by
  intro T hT X
  have htr : e.platform.stackTraces = false := (show e.platform.stackTraces = l.stackTraces by rw [X.admits.platform]).trans hl
  have Y := vx_rebase X (R' := { frames := R.frames, locals := R.locals, cells := 1, slots := 6 }) (Nat.le_refl _) (Nat.le_refl _) hRcells hRslots
  obtain ⟨s', hA⟩ : ∃ z, z = (T.setVm s.vm).setFrames (.invoking m args :: below) := ⟨_, rfl⟩
  rw [← hA] at Y
  have hvm : s'.vm = s.vm := by rw [hA]; rfl
  have hhp : s'.heap = H := by rw [hA]; exact hT
  have hW0 : s.WarmedH s'.vm := by rw [hvm]; exact State.WarmedH.refl s
  have hat' : ∀ w ∈ vx_atS own ic cls names, w.before args s' = true := fun w hw => vx_ot_at hW0 hvm.symm (hgood w (List.mem_cons_of_mem _ (List.mem_cons_of_mem _ hw))) (hat w hw)
  have hk' : (Cond.classLink own ik cls).before args s' = true := vx_ot_at hW0 hvm.symm (hgood _ List.mem_cons_self) hk
  have hini' : (Cond.initialized cls).before args s' = true := vx_ot_at hW0 hvm.symm (hgood _ (List.mem_cons_of_mem _ List.mem_cons_self)) hini
  have hU' : vx_Zq Bundle.tN "UNASSIGNED_STACK" Bundle.steD A s' s'.heap := by rw [hhp]; exact vx_Zq.moved hW0.alike (hU.kept hS.2.1)
  have hN' : vx_Zq Bundle.tN "SUPPRESSED_SENTINEL" Bundle.listD A s' s'.heap := by rw [hhp]; exact vx_Zq.moved hW0.alike (hN.kept hS.2.1)
  have h : ∀ w ∈ Bundle.ownAtoms own ic cls names, w.before args s' = true := vx_own hat' (vx_isRefq hU'.1) (vx_isRefq hN'.1) hU'.2.word hN'.2.word
  have hown' : s'.vm.findClass own = some m.cls := by rw [hvm]; exact hown
  have hins : (Cond.instantiable cls 6).before args s' = true := h _ (by simp [Bundle.ownAtoms])
  obtain ⟨vm₁, cX, kX, hfX, hkX, -, -, X₁, st1⟩ := Y.newCold hexec (own := own) (C := cls) (index := ik) (n := 6) hown' hk' hins hini'
    (g := F0 m pc ls rest) rfl (by rw [hb]; exact d0) (Nat.le_refl _) (Nat.le_refl _)
  generalize hT1 : (T.setVm vm₁).pushCell { cls := cX, slots := kX.instanceTypes.map defaultValue, vm := .none } = T1 at X₁ st1
  have hcat : (Value.ref T.heap.size).category = 1 := rfl
  have hcellA : T1.heap[T.heap.size]? = some (freshCell cX kX) := by rw [← hT1]; exact State.heap_pushCell_size _ _
  have d3' : decode c.code (pc + 3) = .ok (.dup, 1) := by rw [hb]; exact d3
  have d4' : decode c.code (pc + 4) = .ok (.ldc_w is, 3) := by rw [hb]; exact d4
  have hstr' : vk_R own is text sa s' := vk_R.warm hW0 hstr
  obtain ⟨U, hsteps, hrun, hend, hW, hsame, ce, hce, hO⟩ := X₁.ctorThrowS hexec htr (own := own) (cls := cls) (names := names) (ic := ic) hown' hcls hnames h (fun x hx => nomatch hx) hfX hkX hcellA (by rw [hhp, hT]; exact Nat.le_refl _) (msg := .ref sa) rfl
    (g := { method := m, pc := pc + 7, locals := ls, stack := .ref sa :: .ref T.heap.size :: .ref T.heap.size :: rest, locked := none }) rfl hsize rfl rfl (rest := rest) rfl
    (by rw [hb]; exact d7) (by rw [hb]; exact d10) hout hRframes (by simp only [List.map_cons, List.sum_cons, hcat]; omega) hlocks
  obtain ⟨f1, f2⟩ := vx_frame hsame
  rw [hhp] at f1 f2
  have hWs : s.WarmedH U.vm := State.WarmedH.trans hW0 hW
  have hcl : s.vm.findClass cls = some ce.cls := by
    have h9 := hO.cls
    rw [hvm] at h9
    exact h9
  have hall : s.sameButNew ({ U with vm := s.vm } : State) locs mc ms := by
    subst hA
    obtain ⟨e1, e2⟩ := hsame
    rw [State.setFrames_setFrames] at e1
    have h2 : (T.setVm s.vm).sameButNew ({ U with vm := s.vm } : State) [] (0 + 1) (0 + 6) := ⟨e1, e2⟩
    have h3 := X.same.trans h2
    rw [List.append_nil] at h3
    exact h3.mono hc hs
  refine ⟨U, ?_, .threw T.heap.size, hrun, hend, Or.inr ⟨T.heap.size, rfl, cls, ce, locs, hx U hWs.alike f1 (fun q hq => f2 q hq (fun z hz => nomatch hz)), hce, hO.vm, hcl, hWs, hall, hf⟩⟩
  refine st1 _ ?_
  show Steps p.tables e below (T1.setTop { method := m, pc := pc + 3, locals := ls, stack := .ref T.heap.size :: rest, locked := none }) _
  jvm_step X₁.here [X₁.here.top, hexec, d3', Value.category]
  exact X₁.ldcStringW hexec (own := own) (text := text) (index := is) (a := sa) hown' hstr'.1 hstr'.2
    (g := { method := m, pc := pc + 4, locals := ls, stack := .ref T.heap.size :: .ref T.heap.size :: rest, locked := none }) rfl d4' _ hsteps
end Ends
section Bodies
variable {l : Launch}
theorem vx_ofW {y : MethodName} {ws ws' : List Cond} {rm : Room} {Pc : Array Value → State → Prop} {Qc : Array Value → State → Outcome → State → Prop} {XC : String → State → State → Prop} {mc ms : Nat} {free : Addr → Prop} {cc : ByteArray} {maxL : Nat} {ret : Option FieldType}
    (hy : plainName y.cls = true) (hw : ws = Cond.code y cc maxL ret :: ws')
    (body : ∀ p e s m args below meth c s₁, BodyLoose p l y (headSpec ws rm) cc maxL ret e s m args below meth c s₁ → c.maxLocals = maxL → (∀ x ∈ c.exceptionTable.toList, False) → Pc args s →
      W p l e (headSpec ws rm).room s m args below meth c s.heap [] 0 0 (vx_MQ below Qc XC args s mc ms free) (entryFrame m args maxL)) : vx_Met l y ws rm Pc Qc XC mc ms free := by
  refine MetFree.of_bodyS (code := cc) (maxLocals := maxL) (ret := ret) hy ?_ ?_
  · intro args s m h hn
    obtain ⟨meth, c, h1, h2, h3, h4, h5, h6, -, -⟩ := Cond.code_spec hn (atoms_spec (ws := ws) h _ (by rw [hw]; exact List.mem_cons_self))
    exact ⟨meth, c, h1, h2, h3, h4, h5, h6⟩
  · intro p e s m args below meth c s₁ B hml hP _
    have hh0 : s₁.heap = s.heap := by rw [B.state]; rfl
    have ht : ∀ x ∈ c.exceptionTable.toList, False := by
      obtain ⟨meth9, c9, h1, h2, -, -, -, -, h7, -⟩ := Cond.code_spec B.named (atoms_spec (ws := ws) B.pre _ (by rw [hw]; exact List.mem_cons_self))
      cases Option.some.inj (h1.symm.trans B.method)
      cases Option.some.inj (h2.symm.trans (Stand.of_body B).code)
      intro x hx
      rw [Array.isEmpty_iff.mp h7] at hx
      cases hx
    obtain ⟨t, a1, o, b1, b2, b3⟩ := body p e s m args below meth c s₁ B hml ht hP s₁ hh0 (Stand.of_body B)
    exact ⟨t, o, a1, b1, b2, b3⟩
/-- the table of a body with handlers -/
theorem vx_table {p : Program} {x y : MethodName} {S : Spec} {cc bytes : ByteArray} {maxL maxL' : Nat} {ret ret' : Option FieldType} {e : Env} {s s₁ : State} {m : MethodId} {args : Array Value} {below : List Frame} {meth : Method} {c : Code} {hh : List (Nat × Nat × Nat × Nat)}
    (B : BodyLoose p l y S cc maxL ret e s m args below meth c s₁) (h : (Cond.codeWith y bytes maxL' ret' hh).before args s = true) : c.exceptionTable.toList = tableOf hh := by
  obtain ⟨m9, meth9, c9, hn9, h1, h2, -, -, h6, -⟩ := Cond.codeWith_spec h
  cases Option.some.inj (hn9.symm.trans B.named)
  cases Option.some.inj (h1.symm.trans B.method)
  cases Option.some.inj (h2.symm.trans (Stand.of_body B).code)
  rw [← h6, table_eq]
end Bodies
end VXA
/-! ===== END ===== -/
/-! ===== BEGIN a static call of a method with an exception table ===== -/
section VXS
variable {p : Program} {l : Launch} {e : Env} {R : Room} {s : State} {m : MethodId} {args : Array Value} {below : List Frame} {meth : Method} {c : Code} {T : State} {H : Heap} {locs : List Loc} {cells slots : Nat}
abbrev vx_CSW (R : Room) (s : State) (args : Array Value) (own : String) (index : Nat) (y : MethodName) (bytes : ByteArray) (maxL : Nat) (ret : Option FieldType) (hh : List (Nat × Nat × Nat × Nat)) (ws : List Cond) (rm : Room) (mc ms n : Nat) : Prop :=
  (rm.cells = mc ∧ rm.slots = ms ∧ rm.frames + 1 ≤ R.frames ∧ 8 + (maxL + 11) + rm.locals ≤ R.locals ∧ (∀ w ∈ ws, ∀ (a' : Array Value) (U : State), s.WarmedH U.vm → w.before a' U = true) ∧ Cond.codeWith y bytes maxL ret hh ∈ ws) ∧
  (Cond.codeWith y bytes maxL ret hh).before args s = true ∧ (Cond.initialized y.cls).before args s = true ∧ (y.cls ≠ "java/lang/invoke/MethodHandle" ∧ y.cls ≠ "java/lang/invoke/VarHandle") ∧
  (∀ sig, parseMethodDescriptor y.desc = some sig → n = sig.parameters.length) ∧ (Cond.methodLink own index y).before args s = true ∧ (Cond.static y).before args s = true
theorem vx_cwSW {own : String} {index maxL mc ms : Nat} {y : MethodName} {bytes : ByteArray} {ret : Option FieldType} {hh : List (Nat × Nat × Nat × Nat)} {Ts ws ws' : List Cond} {rm : Room} (n : Nat) (ht : ∀ w ∈ Ts, w.before args s = true) (hT : GoodIn Ts (va_wsS own index y ws)) (hw : ws = Cond.codeWith y bytes maxL ret hh :: ws') (hrc : rm.cells = mc) (hrs : rm.slots = ms)
    (hd : y.cls ≠ "java/lang/invoke/MethodHandle" ∧ y.cls ≠ "java/lang/invoke/VarHandle" ∧ (parseMethodDescriptor y.desc).map (fun d => d.parameters.length) = some n) (hR : rm.frames + 1 ≤ R.frames ∧ 8 + (maxL + 11) + rm.locals ≤ R.locals) :
    vx_CSW R s args own index y bytes maxL ret hh ws rm mc ms n := by
  have ok : ∀ w ∈ va_wsS own index y ws, w.before args s = true := fun w h => ht w (hT w h).1
  have hG : GoodIn Ts ws := fun w h => hT w (by unfold va_wsS; exact List.mem_append_right _ h)
  have hc : Cond.codeWith y bytes maxL ret hh ∈ ws := by rw [hw]; exact List.mem_cons_self
  refine ⟨⟨hrc, hrs, hR.1, hR.2, pay_in ht hG, hc⟩, ht _ (hG _ hc).1, ok _ (by simp [va_wsS]), ⟨hd.1, hd.2.1⟩, fun sig h => ?_, ok _ (by simp [va_wsS]), ok _ (by simp [va_wsS])⟩
  have h2 := hd.2.2
  rw [h] at h2
  exact (Option.some.inj h2).symm
theorem vx_callSW (X : Stand p l e R s m args below meth c T locs cells slots) (hexec : p.tables.exec = Jvm.exec) {own : String} {index : Nat} {y : MethodName} {bytes : ByteArray} {maxL : Nat} {ret : Option FieldType} {hh : List (Nat × Nat × Nat × Nat)}
    (hown : s.vm.findClass own = some m.cls) (hlink : (Cond.methodLink own index y).before args s = true) (hstat : (Cond.static y).before args s = true) (hinit : (Cond.initialized y.cls).before args s = true)
    (hcode : (Cond.codeWith y bytes maxL ret hh).before args s = true) (hy : y.cls ≠ "java/lang/invoke/MethodHandle" ∧ y.cls ≠ "java/lang/invoke/VarHandle")
    {W9 : Nat} {Pre : Pt → Array Value → Prop} {Post : Pt → Array Value → Option Value → Pt → Prop} (hK : Back l R p e below s args y 3 W9 Pre Post)
    {g : JFrame} (hg : g.method = m) (hsize : g.locals.size = c.maxLocals) {argsL rest : List Value} (hlen : ∀ sig, parseMethodDescriptor y.desc = some sig → argsL.length = sig.parameters.length)
    (hstack : g.stack = argsL.reverse ++ rest) (hW : 2 * g.monitorRoom + (rest.map fun v => v.category).sum ≤ W9) (hdg : decode c.code g.pc = .ok (.invokestatic index, 3))
    (hpre : ∀ vm₁, s.WarmedH vm₁ → Pre ⟨T.setVm vm₁, locs, cells, slots⟩ argsL.toArray) :
    ∃ (v : Option Value) (vm₁ : Vm) (B : Pt), s.WarmedH vm₁ ∧ Stand p l e R s m args below meth c B.U B.locs B.cells B.slots ∧ Post ⟨T.setVm vm₁, locs, cells, slots⟩ argsL.toArray v B ∧
      ∀ target, Steps p.tables e below (B.U.setTop { g with pc := g.pc + 3, stack := v.toList ++ rest }) target → Steps p.tables e below (T.setTop g) target := by
  obtain ⟨mk, methM, cM, hnamed, hmethM, -, -, -, -, -, -, hsigM⟩ := Cond.codeWith_spec hcode
  have hstatic : methM.isStatic = true := Cond.static_spec hnamed hmethM hstat
  obtain ⟨kP, hkP, -⟩ := className_of_methodNamed hnamed
  have hinitP : kP.init = .initialized := Cond.initialized_spec (findClass_of_methodNamed hnamed) hkP hinit
  obtain ⟨vm₁, X₁, hstep₁⟩ := X.invokestatic hexec hown hlink hnamed hmethM hstatic hkP hinitP hy (g := g) hg (argsL := argsL) (rest := rest) (hlen _ hsigM) hstack hdg
  obtain ⟨v, B, X', hpost, hsteps⟩ := hK m meth c ⟨T.setVm vm₁, locs, cells, slots⟩ { g with stack := rest } (.invokestatic index) mk argsL.toArray X₁ hg hsize hdg hW (X₁.named hnamed) (hpre vm₁ X₁.warmed)
  exact ⟨v, vm₁, B, X₁.warmed, X', hpost, fun target h => hstep₁ _ fun acts => by rw [doInvoke_state]; exact hsteps.trans h⟩
theorem vx_runSW {y : MethodName} {bytes cc : ByteArray} {maxL nL mc ms n index : Nat} {ret : Option FieldType} {hh : List (Nat × Nat × Nat × Nat)} {ws : List Cond} {rm : Room} {Pc : Array Value → State → Prop} {Qc : Array Value → State → Outcome → State → Prop} {free : Addr → Prop} {Ts : List Cond} {own : String} {As rest : List Value} {g : JFrame}
    (S : CallFix p m c cc nL s args Ts own) (hM : Met l y ws rm Pc Qc mc ms free) (cw : vx_CSW R s args own index y bytes maxL ret hh ws rm mc ms n) (hp : PreS s H Pc As)
    (hg : g.method = m) (hn : As.length = n) (hsize : g.locals.size = nL) (hstack : g.stack = As.reverse ++ rest) (hW : 2 * g.monitorRoom + (rest.map fun v => v.category).sum ≤ 8) (hdg : decode cc g.pc = .ok (.invokestatic index, 3)) (hf : cells + mc ≤ R.cells ∧ slots + ms ≤ R.slots) :
    va_Run p l e R s m args below meth c H locs cells slots mc ms g rest (Qc As.toArray) (free) := by
  obtain ⟨⟨hrc, hrs, hfr, hlo, hws, hcw⟩, hcode, hini, hy, hlen, hl, hstt⟩ := cw
  have hK : Back l R p e below s args y 3 8 (PreOf R mc ms Pc) (PostOf Qc mc ms free) := va_backW (hh := hh) (bytes := bytes) (maxL := maxL) (ret := ret) hM hp.1 hrc hrs hfr hlo hws hcw (fun a' U hW => word_at hW (Or.inl (by first | rfl | simp [Cond.onTables, Cond.keeps, Cond.steady])) hini)
  obtain ⟨hx, hb, hml, ho, -⟩ := S
  intro T hT X
  obtain ⟨v, vm₁, ⟨U', l2, c2, s2⟩, hW₁, X', ⟨g', mk, t, L, e1, e2, hq, h1, hL, h2, h3⟩, st⟩ := vx_callSW X hx (hh := hh) (bytes := bytes) (maxL := maxL) (ret := ret) ho hl hstt hini hcode hy hK hg (hsize.trans hml.symm) (argsL := As) (rest := rest) (fun sig h => hn.trans (hlen sig h)) hstack hW (by rw [hb]; exact hdg)
    (fun vm₁ hW₁ => ⟨hf.1, hf.2, hp.2 (T.setVm vm₁) hT hW₁⟩)
  dsimp only [Pt.U, Pt.locs, Pt.cells, Pt.slots] at X' e1 e2 h1 h2 h3 st
  subst h1; subst h2; subst h3
  exact ⟨v, (T.setVm vm₁).calling g' mk As.toArray, t, U', L, hT, X', hL, e1, e2, hq, st⟩
/-- not caught here, past rows that name other classes: it goes on to the caller -/
theorem vx_outP {p : Program} {l : Launch} {e : Env} {R : Room} {s : State} {m : MethodId} {args : Array Value} {below : List Frame} {meth : Method} {c : Code} {H : Heap} {locs : List Loc} {cells slots : Nat} {free : Addr → Prop} {ls : Array Slot} {rest : List Value} {Qc : Array Value → State → Outcome → State → Prop} {XC : String → State → State → Prop}
    {pc : Nat} {own E : String} {ce : Cell} {q : Addr} {mc ms : Nat} (hown : s.vm.findClass own = some m.cls) (hlocks : meth.locks = false)
    (hpass : ∀ z ∈ c.exceptionTable.toList, covers z pc = false ∨ (z.catchType ≠ 0 ∧ ∃ nm : String, (Cond.classLink own z.catchType nm).before args s = true ∧ va_Nc E nm s)) (hcell : H[q]? = some ce) (hv : ce.vm = .none) (hcl : s.vm.findClass E = some ce.cls)
    (hx : ∀ t : State, t.heap = H → s.vm.Alike t.vm → XC E s t) (hf : ∀ z ∈ locs, free z.base) (hc : cells ≤ mc) (hs : slots ≤ ms) :
    vx_W p l e R s m args below meth c H locs cells slots (vx_MQ below Qc XC args s mc ms free) (F0 m pc ls rest) q := by
  intro T hT X
  have hpl : e.platform.magicAccessors = ({} : Platform).magicAccessors := by rw [X.admits.platform]
  obtain ⟨vm', hW', X', st⟩ := X.outThrough hlocks q (g := F0 m pc ls rest) rfl rfl rfl (cell := ce) (by rw [hT]; exact hcell) (by rw [hv]; rfl)
    (by obtain ⟨k9, h9, -⟩ := Vm.findClass_spec hcl; exact ⟨k9, h9⟩) (fun z hz => by
      rcases hpass z hz with h | ⟨hz0, nm, hl1, hn1⟩
      · exact Or.inl h
      · obtain ⟨c6, hc6, hcl6⟩ := Cond.classLink_spec hown hl1 e.platform hpl
        obtain ⟨a8, b8, h1, h2, h3⟩ := hn1
        cases Option.some.inj (h1.symm.trans hcl)
        cases Option.some.inj (h2.symm.trans hc6)
        exact Or.inr ⟨hz0, _, hcl6, h3⟩)
  obtain ⟨g₀, hfr⟩ := X'.frames_eq
  have hcell9 : ((T.setVm vm').setFrames (.throwing q :: below)).heap[q]? = some ce := by
    show T.heap[q]? = some ce
    rw [hT]; exact hcell
  have hend : Ended ((T.setVm vm').setFrames (.throwing q :: below)) below (.threw q) := State.frames_setFrames _ (State.cur_lt_of_frames hfr)
  refine ⟨(T.setVm vm').setFrames (.throwing q :: below), ?_, .threw q, X'.here.running, hend, Or.inr ⟨q, rfl, E, ce, locs, hx _ hT (X'.ends _).1.alike, hcell9, hv, hcl, (X'.ends _).1, (X'.ends _).2.mono hc hs, hf⟩⟩
  rw [X.pushThrowing_eq]
  exact st
/-- a thing of a world lies in the heap -/
theorem vx_lt {D : va_G} {cl : List vw_C} {ws : va_W} {H1 : Heap} (h : va_P D cl ws H1) {k : Nat} {q : Nat × va_E} (hk : ws[k]? = some q) : q.1 < H1.size := (h k q hk).lt
end VXS
/-! ===== END ===== -/
/-! ===== BEGIN methods with a table of their own: called by a name, returning or throwing ===== -/
section VXH
/-! vx_backW, vx_callVX, vx_callSX, vx_callVW, vx_runVW, vx_runVX, vx_runSX, vx_ofWH follow the same proofs as their sisters above (Free/Laws.lean, Shelf42/LK1.lean); vx_outP calls Shelf42/NT130.lean (outThrough). -/
section
variable {l : Launch} {R : Room} {p : Program} {e : Env} {below : List Frame} {s : State} {sargs : Array Value} {y : MethodName} {len W9 : Nat}
theorem vx_backW {ws : List Cond} {rm : Room} {Pc : Array Value → State → Prop} {Qc : Array Value → State → Outcome → State → Prop} {XC : String → State → State → Prop} {mc ms : Nat} {free : Addr → Prop} {bytes : ByteArray} {maxL : Nat} {ret : Option FieldType} {hh : List (Nat × Nat × Nat × Nat)}
    (hM : vx_Met l y ws rm Pc Qc XC mc ms free) (hblind : FrameBlind Pc) (hrc : rm.cells = mc) (hrs : rm.slots = ms)
    (hframes : rm.frames + 1 ≤ R.frames) (hlocals : W9 + (maxL + 11) + rm.locals ≤ R.locals)
    (hws : ∀ w ∈ ws, ∀ a' U, s.WarmedH U.vm → w.before a' U = true) (hcode : Cond.codeWith y bytes maxL ret hh ∈ ws) (hinit : ∀ a' U, s.WarmedH U.vm → (Cond.initialized y.cls).before a' U = true) :
    vx_Back l R p e below s sargs y len W9 (PreOf R mc ms Pc) (PostOf Qc mc ms free) (vx_Post XC mc ms free) := by
  intro m meth c A g ig mk a X hg hsize hdg hW hn hp
  have h1 : (headSpec ws rm).pre.before a A.U = true := atoms_intro fun w hw => hws w hw _ _ X.warmed
  have h2 : (Cond.codeWith y bytes maxL ret hh).before a A.U = true := hws _ hcode _ _ X.warmed
  have h3 : (Cond.initialized y.cls).before a A.U = true := hinit _ _ X.warmed
  have h4 : A.cells + (headSpec ws rm).room.cells ≤ R.cells := by rw [show (headSpec ws rm).room.cells = mc from hrc]; exact hp.1
  have h5 : A.slots + (headSpec ws rm).room.slots ≤ R.slots := by rw [show (headSpec ws rm).room.slots = ms from hrs]; exact hp.2.1
  have hPc : Pc a (A.U.calling g mk a) := hblind _ _ _ _ hp.2.2
  obtain ⟨U, Ls, c0, s0⟩ := A
  dsimp only [Pt.U, Pt.locs, Pt.cells, Pt.slots] at h1 h2 h3 h4 h5 X hn hPc ⊢
  obtain ⟨m9, methY, cY, hn9, hmY, hcY, -, hlY, -⟩ := Cond.codeWith_spec h2
  cases Option.some.inj (hn9.symm.trans hn)
  obtain ⟨kY, hkY, -⟩ := className_of_methodNamed hn
  have hinitY : kY.init = .initialized := Cond.initialized_spec (findClass_of_methodNamed hn) hkY h3
  have h : At U g.method c below := by rw [hg]; exact X.here
  have hlocals9 : W9 + (maxL + 11) + (headSpec ws rm).room.locals ≤ R.locals := hlocals
  have happ : (headSpec ws rm).appliesLoose y e.platform (U.calling g mk a) = true :=
    Spec.appliesLoose_calling (g := g) h hdg hn hkY hinitY
      (X.room_calling (g := g) (R' := (headSpec ws rm).room) hsize hmY hcY hframes (by rw [hlY]; omega) h4 h5) h1
  obtain ⟨mid, hmid⟩ := h.above
  have hfr : (U.setTop g).frames = (.java g :: mid) ++ below := by rw [State.frames_setTop' g h.top, hmid]; rfl
  obtain ⟨o, s₂, hsteps, -, hend, hq⟩ := Steps.callFree hM p X.admits X.cas X.clock (acts := []) hfr happ hPc trivial
  have hq' : vx_Q Qc XC mc ms free a (U.calling g mk a) o s₂ := hq
  rw [State.frames_setTop' g h.top] at hend
  obtain ⟨g₀, hg0⟩ := Option.isSome_iff_exists.mp h.top
  obtain ⟨r, hr⟩ := State.topJava?_eq_some.mp hg0
  have hr' : (({ U with heap := s₂.heap, slotsUsed := s₂.slotsUsed } : State).setVm s₂.vm).frames = .java g₀ :: r := hr
  rcases hq' with ⟨hqc, L, hfe, hL⟩ | ⟨q, rfl, E, ce, L, hx, hce, hcv, hcl, hW₂, hsm, hL⟩
  · obtain ⟨⟨v, rfl⟩, hW₂, e2, q2, q3, q4, q5, q6⟩ := id hfe
    have e3 : s₂ = ({ (U.calling g mk a).setFrames s₂.frames with heap := s₂.heap, slotsUsed := s₂.slotsUsed } : State).setVm s₂.vm := by
      have : s₂ = ({ s₂ with vm := (U.calling g mk a).vm } : State).setVm s₂.vm := rfl
      rw [e2] at this
      exact this
    obtain ⟨c₂, i₂, len₂, hc₂, hd₂, hf₂⟩ := hend
    have hW' : U.WarmedH s₂.vm := hW₂
    have hcc : c₂ = c := by
      have h1 : s₂.code? g.method = U.code? g.method := by
        rw [State.code?_eq, State.code?_eq, hW'.alike.method?]
      exact Option.some.inj (hc₂.symm.trans (h1.trans h.code))
    subst hcc
    have hlen : len₂ = len := by rw [hdg] at hd₂; cases hd₂; rfl
    subst hlen
    have hs₂ : s₂ = (({ U with heap := s₂.heap, slotsUsed := s₂.slotsUsed } : State).setVm s₂.vm).setTop { g with pc := g.pc + len₂, stack := v.toList ++ g.stack } := by
      refine e3.trans ?_
      rw [hf₂, State.calling_eq h.top, State.setFrames_setFrames, State.setTop_of_frames _ hr', hr]
      rfl
    have hsame : U.sameButNew ({ U with heap := s₂.heap, slotsUsed := s₂.slotsUsed } : State) L mc ms := by
      refine ⟨?_, q2, q3, q4, q5, q6⟩
      obtain ⟨t, ht, -⟩ := State.frames_cons hr
      show ({ U with heap := s₂.heap, slotsUsed := s₂.slotsUsed } : State) = { U.setFrames U.frames with heap := s₂.heap, slotsUsed := s₂.slotsUsed }
      rw [State.setFrames_self ht]
    subst hg
    refine Or.inl ⟨v, ⟨(({ U with heap := s₂.heap, slotsUsed := s₂.slotsUsed } : State).setVm s₂.vm), Ls ++ L, c0 + mc, s0 + ms⟩,
      ⟨X.admits, X.cas, X.clock, X.frames, X.room, X.hears, X.method, X.code, (X.here.setHeapUsed s₂.heap s₂.slotsUsed).setVm hW'.alike, X.tail, State.WarmedH.trans X.warmed hW', X.limits, X.bytes, X.same.trans (hsame.setVm s.vm)⟩,
      ⟨g, mk, s₂, L, rfl, rfl, hqc, rfl, hL, rfl, rfl⟩, ?_⟩
    show Steps p.tables e below _ ((({ U with heap := s₂.heap, slotsUsed := s₂.slotsUsed } : State).setVm s₂.vm).setTop { g with pc := g.pc + len₂, stack := v.toList ++ g.stack })
    rw [← hs₂]
    exact hsteps
  · obtain ⟨e2, q2, q3, q4, q5, q6⟩ := id hsm
    have e3 : s₂ = ({ (U.calling g mk a).setFrames s₂.frames with heap := s₂.heap, slotsUsed := s₂.slotsUsed } : State).setVm s₂.vm := by
      have : s₂ = ({ s₂ with vm := (U.calling g mk a).vm } : State).setVm s₂.vm := rfl
      rw [e2] at this
      exact this
    have hf₂ : s₂.frames = .throwing q :: .java g :: U.frames.tail := hend
    have hW' : U.WarmedH s₂.vm := hW₂
    have hs₂ : s₂ = ((({ U with heap := s₂.heap, slotsUsed := s₂.slotsUsed } : State).setVm s₂.vm).setTop g).pushFrame (.throwing q) := by
      refine e3.trans ?_
      rw [hf₂, State.calling_eq h.top, State.setFrames_setFrames, State.pushFrame, State.frames_setTop _ hr', State.setTop_of_frames _ hr', State.setFrames_setFrames, hr]
      rfl
    have hsame : U.sameButNew ({ U with heap := s₂.heap, slotsUsed := s₂.slotsUsed } : State) L mc ms := by
      refine ⟨?_, q2, q3, q4, q5, q6⟩
      obtain ⟨t, ht, -⟩ := State.frames_cons hr
      show ({ U with heap := s₂.heap, slotsUsed := s₂.slotsUsed } : State) = { U.setFrames U.frames with heap := s₂.heap, slotsUsed := s₂.slotsUsed }
      rw [State.setFrames_self ht]
    subst hg
    refine Or.inr ⟨q, ⟨(({ U with heap := s₂.heap, slotsUsed := s₂.slotsUsed } : State).setVm s₂.vm), Ls ++ L, c0 + mc, s0 + ms⟩,
      ⟨X.admits, X.cas, X.clock, X.frames, X.room, X.hears, X.method, X.code, (X.here.setHeapUsed s₂.heap s₂.slotsUsed).setVm hW'.alike, X.tail, State.WarmedH.trans X.warmed hW', X.limits, X.bytes, X.same.trans (hsame.setVm s.vm)⟩,
      ⟨g, mk, s₂, L, E, ce, rfl, rfl, hx, hce, hcv, hcl, rfl, hL, rfl, rfl⟩, ?_⟩
    show Steps p.tables e below _ (((({ U with heap := s₂.heap, slotsUsed := s₂.slotsUsed } : State).setVm s₂.vm).setTop g).pushFrame (.throwing q))
    rw [← hs₂]
    exact hsteps
end
variable {p : Program} {l : Launch} {e : Env} {R : Room} {s : State} {m : MethodId} {args : Array Value} {below : List Frame} {meth : Method} {c : Code} {T : State} {H : Heap} {locs : List Loc} {cells slots : Nat}
theorem vx_callVX (X : Stand p l e R s m args below meth c T locs cells slots) (hexec : p.tables.exec = Jvm.exec) {own C : String} {index : Nat} {y : MethodName} {bytes : ByteArray} {maxL : Nat} {ret : Option FieldType} {hh : List (Nat × Nat × Nat × Nat)}
    (hown : s.vm.findClass own = some m.cls) (hlink : (Cond.methodLink own index y).before args s = true) (hinst : (Cond.instanceMethod y).before args s = true) (hsel : (Cond.selects C y y).before args s = true)
    (hcode : (Cond.codeWith y bytes maxL ret hh).before args s = true) (hy : y.cls ≠ "java/lang/invoke/MethodHandle" ∧ y.cls ≠ "java/lang/invoke/VarHandle")
    {W9 : Nat} {Pre : Pt → Array Value → Prop} {Post : Pt → Array Value → Option Value → Pt → Prop} {PostX : Pt → Array Value → Addr → Pt → Prop} (hK : vx_Back l R p e below s args y 3 W9 Pre Post PostX)
    {b : Addr} {cellB : Cell} (hcell : T.heap[b]? = some cellB) (hobj : cellB.vm.isStatics = false) (hcls : s.vm.findClass C = some cellB.cls)
    {g : JFrame} (hg : g.method = m) (hsize : g.locals.size = c.maxLocals) {argsL rest : List Value} (hlen : ∀ sig, parseMethodDescriptor y.desc = some sig → argsL.length = sig.parameters.length)
    (hstack : g.stack = argsL.reverse ++ .ref b :: rest) (hW : 2 * g.monitorRoom + (rest.map fun v => v.category).sum ≤ W9) (hdg : decode c.code g.pc = .ok (.invokevirtual index, 3))
    (hpre : ∀ vm₁, s.WarmedH vm₁ → Pre ⟨T.setVm vm₁, locs, cells, slots⟩ (Value.ref b :: argsL).toArray) :
    (∃ (v : Option Value) (vm₁ : Vm) (B : Pt), s.WarmedH vm₁ ∧ Stand p l e R s m args below meth c B.U B.locs B.cells B.slots ∧ Post ⟨T.setVm vm₁, locs, cells, slots⟩ (Value.ref b :: argsL).toArray v B ∧
      ∀ target, Steps p.tables e below (B.U.setTop { g with pc := g.pc + 3, stack := v.toList ++ rest }) target → Steps p.tables e below (T.setTop g) target) ∨
    (∃ (q : Addr) (vm₁ : Vm) (B : Pt), s.WarmedH vm₁ ∧ Stand p l e R s m args below meth c B.U B.locs B.cells B.slots ∧ PostX ⟨T.setVm vm₁, locs, cells, slots⟩ (Value.ref b :: argsL).toArray q B ∧
      Steps p.tables e below (T.setTop g) ((B.U.setTop { g with stack := rest }).pushFrame (.throwing q))) := by
  obtain ⟨mk, methM, hnamed, hmethM, hstM, habM⟩ := Cond.instanceMethod_spec hinst
  obtain ⟨m8, methM', cM, hn8, hmethM', -, -, -, -, -, -, hsigM⟩ := Cond.codeWith_spec hcode
  cases Option.some.inj (hn8.symm.trans hnamed)
  cases hmethM.symm.trans hmethM'
  obtain ⟨c2, r2, m2, q1, q2, q3, q4, kP, hkP, hkPi⟩ := Cond.selects_spec hsel
  cases hcls.symm.trans q1
  cases (State.methodFound?_of_named hnamed hy).symm.trans q2
  cases hnamed.symm.trans q3
  have hselP : selectMethod e.platform s.vm cellB.cls mk = .method mk := by rw [Launch.admits_selectMethod X.admits]; exact q4
  obtain ⟨vm₁, X₁, hstep₁⟩ := X.invokevirtual hexec hown hlink hnamed hmethM hstM hkP hkPi hy (a := b) (cell := cellB) hcell
    (fun z h => by rw [h] at hobj; cases hobj) hselP hmethM habM hkP hkPi (g := g) hg (argsL := argsL) (rest := rest) (hlen _ hsigM) hstack hdg
  rcases hK m meth c ⟨T.setVm vm₁, locs, cells, slots⟩ { g with stack := rest } (.invokevirtual index) mk (Value.ref b :: argsL).toArray X₁ hg hsize hdg hW (X₁.named hnamed) (hpre vm₁ X₁.warmed) with ⟨v, B, X', hpost, hsteps⟩ | ⟨q, B, X', hpost, hsteps⟩
  · exact Or.inl ⟨v, vm₁, B, X₁.warmed, X', hpost, fun target h => hstep₁ _ fun acts => by rw [doInvoke_state]; exact hsteps.trans h⟩
  · exact Or.inr ⟨q, vm₁, B, X₁.warmed, X', hpost, hstep₁ _ fun acts => by rw [doInvoke_state]; exact hsteps⟩
theorem vx_callSX (X : Stand p l e R s m args below meth c T locs cells slots) (hexec : p.tables.exec = Jvm.exec) {own : String} {index : Nat} {y : MethodName} {bytes : ByteArray} {maxL : Nat} {ret : Option FieldType} {hh : List (Nat × Nat × Nat × Nat)}
    (hown : s.vm.findClass own = some m.cls) (hlink : (Cond.methodLink own index y).before args s = true) (hstat : (Cond.static y).before args s = true) (hinit : (Cond.initialized y.cls).before args s = true)
    (hcode : (Cond.codeWith y bytes maxL ret hh).before args s = true) (hy : y.cls ≠ "java/lang/invoke/MethodHandle" ∧ y.cls ≠ "java/lang/invoke/VarHandle")
    {W9 : Nat} {Pre : Pt → Array Value → Prop} {Post : Pt → Array Value → Option Value → Pt → Prop} {PostX : Pt → Array Value → Addr → Pt → Prop} (hK : vx_Back l R p e below s args y 3 W9 Pre Post PostX)
    {g : JFrame} (hg : g.method = m) (hsize : g.locals.size = c.maxLocals) {argsL rest : List Value} (hlen : ∀ sig, parseMethodDescriptor y.desc = some sig → argsL.length = sig.parameters.length)
    (hstack : g.stack = argsL.reverse ++ rest) (hW : 2 * g.monitorRoom + (rest.map fun v => v.category).sum ≤ W9) (hdg : decode c.code g.pc = .ok (.invokestatic index, 3))
    (hpre : ∀ vm₁, s.WarmedH vm₁ → Pre ⟨T.setVm vm₁, locs, cells, slots⟩ argsL.toArray) :
    (∃ (v : Option Value) (vm₁ : Vm) (B : Pt), s.WarmedH vm₁ ∧ Stand p l e R s m args below meth c B.U B.locs B.cells B.slots ∧ Post ⟨T.setVm vm₁, locs, cells, slots⟩ argsL.toArray v B ∧
      ∀ target, Steps p.tables e below (B.U.setTop { g with pc := g.pc + 3, stack := v.toList ++ rest }) target → Steps p.tables e below (T.setTop g) target) ∨
    (∃ (q : Addr) (vm₁ : Vm) (B : Pt), s.WarmedH vm₁ ∧ Stand p l e R s m args below meth c B.U B.locs B.cells B.slots ∧ PostX ⟨T.setVm vm₁, locs, cells, slots⟩ argsL.toArray q B ∧
      Steps p.tables e below (T.setTop g) ((B.U.setTop { g with stack := rest }).pushFrame (.throwing q))) := by
  obtain ⟨mk, methM, cM, hnamed, hmethM, -, -, -, -, -, -, hsigM⟩ := Cond.codeWith_spec hcode
  have hstatic : methM.isStatic = true := Cond.static_spec hnamed hmethM hstat
  obtain ⟨kP, hkP, -⟩ := className_of_methodNamed hnamed
  have hinitP : kP.init = .initialized := Cond.initialized_spec (findClass_of_methodNamed hnamed) hkP hinit
  obtain ⟨vm₁, X₁, hstep₁⟩ := X.invokestatic hexec hown hlink hnamed hmethM hstatic hkP hinitP hy (g := g) hg (argsL := argsL) (rest := rest) (hlen _ hsigM) hstack hdg
  rcases hK m meth c ⟨T.setVm vm₁, locs, cells, slots⟩ { g with stack := rest } (.invokestatic index) mk argsL.toArray X₁ hg hsize hdg hW (X₁.named hnamed) (hpre vm₁ X₁.warmed) with ⟨v, B, X', hpost, hsteps⟩ | ⟨q, B, X', hpost, hsteps⟩
  · exact Or.inl ⟨v, vm₁, B, X₁.warmed, X', hpost, fun target h => hstep₁ _ fun acts => by rw [doInvoke_state]; exact hsteps.trans h⟩
  · exact Or.inr ⟨q, vm₁, B, X₁.warmed, X', hpost, hstep₁ _ fun acts => by rw [doInvoke_state]; exact hsteps⟩
theorem vx_callVW (X : Stand p l e R s m args below meth c T locs cells slots) (hexec : p.tables.exec = Jvm.exec) {own C : String} {index : Nat} {y : MethodName} {bytes : ByteArray} {maxL : Nat} {ret : Option FieldType} {hh : List (Nat × Nat × Nat × Nat)}
    (hown : s.vm.findClass own = some m.cls) (hlink : (Cond.methodLink own index y).before args s = true) (hinst : (Cond.instanceMethod y).before args s = true) (hsel : (Cond.selects C y y).before args s = true)
    (hcode : (Cond.codeWith y bytes maxL ret hh).before args s = true) (hy : y.cls ≠ "java/lang/invoke/MethodHandle" ∧ y.cls ≠ "java/lang/invoke/VarHandle")
    {W9 : Nat} {Pre : Pt → Array Value → Prop} {Post : Pt → Array Value → Option Value → Pt → Prop} (hK : Back l R p e below s args y 3 W9 Pre Post)
    {b : Addr} {cellB : Cell} (hcell : T.heap[b]? = some cellB) (hobj : cellB.vm.isStatics = false) (hcls : s.vm.findClass C = some cellB.cls)
    {g : JFrame} (hg : g.method = m) (hsize : g.locals.size = c.maxLocals) {argsL rest : List Value} (hlen : ∀ sig, parseMethodDescriptor y.desc = some sig → argsL.length = sig.parameters.length)
    (hstack : g.stack = argsL.reverse ++ .ref b :: rest) (hW : 2 * g.monitorRoom + (rest.map fun v => v.category).sum ≤ W9) (hdg : decode c.code g.pc = .ok (.invokevirtual index, 3))
    (hpre : ∀ vm₁, s.WarmedH vm₁ → Pre ⟨T.setVm vm₁, locs, cells, slots⟩ (Value.ref b :: argsL).toArray) :
    ∃ (v : Option Value) (vm₁ : Vm) (B : Pt), s.WarmedH vm₁ ∧ Stand p l e R s m args below meth c B.U B.locs B.cells B.slots ∧ Post ⟨T.setVm vm₁, locs, cells, slots⟩ (Value.ref b :: argsL).toArray v B ∧
      ∀ target, Steps p.tables e below (B.U.setTop { g with pc := g.pc + 3, stack := v.toList ++ rest }) target → Steps p.tables e below (T.setTop g) target := by
  obtain ⟨mk, methM, hnamed, hmethM, hstM, habM⟩ := Cond.instanceMethod_spec hinst
  obtain ⟨m8, methM', cM, hn8, hmethM', -, -, -, -, -, -, hsigM⟩ := Cond.codeWith_spec hcode
  cases Option.some.inj (hn8.symm.trans hnamed)
  cases hmethM.symm.trans hmethM'
  obtain ⟨c2, r2, m2, q1, q2, q3, q4, kP, hkP, hkPi⟩ := Cond.selects_spec hsel
  cases hcls.symm.trans q1
  cases (State.methodFound?_of_named hnamed hy).symm.trans q2
  cases hnamed.symm.trans q3
  have hselP : selectMethod e.platform s.vm cellB.cls mk = .method mk := by rw [Launch.admits_selectMethod X.admits]; exact q4
  obtain ⟨vm₁, X₁, hstep₁⟩ := X.invokevirtual hexec hown hlink hnamed hmethM hstM hkP hkPi hy (a := b) (cell := cellB) hcell
    (fun z h => by rw [h] at hobj; cases hobj) hselP hmethM habM hkP hkPi (g := g) hg (argsL := argsL) (rest := rest) (hlen _ hsigM) hstack hdg
  obtain ⟨v, B, X', hpost, hsteps⟩ := hK m meth c ⟨T.setVm vm₁, locs, cells, slots⟩ { g with stack := rest } (.invokevirtual index) mk (Value.ref b :: argsL).toArray X₁ hg hsize hdg hW (X₁.named hnamed) (hpre vm₁ X₁.warmed)
  exact ⟨v, vm₁, B, X₁.warmed, X', hpost, fun target h => hstep₁ _ fun acts => by rw [doInvoke_state]; exact hsteps.trans h⟩
abbrev vx_CVW (R : Room) (s : State) (args : Array Value) (own C : String) (index : Nat) (y : MethodName) (bytes : ByteArray) (maxL : Nat) (ret : Option FieldType) (hh : List (Nat × Nat × Nat × Nat)) (ws : List Cond) (rm : Room) (mc ms n : Nat) : Prop :=
  (rm.cells = mc ∧ rm.slots = ms ∧ rm.frames + 1 ≤ R.frames ∧ 8 + (maxL + 11) + rm.locals ≤ R.locals ∧ (∀ w ∈ ws, ∀ (a' : Array Value) (U : State), s.WarmedH U.vm → w.before a' U = true) ∧ Cond.codeWith y bytes maxL ret hh ∈ ws) ∧
  (Cond.codeWith y bytes maxL ret hh).before args s = true ∧ (Cond.initialized y.cls).before args s = true ∧ (y.cls ≠ "java/lang/invoke/MethodHandle" ∧ y.cls ≠ "java/lang/invoke/VarHandle") ∧
  (∀ sig, parseMethodDescriptor y.desc = some sig → n = sig.parameters.length) ∧ (Cond.methodLink own index y).before args s = true ∧ (Cond.instanceMethod y).before args s = true ∧ (Cond.selects C y y).before args s = true
theorem vx_cwVW {own C : String} {index maxL mc ms : Nat} {y : MethodName} {bytes : ByteArray} {ret : Option FieldType} {hh : List (Nat × Nat × Nat × Nat)} {Ts ws ws' : List Cond} {rm : Room} (n : Nat) (ht : ∀ w ∈ Ts, w.before args s = true) (hT : GoodIn Ts (wsV own index C y ws)) (hw : ws = Cond.codeWith y bytes maxL ret hh :: ws') (hrc : rm.cells = mc) (hrs : rm.slots = ms)
    (hd : y.cls = C ∧ y.cls ≠ "java/lang/invoke/MethodHandle" ∧ y.cls ≠ "java/lang/invoke/VarHandle" ∧ (parseMethodDescriptor y.desc).map (fun d => d.parameters.length) = some n) (hR : rm.frames + 1 ≤ R.frames ∧ 8 + (maxL + 11) + rm.locals ≤ R.locals) :
    vx_CVW R s args own C index y bytes maxL ret hh ws rm mc ms n := by
  obtain ⟨hC, hd⟩ := hd
  subst hC
  have ok : ∀ w ∈ wsV own index y.cls y ws, w.before args s = true := fun w h => ht w (hT w h).1
  have hG : GoodIn Ts ws := fun w h => hT w (by unfold wsV; exact List.mem_append_right _ h)
  have hc : Cond.codeWith y bytes maxL ret hh ∈ ws := by rw [hw]; exact List.mem_cons_self
  refine ⟨⟨hrc, hrs, hR.1, hR.2, pay_in ht hG, hc⟩, ht _ (hG _ hc).1, ok _ (by simp [wsV]), ⟨hd.1, hd.2.1⟩, fun sig h => ?_, ok _ (by simp [wsV]), ok _ (by simp [wsV]), ok _ (by simp [wsV])⟩
  have h2 := hd.2.2
  rw [h] at h2
  exact (Option.some.inj h2).symm
theorem vx_runVW {y : MethodName} {bytes cc : ByteArray} {maxL nL mc ms n index : Nat} {ret : Option FieldType} {hh : List (Nat × Nat × Nat × Nat)} {ws : List Cond} {rm : Room} {Pc : Array Value → State → Prop} {Qc : Array Value → State → Outcome → State → Prop} {free : Addr → Prop} {Ts : List Cond} {own C : String} {b : Addr} {As rest : List Value} {g : JFrame}
    (S : CallFix p m c cc nL s args Ts own) (hM : Met l y ws rm Pc Qc mc ms free) (cw : vx_CVW R s args own C index y bytes maxL ret hh ws rm mc ms n) (hp : PreV s H C b Pc As)
    (hg : g.method = m) (hn : As.length = n) (hsize : g.locals.size = nL) (hstack : g.stack = As.reverse ++ .ref b :: rest) (hW : 2 * g.monitorRoom + (rest.map fun v => v.category).sum ≤ 8) (hdg : decode cc g.pc = .ok (.invokevirtual index, 3)) (hf : cells + mc ≤ R.cells ∧ slots + ms ≤ R.slots) :
    va_Run p l e R s m args below meth c H locs cells slots mc ms g rest (Qc (Value.ref b :: As).toArray) free := by
  obtain ⟨⟨hrc, hrs, hfr, hlo, hws, hcw⟩, hcode, hini, hy, hlen, hl, hin, hse⟩ := cw
  have hK : Back l R p e below s args y 3 8 (PreOf R mc ms Pc) (PostOf Qc mc ms free) := va_backW (hh := hh) (bytes := bytes) (maxL := maxL) (ret := ret) hM hp.1 hrc hrs hfr hlo hws hcw (fun a' U hW => word_at hW (Or.inl (by first | rfl | simp [Cond.onTables, Cond.keeps, Cond.steady])) hini)
  obtain ⟨hx, hb, hml, ho, -⟩ := S
  obtain ⟨-, ⟨cellB, hcB, hoB, hclB⟩, hPc⟩ := hp
  intro T hT X
  obtain ⟨v, vm₁, ⟨U', l2, c2, s2⟩, hW₁, X', ⟨g', mk, t, L, e1, e2, hq, h1, hL, h2, h3⟩, st⟩ := vx_callVW X hx (C := C) (hh := hh) (bytes := bytes) (maxL := maxL) (ret := ret) ho hl hin hse hcode hy hK (by rw [hT]; exact hcB) hoB hclB hg (hsize.trans hml.symm) (argsL := As) (rest := rest) (fun sig h => hn.trans (hlen sig h)) hstack hW (by rw [hb]; exact hdg)
    (fun vm₁ hW₁ => ⟨hf.1, hf.2, hPc (T.setVm vm₁) hT hW₁⟩)
  dsimp only [Pt.U, Pt.locs, Pt.cells, Pt.slots] at X' e1 e2 h1 h2 h3 st
  subst h1; subst h2; subst h3
  exact ⟨v, (T.setVm vm₁).calling g' mk (Value.ref b :: As).toArray, t, U', L, hT, X', hL, e1, e2, hq, st⟩
section
variable {y : MethodName} {bytes cc : ByteArray} {maxL nL mc ms n index : Nat} {ret : Option FieldType} {ws : List Cond} {rm : Room} {Pc : Array Value → State → Prop} {Qc : Array Value → State → Outcome → State → Prop} {XC : String → State → State → Prop} {free : Addr → Prop} {Ts : List Cond} {own C : String} {b : Addr} {As rest : List Value} {g : JFrame}
theorem vx_runVX {hh : List (Nat × Nat × Nat × Nat)} (S : CallFix p m c cc nL s args Ts own) (hM : vx_Met l y ws rm Pc Qc XC mc ms free) (cw : vx_CVW R s args own C index y bytes maxL ret hh ws rm mc ms n) (hp : PreV s H C b Pc As)
    (hg : g.method = m) (hn : As.length = n) (hsize : g.locals.size = nL) (hstack : g.stack = As.reverse ++ .ref b :: rest) (hW : 2 * g.monitorRoom + (rest.map fun v => v.category).sum ≤ 8) (hdg : decode cc g.pc = .ok (.invokevirtual index, 3)) (hf : cells + mc ≤ R.cells ∧ slots + ms ≤ R.slots) :
    vx_Run p l e R s m args below meth c H locs cells slots mc ms g rest (Qc (Value.ref b :: As).toArray) XC free := by
  obtain ⟨⟨hrc, hrs, hfr, hlo, hws, hcw⟩, hcode, hini, hy, hlen, hl, hin, hse⟩ := cw
  have hK : vx_Back l R p e below s args y 3 8 (PreOf R mc ms Pc) (PostOf Qc mc ms free) (vx_Post XC mc ms free) := vx_backW (hh := hh) (bytes := bytes) (maxL := maxL) (ret := ret) hM hp.1 hrc hrs hfr hlo hws hcw (fun a' U hW => word_at hW (Or.inl (by first | rfl | simp [Cond.onTables, Cond.keeps, Cond.steady])) hini)
  obtain ⟨hx, hb, hml, ho, -⟩ := S
  obtain ⟨-, ⟨cellB, hcB, hoB, hclB⟩, hPc⟩ := hp
  intro T hT X
  rcases vx_callVX X hx (C := C) (hh := hh) (bytes := bytes) (maxL := maxL) (ret := ret) ho hl hin hse hcode hy hK (by rw [hT]; exact hcB) hoB hclB hg (hsize.trans hml.symm) (argsL := As) (rest := rest) (fun sig h => hn.trans (hlen sig h)) hstack hW (by rw [hb]; exact hdg)
    (fun vm₁ hW₁ => ⟨hf.1, hf.2, hPc (T.setVm vm₁) hT hW₁⟩) with ⟨v, vm₁, ⟨U', l2, c2, s2⟩, hW₁, X', ⟨g', mk, t, L, e1, e2, hq, h1, hL, h2, h3⟩, st⟩ | ⟨q, vm₁, ⟨U', l2, c2, s2⟩, hW₁, X', ⟨g', mk, t, L, E, ce, e1, e2, hq, hce, hcv, hcl, h1, hL, h2, h3⟩, st⟩
  · dsimp only [Pt.U, Pt.locs, Pt.cells, Pt.slots] at X' e1 e2 h1 h2 h3 st
    subst h1; subst h2; subst h3
    exact Or.inl ⟨v, (T.setVm vm₁).calling g' mk (Value.ref b :: As).toArray, t, U', L, hT, X', hL, e1, e2, hq, st⟩
  · dsimp only [Pt.U, Pt.locs, Pt.cells, Pt.slots] at X' e1 e2 h1 h2 h3 st hcl
    subst h1; subst h2; subst h3
    exact Or.inr ⟨q, (T.setVm vm₁).calling g' mk (Value.ref b :: As).toArray, t, U', L, E, ce, hT, X', hL, e1, e2, hq, hce, hcv, vx_cls hW₁ hcl, st⟩
theorem vx_runSX {hh : List (Nat × Nat × Nat × Nat)} (S : CallFix p m c cc nL s args Ts own) (hM : vx_Met l y ws rm Pc Qc XC mc ms free) (cw : vx_CSW R s args own index y bytes maxL ret hh ws rm mc ms n) (hp : PreS s H Pc As)
    (hg : g.method = m) (hn : As.length = n) (hsize : g.locals.size = nL) (hstack : g.stack = As.reverse ++ rest) (hW : 2 * g.monitorRoom + (rest.map fun v => v.category).sum ≤ 8) (hdg : decode cc g.pc = .ok (.invokestatic index, 3)) (hf : cells + mc ≤ R.cells ∧ slots + ms ≤ R.slots) :
    vx_Run p l e R s m args below meth c H locs cells slots mc ms g rest (Qc As.toArray) XC free := by
  obtain ⟨⟨hrc, hrs, hfr, hlo, hws, hcw⟩, hcode, hini, hy, hlen, hl, hstt⟩ := cw
  have hK : vx_Back l R p e below s args y 3 8 (PreOf R mc ms Pc) (PostOf Qc mc ms free) (vx_Post XC mc ms free) := vx_backW (hh := hh) (bytes := bytes) (maxL := maxL) (ret := ret) hM hp.1 hrc hrs hfr hlo hws hcw (fun a' U hW => word_at hW (Or.inl (by first | rfl | simp [Cond.onTables, Cond.keeps, Cond.steady])) hini)
  obtain ⟨hx, hb, hml, ho, -⟩ := S
  intro T hT X
  rcases vx_callSX X hx (hh := hh) (bytes := bytes) (maxL := maxL) (ret := ret) ho hl hstt hini hcode hy hK hg (hsize.trans hml.symm) (argsL := As) (rest := rest) (fun sig h => hn.trans (hlen sig h)) hstack hW (by rw [hb]; exact hdg)
    (fun vm₁ hW₁ => ⟨hf.1, hf.2, hp.2 (T.setVm vm₁) hT hW₁⟩) with ⟨v, vm₁, ⟨U', l2, c2, s2⟩, hW₁, X', ⟨g', mk, t, L, e1, e2, hq, h1, hL, h2, h3⟩, st⟩ | ⟨q, vm₁, ⟨U', l2, c2, s2⟩, hW₁, X', ⟨g', mk, t, L, E, ce, e1, e2, hq, hce, hcv, hcl, h1, hL, h2, h3⟩, st⟩
  · dsimp only [Pt.U, Pt.locs, Pt.cells, Pt.slots] at X' e1 e2 h1 h2 h3 st
    subst h1; subst h2; subst h3
    exact Or.inl ⟨v, (T.setVm vm₁).calling g' mk As.toArray, t, U', L, hT, X', hL, e1, e2, hq, st⟩
  · dsimp only [Pt.U, Pt.locs, Pt.cells, Pt.slots] at X' e1 e2 h1 h2 h3 st hcl
    subst h1; subst h2; subst h3
    exact Or.inr ⟨q, (T.setVm vm₁).calling g' mk As.toArray, t, U', L, E, ce, hT, X', hL, e1, e2, hq, hce, hcv, vx_cls hW₁ hcl, st⟩
end
end VXH
theorem vx_ofWH {l : Launch} {y : MethodName} {ws ws' : List Cond} {rm : Room} {Pc : Array Value → State → Prop} {Qc : Array Value → State → Outcome → State → Prop} {XC : String → State → State → Prop} {mc ms : Nat} {free : Addr → Prop} {cc : ByteArray} {maxL : Nat} {ret : Option FieldType} {hh : List (Nat × Nat × Nat × Nat)}
    (hy : plainName y.cls = true) (hw : ws = Cond.codeWith y cc maxL ret hh :: ws')
    (body : ∀ p e s m args below meth c s₁, BodyLoose p l y (headSpec ws rm) cc maxL ret e s m args below meth c s₁ → c.maxLocals = maxL → Pc args s →
      W p l e (headSpec ws rm).room s m args below meth c s.heap [] 0 0 (vx_MQ below Qc XC args s mc ms free) (entryFrame m args maxL)) : vx_Met l y ws rm Pc Qc XC mc ms free := by
  refine MetFree.of_bodyS (code := cc) (maxLocals := maxL) (ret := ret) hy ?_ ?_
  · intro args s m h hn
    obtain ⟨m9, meth, c, hn9, h1, h2, h3, h4, -, h5, h6, -⟩ := Cond.codeWith_spec (atoms_spec (ws := ws) h _ (by rw [hw]; exact List.mem_cons_self))
    cases hn.symm.trans hn9
    exact ⟨meth, c, h1, h2, h3, h4, h5, h6⟩
  · intro p e s m args below meth c s₁ B hml hP _
    have hh0 : s₁.heap = s.heap := by rw [B.state]; rfl
    obtain ⟨t, a1, o, b1, b2, b3⟩ := body p e s m args below meth c s₁ B hml hP s₁ hh0 (Stand.of_body B)
    exact ⟨t, o, a1, b1, b2, b3⟩
/-! ===== END ===== -/

/-! ===== BEGIN what the machine throws by itself, no traces kept ===== -/
section VXM
set_option maxHeartbeats 1000000 in
/-- the machine throws cls with the message text, no traces kept: from its note over the frame g to 'throwing' over the same frame (follows the proofs of Stand.vmThrowsMessage, Shelf/KitTracedVmS.lean, and Stand.throwsMessageColdBareV, StandMessageColdV.lean, without the step out of the frame) -/
theorem vx_vmAt {p : Program} {l : Launch} {e : Env} {R : Room} {s : State} {m₀ : MethodId} {args : Array Value} {below : List Frame} {meth : Method} {c : Code} {W : State} {locs : List Loc} {cells slots : Nat}
    (X : Stand p l e R s m₀ args below meth c W locs cells slots) (hexec : p.tables.exec = Jvm.exec) (htr : e.platform.stackTraces = false) {cls : String} {names : List String} {text : String}
    (hcls : Bundle.fit cls = true) (hnames : ∀ n ∈ names, Bundle.fit n = true) (hsoe : (cls == "java/lang/StackOverflowError") = false) (hoom : (cls == "java/lang/OutOfMemoryError") = false)
    (h : ∀ a ∈ Bundle.messageArmAtoms cls names, a.before args s = true)
    (hlocs : ∀ x ∈ locs, ∀ cell, s.heap[x.base]? = some cell → cell.vm.isStatics = false)
    (htext : (text == notModelled) = false) (hlimit : ¬ (stringBytes (stringToUtf16 text)).size > e.platform.arrayLengthLimit) (hheap : ¬ (stringBytes (stringToUtf16 text)).size * componentBytes .byte > e.platform.maxHeapBytes)
    {g : JFrame} (hg : g.method = m₀) (hsize : g.locals.size = c.maxLocals)
    (hRframes : names.length + 4 < R.frames) (hRlocals : 2 * g.monitorRoom + (g.stack.map fun v => v.category).sum + 10240 ≤ R.locals) (hshort : 13 * names.length + 55 ≤ 10240)
    (hRcells : cells + 3 ≤ R.cells) (hRslots : slots + ((stringBytes (stringToUtf16 text)).size + 4 + 6) ≤ R.slots) (hlocks : meth.locks = false) :
    ∃ (S : State) (q : Addr) (ce : Cell), (∀ target, Steps p.tables e below ((S.setTop g).pushFrame (.throwing q)) target → Steps p.tables e below ((W.setTop g).pushFrame (.throwNew cls (some text) none)) target) ∧
      Stand p l e R s m₀ args below meth c S locs (cells + 3) (slots + ((stringBytes (stringToUtf16 text)).size + 4 + 6)) ∧ S.heap[q]? = some ce ∧ s.vm.findClass cls = some ce.cls ∧ ce.vm = .none := by
  have howns : e.platform.frameOwnsMonitors = true := by rw [X.admits.platform]
  have hfin : e.platform.finalization = false := by rw [X.admits.platform]
  have hpl : e.platform.magicAccessors = ({} : Platform).magicAccessors := by rw [X.admits.platform]
  have a : ∀ x, x ∈ Bundle.messageArmAtoms cls names → x.holds args s none s [] = true := fun x hx => h x hx
  obtain ⟨T, Z0, L, -, Y⟩ := ThrowableC.of_atoms (args := args) howns hfin hpl (fun x hx => h x (by simp [Bundle.messageArmAtoms, hx]))
  obtain ⟨Z, M, LZ, LM, hnZ⟩ := Init0T.ofS_atoms (args := args) hpl L Y (fun x hx => h x (by simp [Bundle.messageArmAtoms, hx]))
  obtain ⟨P1, Ps, hlen, L1, hL, hP1m, hlink1, hlink⟩ := Bundle.chainS (args := args) hpl hnZ names cls hcls hnames (fun x hx => h x (by simp [Bundle.messageArmAtoms, hx]))
  obtain ⟨Zs, LZs, hn4, hfitv, hfitc⟩ := StringT.of_atoms (args := args) (fun x hx => h x (by simp [Bundle.messageArmAtoms, hx]))
  have hfound : s.vm.findClass cls = some P1.m.cls := findClass_of_methodNamed hP1m
  obtain ⟨c1, kX, hc1, hk, hord, -, -, hn6⟩ := Cond.instantiable_spec (a (.instantiable cls 6) (by simp [Bundle.messageArmAtoms]))
  cases Option.some.inj (hc1.symm.trans hfound)
  have hinit := Cond.initialized_spec hfound hk (a (.initialized cls) (by simp [Bundle.messageArmAtoms]))
  have hctor : kX.findMethod "<init>" "(Ljava/lang/String;)V" = some P1.m.idx := findMethod_of_methodNamed hP1m hk
  have hsel0 : selectMethod e.platform s.vm P1.m.cls T.fill0 = .method T.fill0 := by
    obtain ⟨c2, r2, m2, q1, q2, q3, q4, -⟩ := Cond.selects_spec (a (.selects cls Bundle.tFill0 Bundle.tFill0) (by simp [Bundle.messageArmAtoms]))
    cases Option.some.inj (q1.symm.trans hfound)
    cases Option.some.inj (q2.symm.trans (State.methodFound?_of_named Y.fill0 (by decide)))
    cases Option.some.inj (q3.symm.trans Y.fill0)
    rw [Launch.admits_selectMethod X.admits]; exact q4
  have hselF : selectMethod e.platform s.vm P1.m.cls T.fill = .method T.fill := by
    obtain ⟨c2, r2, m2, q1, q2, q3, q4, -⟩ := Cond.selects_spec (a (.selects cls Bundle.tFill Bundle.tFill) (by simp [Bundle.messageArmAtoms]))
    cases Option.some.inj (q1.symm.trans hfound)
    cases Option.some.inj (q2.symm.trans (State.methodFound?_of_named Y.fill (by decide)))
    cases Option.some.inj (q3.symm.trans Y.fill)
    rw [Launch.admits_selectMethod X.admits]; exact q4
  obtain ⟨cellS0, hcS0, hiss⟩ := Y.statics
  obtain ⟨u0, hu0⟩ := Cond.staticRefV Y.unassigned L.unassignedStatic L.statics hcS0 hiss (a (.isRef (.static Bundle.tN "UNASSIGNED_STACK" Bundle.steD)) (by simp [Bundle.messageArmAtoms]))
  obtain ⟨sen, hsen⟩ := Cond.staticRefV Y.sentinel L.sentinelStatic L.statics hcS0 hiss (a (.isRef (.static Bundle.tN "SUPPRESSED_SENTINEL" Bundle.listD)) (by simp [Bundle.messageArmAtoms]))
  obtain ⟨ci198, i198, fB, hk198, hg198, ha198, hsB, -, hnB, htB, hffB⟩ := Cond.ownField (t := .object "java/lang/Object") Y.found L.cls (by decide +kernel) (a (.fieldLink Bundle.tN 198 Bundle.tN "backtrace" "Ljava/lang/Object;") (by simp [Bundle.messageArmAtoms])) (a (.lays Bundle.tN Bundle.tN "backtrace" "Ljava/lang/Object;") (by simp [Bundle.messageArmAtoms])) e.platform hpl
  obtain ⟨cellS, hcS', heS, -, hkeep⟩ := X.same.2.2.2.2.2 T.aS cellS0 hcS0
  have hcellS : W.heap[T.aS]? = some cellS := hcS'
  have hout' : ∀ i, (⟨T.aS, i⟩ : Loc) ∉ locs := fun i hmem => by
    have := hlocs _ hmem cellS0 hcS0
    rw [hiss] at this; cases this
  have hknownS : cellS.vm ≠ .unknown := by
    rw [heS]; intro hu
    rw [show cellS0.vm = .unknown from hu] at hiss
    cases hiss
  have hvU : cellS.slots[T.fUnassigned.slot]? = some u0.v := by rw [hkeep _ (hout' _)]; exact hu0
  have hvSen : cellS.slots[T.fSentinel.slot]? = some sen.v := by rw [hkeep _ (hout' _)]; exact hsen
  obtain ⟨iM, hffM⟩ := Y.msg
  obtain ⟨tyC, dC, hdC, hdnC⟩ := Cond.laysAt hfound hk Y.cause (a (.lays cls Bundle.tN "cause" "Ljava/lang/Throwable;") (by simp [Bundle.messageArmAtoms]))
  obtain ⟨tyS, dS, hdS, hdnS⟩ := Cond.laysAt hfound hk Y.stack (a (.lays cls Bundle.tN "stackTrace" Bundle.steD) (by simp [Bundle.messageArmAtoms]))
  obtain ⟨tyP, dP, hdP, hdnP⟩ := Cond.laysAt hfound hk Y.supp (a (.lays cls Bundle.tN "suppressedExceptions" Bundle.listD) (by simp [Bundle.messageArmAtoms]))
  obtain ⟨tyM, dM, hdM, hdnM⟩ := Cond.laysAt hfound hk hffM (a (.lays cls Bundle.tN "detailMessage" "Ljava/lang/String;") (by simp [Bundle.messageArmAtoms]))
  obtain ⟨tyB, dB, hdB, hdnB⟩ := Cond.laysAt hfound hk hffB (a (.lays cls Bundle.tN "backtrace" "Ljava/lang/Object;") (by simp [Bundle.messageArmAtoms]))
  have bC := Cond.laysApart hdB hdC hdnB hdnC (by rw [hnB, Y.causeName]; decide)
  have bS := Cond.laysApart hdB hdS hdnB hdnS (by rw [hnB, Y.stackName]; decide)
  have bP := Cond.laysApart hdB hdP hdnB hdnP (by rw [hnB, Y.suppName]; decide)
  have hbk : ((preparedCellV T.toThrowableT (freshCell P1.m.cls kX) (W.heap.size + 2) u0 sen).withEntry W.cur).slots[fB.slot]? = some .null := by
    have := fresh_default (c := P1.m.cls) tyB
    rw [htB] at this
    simpa [preparedCellV, Cell.setSlot, Cell.withEntry, Array.getElem?_setIfInBounds, bC, bS, bP, bC.symm, bS.symm, bP.symm, defaultValue] using this
  have tkC := Takes.of_laid (v := .ref (W.heap.size + 2)) hk hord tyC (by rw [Y.causeType]; rfl)
  have tkS := Takes.of_laid (v := u0.v) hk hord tyS (by rw [Y.stackType]; exact fits_refV_array _ u0)
  have tkP := Takes.of_laid (v := sen.v) hk hord tyP (by rw [Y.suppType]; exact fits_refV_object _ sen)
  have tkM := Takes.of_laid (v := .ref (W.heap.size + 1)) hk hord tyM (by rw [Y.msgType]; rfl)
  have hskip : SkipFacts T e.platform s (fun u => u) u0 ((preparedCellV T.toThrowableT (freshCell P1.m.cls kX) (W.heap.size + 2) u0 sen).withEntry W.cur) := ⟨{ ci198 := ci198, i198 := i198, fBack := fB }, ⟨hk198, hg198, ha198, hsB⟩, hbk, fun _ _ => rfl⟩
  have h0 : At W g.method c below := by rw [hg]; exact X.here
  obtain ⟨hbeyond, hfreeW⟩ := X.vmMayThrow hsize (.throwNew cls (some text) none) (fun f hf => by cases hf) rfl hRlocals
  have hfr' : W.frames.length + Ps.length + 4 < (e.platform.stackLimits W.me).1 := by have := X.framesAbove hRframes; omega
  have hwd' : (stackUse (.java g :: W.frames.tail)).2 + 13 * Ps.length + 55 ≤ (e.platform.stackLimits W.me).2 := by have := X.stackAbove hsize (K := 13 * Ps.length + 55) (by omega); omega
  have hslots : W.slotsUsed + (stringBytes (stringToUtf16 text)).size + Zs.kS.instanceTypes.size + kX.instanceTypes.size ≤ e.platform.maxSlots := by
    have := X.slotsAbove hRslots
    rw [hn4, hn6]
    omega
  obtain ⟨vm', hW', st⟩ := Steps.vmThrowsMessageColdByV p (s₀ := s) (S := W) (g := g) h0 hexec T L Z LZ M LM X.warmed (t := W.cur) rfl Zs LZs P1 L1 Ps hL hlink1 hlink hsoe hoom hfound hk hinit hord hctor
    (Launch.admits_hotImplicitExceptions X.admits) hbeyond hfreeW htext hlimit hheap (X.cellsAbove hRcells) hslots (hfitv _) (hfitc _)
    (Nn := fun u => u) heapOnly_id (fun _ _ => rfl) (fun _ => rfl) (fun u x y => setCell_twice _ _ _ _) (fun _ => Nat.le_refl _) (cN := ((preparedCellV T.toThrowableT (freshCell P1.m.cls kX) (W.heap.size + 2) u0 sen).withEntry W.cur))
    hsel0 hcellS hknownS hvU tkS (fun _ hu => hu) (fun _ hu => hu) rfl rfl rfl (by simp [preparedCellV, Cell.setSlot, Cell.withEntry]) hskip (fun _ _ hA hW _ hroom _ hrest => L.nativeOff p htr hA hW hroom hrest) hselF hvSen tkC tkP tkM Y.objLocals rfl hfr' hwd'
  rw [plainBareV_eq T.toThrowableT (W.heap.size + 2) u0 sen (.ref (W.heap.size + 1)) W.cur rfl rfl] at st
  obtain ⟨-, -, w3, w4, -, -, -⟩ := withThrown_facts e.platform W Zs text P1.m.cls kX
  have X3 := ((X.pushed (bytesOf Zs.cB (stringToUtf16 text))).pushed (stringAt Zs.cS Zs.kS Zs.fv Zs.fc (stringToUtf16 text) W.heap.size)).pushed (freshCell P1.m.cls kX)
  rw [← withString_eq] at X3
  have X4 := X3.noted hW'
  have ha : (W.heap.size + 2) < ((withThrown W Zs text P1.m.cls kX).setVm vm').heap.size := by show _ < (withThrown W Zs text P1.m.cls kX).heap.size; rw [w3]; omega
  have hcell : ((withThrown W Zs text P1.m.cls kX).setVm vm').heap[(W.heap.size + 2)]? = some (freshCell P1.m.cls kX) := w4
  have X5 := ((((X4.stored hcell T.fCause.slot (.ref (W.heap.size + 2))).storedAgain ha T.fStack.slot u0.v).storedAgain ha T.fSupp.slot sen.v).storedAgain ha T.fStack.slot u0.v).storedAgain ha T.fMsg.slot (.ref (W.heap.size + 1))
  obtain ⟨g₁, hfrM⟩ := X5.frames_eq
  have hU : ((((withThrown W Zs text P1.m.cls kX).setVm vm').setCell (W.heap.size + 2) (plainBareV T.toThrowableT (freshCell P1.m.cls kX) (W.heap.size + 2) u0 sen (.ref (W.heap.size + 1)))).setTop g).pushFrame (.throwing (W.heap.size + 2)) = (((withThrown W Zs text P1.m.cls kX).setVm vm').setCell (W.heap.size + 2) (plainBareV T.toThrowableT (freshCell P1.m.cls kX) (W.heap.size + 2) u0 sen (.ref (W.heap.size + 1)))).setFrames (.throwing (W.heap.size + 2) :: .java g :: below) := by
    rw [State.pushFrame, State.frames_setTop _ hfrM, State.setTop_of_frames _ hfrM, State.setFrames_setFrames]
  have b1 : (bytesOf Zs.cB (stringToUtf16 text)).slots.size = (stringBytes (stringToUtf16 text)).size := by
    rw [(Cell.writeAll_facts _ _).2.2]; simp [bytes0]
  have b2 : (stringAt Zs.cS Zs.kS Zs.fv Zs.fc (stringToUtf16 text) W.heap.size).slots.size = 4 := by simp [string0, Cell.setSlot, hn4]
  have b3 : (freshCell P1.m.cls kX).slots.size = 6 := by simp [hn6]
  rw [b1, b2, b3] at X5
  have e9 : slots + (stringBytes (stringToUtf16 text)).size + 4 + 6 = slots + ((stringBytes (stringToUtf16 text)).size + 4 + 6) := by omega
  rw [e9] at X5
  simp only [List.append_assoc, List.cons_append, List.nil_append] at X5
  refine ⟨((withThrown W Zs text P1.m.cls kX).setVm vm').setCell (W.heap.size + 2) (plainBareV T.toThrowableT (freshCell P1.m.cls kX) (W.heap.size + 2) u0 sen (.ref (W.heap.size + 1))), W.heap.size + 2, _, fun target ht => st _ (by rw [X.tail, ← hU]; exact ht),
    X5.forget (fun y hy => ?_), heapAt_setCell_self _ ha, hfound, rfl⟩
  simp only [List.mem_cons, List.not_mem_nil, or_false] at hy
  have hge : s.heap.size ≤ W.heap.size := X.same.2.1
  rcases hy with rfl | rfl | rfl | rfl | rfl <;> exact Nat.le_trans hge (Nat.le_add_right _ 2)
set_option maxHeartbeats 1000000 in
/-- the machine throws NullPointerException, no traces kept: from its note over the frame g to 'throwing' over the same frame (follows the proof of Stand.vmThrowsNpe, Shelf42/KT2.lean; throwsNpeColdBareVAt, Shelf42/NT91.lean, called) -/
theorem vx_npeAt {p : Program} {l : Launch} {e : Env} {R : Room} {s : State} {m₀ : MethodId} {args : Array Value} {below : List Frame} {meth : Method} {c : Code} {W : State} {locs : List Loc} {cells slots : Nat}
    (X : Stand p l e R s m₀ args below meth c W locs cells slots) (hexec : p.tables.exec = Jvm.exec) (htr : e.platform.stackTraces = false) {n : Nat}
    (h : ∀ a ∈ Bundle.npeArmAtoms n, a.before args s = true)
    (hlocs : ∀ x ∈ locs, ∀ cell, s.heap[x.base]? = some cell → cell.vm.isStatics = false)
    {g : JFrame} (hg : g.method = m₀) (hsize : g.locals.size = c.maxLocals)
    (hRframes : 7 < R.frames) (hRlocals : 2 * g.monitorRoom + (g.stack.map fun v => v.category).sum + 10240 ≤ R.locals)
    (hRcells : cells + 1 ≤ R.cells) (hRslots : slots + n ≤ R.slots) (hlocks : meth.locks = false) :
    ∃ (S : State) (q : Addr) (ce : Cell), (∀ target, Steps p.tables e below ((S.setTop g).pushFrame (.throwing q)) target → Steps p.tables e below ((W.setTop g).pushFrame (.throwNew "java/lang/NullPointerException" none none)) target) ∧
      Stand p l e R s m₀ args below meth c S locs (cells + 1) (slots + n) ∧ S.heap[q]? = some ce ∧ s.vm.findClass "java/lang/NullPointerException" = some ce.cls ∧ ce.vm = .none := by
  have howns : e.platform.frameOwnsMonitors = true := by rw [X.admits.platform]
  have hfin : e.platform.finalization = false := by rw [X.admits.platform]
  have hpl : e.platform.magicAccessors = ({} : Platform).magicAccessors := by rw [X.admits.platform]
  have hpl2 : e.platform.arrayCloneIsPublic = true := by rw [X.admits.platform]
  have a' : ∀ x, x ∈ Bundle.npeArmAtoms n → x.holds args s none s [] = true := fun x hx => h x hx
  obtain ⟨T, Z, L, LZ, Y⟩ := ThrowableC.of_atoms (args := args) howns hfin hpl (fun x hx => h x (by simp [Bundle.npeArmAtoms, hx]))
  obtain ⟨N, LN, hcN, hnNF, hordN, hffS⟩ := NpeC.of_atoms (args := args) hpl hpl2 L Y (fun x hx => h x (by simp [Bundle.npeArmAtoms, hx]))
  obtain ⟨P1, L1, hP1m, hP1s⟩ := PassC.of_atoms (args := args) (s := s) hpl (X := Bundle.nN) (Y := Bundle.rN) (by decide) (by decide) LibCode.NullPointerException.Init0.at_0 LibCode.NullPointerException.Init0.at_1 LibCode.NullPointerException.Init0.at_4 (fun x hx => h x (by simp [Bundle.npeArmAtoms, hx]))
  obtain ⟨PR, LR, hPRm, hPRs⟩ := PassC.of_atoms (args := args) (s := s) hpl (X := Bundle.rN) (Y := Bundle.eN) (by decide) (by decide) LibCode.RuntimeException.Init0.at_0 LibCode.RuntimeException.Init0.at_1 LibCode.RuntimeException.Init0.at_4 (fun x hx => h x (by simp [Bundle.npeArmAtoms, hx]))
  obtain ⟨PE, LEx, hPEm, hPEs⟩ := PassC.of_atoms (args := args) (s := s) hpl (X := Bundle.eN) (Y := Bundle.tN) (by decide) (by decide) LibCode.Exception.Init0.at_0 LibCode.Exception.Init0.at_1 LibCode.Exception.Init0.at_4 (fun x hx => h x (by simp [Bundle.npeArmAtoms, hx]))
  have hfound : s.vm.findClass Bundle.nN = some P1.m.cls := findClass_of_methodNamed hP1m
  have ecls : N.cN = P1.m.cls := Option.some.inj (hcN.symm.trans hfound)
  have hk : s.vm.classes[P1.m.cls]? = some N.kN := by rw [← ecls]; exact LN.cls
  have hinit := Cond.initialized_spec hfound hk (a' (.initialized Bundle.nN) (by simp [Bundle.npeArmAtoms]))
  have hctor : N.kN.findMethod "<init>" "()V" = some P1.m.idx := findMethod_of_methodNamed hP1m hk
  obtain ⟨c1, k1, hc1, hk1, -, -, -, hn⟩ := Cond.instantiable_spec (a' (.instantiable Bundle.nN n) (by simp [Bundle.npeArmAtoms]))
  cases Option.some.inj (hc1.symm.trans hfound)
  cases Option.some.inj (hk1.symm.trans hk)
  have hfsz : (freshCell P1.m.cls N.kN).slots.size = n := by simp [hn]
  have hlink1 : P1.sup = PR.m := Option.some.inj (hP1s.symm.trans hPRm)
  have hlinkR : PR.sup = PE.m := Option.some.inj (hPRs.symm.trans hPEm)
  have hlinkE : PE.sup = Z.m T.toThrowableT := Option.some.inj (hPEs.symm.trans Y.init0)
  have hLs : ∀ P, P ∈ [PR, PE] → P.Links0 e.platform s := fun P hP => by
    simp only [List.mem_cons, List.not_mem_nil, or_false] at hP
    rcases hP with rfl | rfl
    · exact LR
    · exact LEx
  have hsel0 : selectMethod e.platform s.vm P1.m.cls T.fill0 = .method T.fill0 := by
    obtain ⟨c2, r2, m2, q1, q2, q3, q4, -⟩ := Cond.selects_spec (a' (.selects Bundle.nN Bundle.tFill0 Bundle.tFill0) (by simp [Bundle.npeArmAtoms]))
    cases Option.some.inj (q1.symm.trans hfound)
    cases Option.some.inj (q2.symm.trans (State.methodFound?_of_named Y.fill0 (by decide)))
    cases Option.some.inj (q3.symm.trans Y.fill0)
    rw [Launch.admits_selectMethod X.admits]; exact q4
  have hselF : selectMethod e.platform s.vm P1.m.cls T.fill = .method N.fill := by
    obtain ⟨c2, r2, m2, q1, q2, q3, q4, -⟩ := Cond.selects_spec (a' (.selects Bundle.nN Bundle.tFill Bundle.nFill) (by simp [Bundle.npeArmAtoms]))
    cases Option.some.inj (q1.symm.trans hfound)
    cases Option.some.inj (q2.symm.trans (State.methodFound?_of_named Y.fill (by decide)))
    cases Option.some.inj (q3.symm.trans hnNF)
    rw [Launch.admits_selectMethod X.admits]; exact q4
  obtain ⟨cellS0, hcS0, hiss⟩ := Y.statics
  obtain ⟨u0, hu0⟩ := Cond.staticRefV Y.unassigned L.unassignedStatic L.statics hcS0 hiss (a' (.isRef (.static Bundle.tN "UNASSIGNED_STACK" Bundle.steD)) (by simp [Bundle.npeArmAtoms]))
  obtain ⟨sen, hsen⟩ := Cond.staticRefV Y.sentinel L.sentinelStatic L.statics hcS0 hiss (a' (.isRef (.static Bundle.tN "SUPPRESSED_SENTINEL" Bundle.listD)) (by simp [Bundle.npeArmAtoms]))
  obtain ⟨ci198, i198, fB, hk198, hg198, ha198, hsB, -, hnB, htB, hffB⟩ := Cond.ownField (t := .object "java/lang/Object") Y.found L.cls (by decide +kernel) (a' (.fieldLink Bundle.tN 198 Bundle.tN "backtrace" Bundle.objD) (by simp [Bundle.npeArmAtoms])) (a' (.lays Bundle.tN Bundle.tN "backtrace" Bundle.objD) (by simp [Bundle.npeArmAtoms])) e.platform hpl
  obtain ⟨cellS, hcS', heS, -, hkeep⟩ := X.same.2.2.2.2.2 T.aS cellS0 hcS0
  have hcellS : W.heap[T.aS]? = some cellS := hcS'
  have hout' : ∀ i, (⟨T.aS, i⟩ : Loc) ∉ locs := fun i hmem => by
    have := hlocs _ hmem cellS0 hcS0
    rw [hiss] at this; cases this
  have hknownS : cellS.vm ≠ .unknown := by
    rw [heS]; intro hu
    rw [show cellS0.vm = .unknown from hu] at hiss
    cases hiss
  have hvU : cellS.slots[T.fUnassigned.slot]? = some u0.v := by rw [hkeep _ (hout' _)]; exact hu0
  have hvSen : cellS.slots[T.fSentinel.slot]? = some sen.v := by rw [hkeep _ (hout' _)]; exact hsen
  obtain ⟨tyC, dC, hdC, hdnC⟩ := Cond.laysAt hfound hk Y.cause (a' (.lays Bundle.nN Bundle.tN "cause" "Ljava/lang/Throwable;") (by simp [Bundle.npeArmAtoms]))
  obtain ⟨tyS, dS, hdS, hdnS⟩ := Cond.laysAt hfound hk Y.stack (a' (.lays Bundle.nN Bundle.tN "stackTrace" Bundle.steD) (by simp [Bundle.npeArmAtoms]))
  obtain ⟨tyP, dP, hdP, hdnP⟩ := Cond.laysAt hfound hk Y.supp (a' (.lays Bundle.nN Bundle.tN "suppressedExceptions" Bundle.listD) (by simp [Bundle.npeArmAtoms]))
  obtain ⟨tyX, dX, hdX, hdnX⟩ := Cond.laysAt hfound hk hffS (a' (.lays Bundle.nN Bundle.nN "extendedMessageState" "I") (by simp [Bundle.npeArmAtoms, Bundle.npeAtoms]))
  obtain ⟨hnX, htX⟩ := State.fieldFound?_type hffS (t := .int) (by decide +kernel)
  have xC := Cond.laysApart hdC hdX hdnC hdnX (by rw [hnX, Y.causeName]; decide)
  have xS := Cond.laysApart hdS hdX hdnS hdnX (by rw [hnX, Y.stackName]; decide)
  have xP := Cond.laysApart hdP hdX hdnP hdnX (by rw [hnX, Y.suppName]; decide)
  have hv0 : (freshCell P1.m.cls N.kN).slots[N.fState.slot]? = some (.int 0) := by
    have := fresh_default (c := P1.m.cls) tyX
    rw [htX] at this; exact this
  obtain ⟨tyB, dB, hdB, hdnB⟩ := Cond.laysAt hfound hk hffB (a' (.lays Bundle.nN Bundle.tN "backtrace" Bundle.objD) (by simp [Bundle.npeArmAtoms]))
  have bC := Cond.laysApart hdB hdC hdnB hdnC (by rw [hnB, Y.causeName]; decide)
  have bS := Cond.laysApart hdB hdS hdnB hdnS (by rw [hnB, Y.stackName]; decide)
  have bP := Cond.laysApart hdB hdP hdnB hdnP (by rw [hnB, Y.suppName]; decide)
  have bX := Cond.laysApart hdB hdX hdnB hdnX (by rw [hnB, hnX]; decide)
  have hbk : ((npeCell N.toNpeT (preparedCellV T.toThrowableT (freshCell P1.m.cls N.kN) W.heap.size u0 sen) W.cur).withEntry W.cur).slots[fB.slot]? = some .null := by
    have := fresh_default (c := P1.m.cls) tyB
    rw [htB] at this
    simpa [npeCell, preparedCellV, Cell.setSlot, Cell.withEntry, Array.getElem?_setIfInBounds, bC, bS, bP, bX, bC.symm, bS.symm, bP.symm, bX.symm, defaultValue] using this
  have tkC := Takes.of_laid (v := .ref W.heap.size) hk hordN tyC (by rw [Y.causeType]; rfl)
  have tkS := Takes.of_laid (v := u0.v) hk hordN tyS (by rw [Y.stackType]; exact fits_refV_array _ u0)
  have tkP := Takes.of_laid (v := sen.v) hk hordN tyP (by rw [Y.suppType]; exact fits_refV_object _ sen)
  have tkX := Takes.of_laid (v := .int 1) hk hordN tyX (by rw [htX]; rfl)
  have hskip : SkipFacts T e.platform s (fun u => u) u0 ((npeCell N.toNpeT (preparedCellV T.toThrowableT (freshCell P1.m.cls N.kN) W.heap.size u0 sen) W.cur).withEntry W.cur) := ⟨{ ci198 := ci198, i198 := i198, fBack := fB }, ⟨hk198, hg198, ha198, hsB⟩, hbk, fun _ _ => rfl⟩
  obtain ⟨vm', X3, st, -⟩ := X.throwsNpeColdBareVAt hexec hg hsize T L Z LZ N LN P1 L1 [PR, PE] hLs hlink1 ⟨hlinkR, hlinkE, trivial⟩ hfound hk hinit hordN hctor hsel0 hselF hcellS hknownS hvU hvSen
    hv0 xC xS xP tkC tkS tkP tkX Y.objLocals hskip (fun _ _ hA hW _ hroom _ hrest => L.nativeOff p htr hA hW hroom hrest) (by simpa using hRframes) hRlocals (by simp) hRcells (by rw [hn]; exact hRslots)
  have hlt : W.heap.size < ((W.pushCell (freshCell P1.m.cls N.kN)).setVm vm').heap.size := by
    show W.heap.size < (W.pushCell (freshCell P1.m.cls N.kN)).heap.size
    rw [State.heap_size_pushCell]; omega
  rw [hfsz] at X3
  obtain ⟨g₁, hfrM⟩ := X3.frames_eq
  have hU : ((((W.pushCell (freshCell P1.m.cls N.kN)).setVm vm').setCell W.heap.size (npeBareV T.toThrowableT N.toNpeT (freshCell P1.m.cls N.kN) W.heap.size u0 sen)).setTop g).pushFrame (.throwing W.heap.size) = (((W.pushCell (freshCell P1.m.cls N.kN)).setVm vm').setCell W.heap.size (npeBareV T.toThrowableT N.toNpeT (freshCell P1.m.cls N.kN) W.heap.size u0 sen)).setFrames (.throwing W.heap.size :: .java g :: below) := by
    rw [State.pushFrame, State.frames_setTop _ hfrM, State.setTop_of_frames _ hfrM, State.setFrames_setFrames]
  refine ⟨_, W.heap.size, _, fun target ht => st.trans (by rw [← hU]; exact ht), X3.forget (fun y hy => ?_), heapAt_setCell_self _ hlt, hfound, rfl⟩
  simp only [List.mem_cons, List.not_mem_nil, or_false] at hy
  have hge : s.heap.size ≤ W.heap.size := X.same.2.1
  rcases hy with rfl | rfl | rfl | rfl | rfl <;> exact hge
/-- the words of a machine's NullPointerException, but the four that speak of the heap -/
def vx_atN (n : Nat) : List Cond := (Bundle.npeArmAtoms n).filter vx_no
/-- the words of a machine's throw with a message, but the four that speak of the heap -/
def vx_atM (X : String) (names : List String) : List Cond := (Bundle.messageArmAtoms X names).filter vx_no
section
variable {p : Program} {l : Launch} {e : Env} {R : Room} {s : State} {m : MethodId} {args : Array Value} {below : List Frame} {meth : Method} {c : Code} {H : Heap} {locs : List Loc} {cells slots : Nat}
/-- a frame seen from a rebased start, seen from the first start again -/
theorem vx_back9 {T S : State} {R' : Room} {k n : Nat} (X : Stand p l e R s m args below meth c T locs cells slots) (Y : Stand p l e R' ((T.setVm s.vm).setFrames (.invoking m args :: below)) m args below meth c T [] 0 0) (Z : Stand p l e R' ((T.setVm s.vm).setFrames (.invoking m args :: below)) m args below meth c S [] k n) :
    Stand p l e R s m args below meth c S locs (cells + k) (slots + n) := by
  have hW0 : s.WarmedH ((T.setVm s.vm).setFrames (.invoking m args :: below)).vm := State.WarmedH.refl s
  refine { admits := X.admits, cas := X.cas, clock := X.clock, frames := X.frames, room := X.room, hears := X.hears, method := X.method, code := X.code, here := Z.here, tail := Z.tail, warmed := State.WarmedH.trans hW0 Z.warmed, limits := Z.limits.trans (Y.limits.symm.trans X.limits), bytes := Z.bytes.trans (Y.bytes.symm.trans X.bytes), same := ?_ }
  obtain ⟨e1, e2⟩ := Z.same
  rw [State.setFrames_setFrames] at e1
  have h2 : (T.setVm s.vm).sameButNew (S.setVm s.vm) [] k n := ⟨e1, e2⟩
  have h3 := X.same.trans h2
  rw [List.append_nil] at h3
  exact h3
/-- from the machine's note that E is thrown here with this text -/
def vx_Note (p : Program) (l : Launch) (e : Env) (R : Room) (s : State) (m : MethodId) (args : Array Value) (below : List Frame) (meth : Method) (c : Code) (H : Heap) (locs : List Loc) (cells slots : Nat) (Q : State → Prop) (g : JFrame) (E text : String) : Prop :=
  ∀ T : State, T.heap = H → Stand p l e R s m args below meth c T locs cells slots → ∃ t, Steps p.tables e below ((T.setTop g).pushFrame (.throwNew E (some text) none)) t ∧ Q t
theorem vx_vm {pc : Nat} {ls : Array Slot} {rest : List Value} {Q : State → Prop} (hexec : p.tables.exec = Jvm.exec) (hl : l.stackTraces = false) {cls text : String} {names : List String} {nb : Nat} {A : Nat → Prop}
    (hcls : Bundle.fit cls = true) (hnames : ∀ n ∈ names, Bundle.fit n = true) (hsoe : (cls == "java/lang/StackOverflowError") = false) (hoom : (cls == "java/lang/OutOfMemoryError") = false)
    (hat : ∀ w ∈ vx_atM cls names, w.before args s = true) (hgood : ∀ w ∈ vx_atM cls names, vx_ot w = true)
    (hU : vx_Zq Bundle.tN "UNASSIGNED_STACK" Bundle.steD A s s.heap) (hN : vx_Zq Bundle.tN "SUPPRESSED_SENTINEL" Bundle.listD A s s.heap) (hS : va_S A s.heap H locs) (hsize : ls.size = c.maxLocals)
    (htext : (text == notModelled) = false) (hnb : (stringBytes (stringToUtf16 text)).size ≤ nb) (hnb1 : nb ≤ 1000)
    (hRframes : names.length + 4 < R.frames) (hRlocals : (rest.map fun v => v.category).sum + 10240 ≤ R.locals) (hshort : 13 * names.length + 55 ≤ 10240) (hRcells : cells + 3 ≤ R.cells) (hRslots : slots + (nb + 10) ≤ R.slots) (hlocks : meth.locks = false)
    (k : ∀ (H1 : Heap) (q9 : Addr) (ce : Cell), H.size ≤ H1.size → (∀ q : Nat, q < H.size → H1[q]? = H[q]?) → va_S A s.heap H1 locs → H1[q9]? = some ce → ce.vm = .none → s.vm.findClass cls = some ce.cls → vx_W p l e R s m args below meth c H1 locs (cells + 3) (slots + (nb + 10)) Q (F0 m pc ls rest) q9) :
    vx_Note p l e R s m args below meth c H locs cells slots Q (F0 m pc ls rest) cls text := by
  intro T hT X
  have htr : e.platform.stackTraces = false := (show e.platform.stackTraces = l.stackTraces by rw [X.admits.platform]).trans hl
  have Y := vx_rebase X (R' := { frames := R.frames, locals := R.locals, cells := 3, slots := nb + 10 }) (Nat.le_refl _) (Nat.le_refl _) hRcells hRslots
  have hhp : ((T.setVm s.vm).setFrames (.invoking m args :: below)).heap = H := hT
  have hW0 : s.WarmedH ((T.setVm s.vm).setFrames (.invoking m args :: below)).vm := State.WarmedH.refl s
  have hat' : ∀ w ∈ vx_atM cls names, w.before args ((T.setVm s.vm).setFrames (.invoking m args :: below)) = true := fun w hw => vx_ot_at hW0 rfl (hgood w hw) (hat w hw)
  have hU' : vx_Zq Bundle.tN "UNASSIGNED_STACK" Bundle.steD A ((T.setVm s.vm).setFrames (.invoking m args :: below)) ((T.setVm s.vm).setFrames (.invoking m args :: below)).heap := by rw [hhp]; exact vx_Zq.moved hW0.alike (hU.kept hS.2.1)
  have hN' : vx_Zq Bundle.tN "SUPPRESSED_SENTINEL" Bundle.listD A ((T.setVm s.vm).setFrames (.invoking m args :: below)) ((T.setVm s.vm).setFrames (.invoking m args :: below)).heap := by rw [hhp]; exact vx_Zq.moved hW0.alike (hN.kept hS.2.1)
  obtain ⟨S, q, ce, st, Z, hce, hcl', hv⟩ := vx_vmAt Y hexec htr (cls := cls) (names := names) (text := text) hcls hnames hsoe hoom (vx_own hat' (vx_isRefq hU'.1) (vx_isRefq hN'.1) hU'.2.word hN'.2.word) (fun x hx => nomatch hx) htext
    (by rw [Launch.admits_arrayLengthLimit X.admits]; omega) (by rw [Launch.admits_maxHeapBytes X.admits]; simp only [componentBytes]; omega)
    (g := F0 m pc ls rest) rfl hsize hRframes (by show 2 * 0 + (rest.map fun v => v.category).sum + 10240 ≤ R.locals; omega) hshort (by show 0 + 3 ≤ 3; omega) (by show 0 + (_ + 4 + 6) ≤ nb + 10; omega) hlocks
  obtain ⟨f1, f2⟩ := vx_frame Z.same
  have f1' : H.size ≤ S.heap.size := by rw [← hT]; exact f1
  have f2' : ∀ q : Nat, q < H.size → S.heap[q]? = H[q]? := fun q hq => by
    rw [← hT]
    exact f2 q (by rw [← hT] at hq; exact hq) (fun z hz => nomatch hz)
  have X5 := vx_back9 X Y Z
  have X6 : Stand p l e R s m args below meth c S locs (cells + 3) (slots + (nb + 10)) := { X5 with same := X5.same.mono (by omega) (by omega) }
  obtain ⟨t, a1, b1⟩ := k S.heap q ce f1' f2' ⟨Nat.le_trans hS.1 f1', fun q h1 h2 => (f2' q (Nat.lt_of_lt_of_le h1 hS.1)).trans (hS.2.1 q h1 h2), hS.2.2⟩ hce hv hcl' S rfl X6
  exact ⟨t, st t a1, b1⟩
/-- from the machine's note that NullPointerException is thrown here -/
def vx_NoteN (p : Program) (l : Launch) (e : Env) (R : Room) (s : State) (m : MethodId) (args : Array Value) (below : List Frame) (meth : Method) (c : Code) (H : Heap) (locs : List Loc) (cells slots : Nat) (Q : State → Prop) (g : JFrame) : Prop :=
  ∀ T : State, T.heap = H → Stand p l e R s m args below meth c T locs cells slots → ∃ t, Steps p.tables e below ((T.setTop g).pushFrame (.throwNew "java/lang/NullPointerException" none none)) t ∧ Q t
theorem vx_npe {pc : Nat} {ls : Array Slot} {rest : List Value} {Q : State → Prop} (hexec : p.tables.exec = Jvm.exec) (hl : l.stackTraces = false) {nb : Nat} {A : Nat → Prop}
    (hat : ∀ w ∈ vx_atN nb, w.before args s = true) (hgood : ∀ w ∈ vx_atN nb, vx_ot w = true)
    (hU : vx_Zq Bundle.tN "UNASSIGNED_STACK" Bundle.steD A s s.heap) (hN : vx_Zq Bundle.tN "SUPPRESSED_SENTINEL" Bundle.listD A s s.heap) (hS : va_S A s.heap H locs) (hsize : ls.size = c.maxLocals)
    (hRframes : 7 < R.frames) (hRlocals : (rest.map fun v => v.category).sum + 10240 ≤ R.locals) (hRcells : cells + 1 ≤ R.cells) (hRslots : slots + nb ≤ R.slots) (hlocks : meth.locks = false)
    (k : ∀ (H1 : Heap) (q9 : Addr) (ce : Cell), H.size ≤ H1.size → (∀ q : Nat, q < H.size → H1[q]? = H[q]?) → va_S A s.heap H1 locs → H1[q9]? = some ce → ce.vm = .none → s.vm.findClass "java/lang/NullPointerException" = some ce.cls → vx_W p l e R s m args below meth c H1 locs (cells + 1) (slots + nb) Q (F0 m pc ls rest) q9) :
    vx_NoteN p l e R s m args below meth c H locs cells slots Q (F0 m pc ls rest) := by
  intro T hT X
  have htr : e.platform.stackTraces = false := (show e.platform.stackTraces = l.stackTraces by rw [X.admits.platform]).trans hl
  have Y := vx_rebase X (R' := { frames := R.frames, locals := R.locals, cells := 1, slots := nb }) (Nat.le_refl _) (Nat.le_refl _) hRcells hRslots
  have hhp : ((T.setVm s.vm).setFrames (.invoking m args :: below)).heap = H := hT
  have hW0 : s.WarmedH ((T.setVm s.vm).setFrames (.invoking m args :: below)).vm := State.WarmedH.refl s
  have hat' : ∀ w ∈ vx_atN nb, w.before args ((T.setVm s.vm).setFrames (.invoking m args :: below)) = true := fun w hw => vx_ot_at hW0 rfl (hgood w hw) (hat w hw)
  have hU' : vx_Zq Bundle.tN "UNASSIGNED_STACK" Bundle.steD A ((T.setVm s.vm).setFrames (.invoking m args :: below)) ((T.setVm s.vm).setFrames (.invoking m args :: below)).heap := by rw [hhp]; exact vx_Zq.moved hW0.alike (hU.kept hS.2.1)
  have hN' : vx_Zq Bundle.tN "SUPPRESSED_SENTINEL" Bundle.listD A ((T.setVm s.vm).setFrames (.invoking m args :: below)) ((T.setVm s.vm).setFrames (.invoking m args :: below)).heap := by rw [hhp]; exact vx_Zq.moved hW0.alike (hN.kept hS.2.1)
  obtain ⟨S, q, ce, st, Z, hce, hcl', hv⟩ := vx_npeAt Y hexec htr (n := nb) (vx_own hat' (vx_isRefq hU'.1) (vx_isRefq hN'.1) hU'.2.word hN'.2.word) (fun x hx => nomatch hx)
    (g := F0 m pc ls rest) rfl hsize hRframes (by show 2 * 0 + (rest.map fun v => v.category).sum + 10240 ≤ R.locals; omega) (by show 0 + 1 ≤ 1; omega) (by show 0 + nb ≤ nb; omega) hlocks
  obtain ⟨f1, f2⟩ := vx_frame Z.same
  have f1' : H.size ≤ S.heap.size := by rw [← hT]; exact f1
  have f2' : ∀ q : Nat, q < H.size → S.heap[q]? = H[q]? := fun q hq => by
    rw [← hT]
    exact f2 q (by rw [← hT] at hq; exact hq) (fun z hz => nomatch hz)
  have X5 := vx_back9 X Y Z
  have X6 : Stand p l e R s m args below meth c S locs (cells + 1) (slots + nb) := { X5 with same := X5.same.mono (by omega) (by omega) }
  obtain ⟨t, a1, b1⟩ := k S.heap q ce f1' f2' ⟨Nat.le_trans hS.1 f1', fun q h1 h2 => (f2' q (Nat.lt_of_lt_of_le h1 hS.1)).trans (hS.2.1 q h1 h2), hS.2.2⟩ hce hv hcl' S rfl X6
  exact ⟨t, st t a1, b1⟩
variable {Q : State → Prop} {cc : ByteArray} {pc : Nat} {ls : Array Slot} {rest : List Value}
theorem vx_idivZ (hexec : p.tables.exec = Jvm.exec) (hb : c.code = cc) {a b : Int32} (h0 : b = 0) (d : decode cc pc = .ok (.idiv, 1)) (k : vx_Note p l e R s m args below meth c H locs cells slots Q (F0 m pc ls rest) "java/lang/ArithmeticException" "/ by zero") :
    W p l e R s m args below meth c H locs cells slots Q (F0 m pc ls (.int b :: .int a :: rest)) := by
  intro T hT X
  obtain ⟨t, st, q⟩ := k T hT X
  exact ⟨t, X.idivZero hexec (g := F0 m pc ls (.int b :: .int a :: rest)) rfl (a := a) (rest := rest) (by rw [h0]) (by rw [hb]; exact d) t st, q⟩
theorem vx_iremZ (hexec : p.tables.exec = Jvm.exec) (hb : c.code = cc) {a b : Int32} (h0 : b = 0) (d : decode cc pc = .ok (.irem, 1)) (k : vx_Note p l e R s m args below meth c H locs cells slots Q (F0 m pc ls rest) "java/lang/ArithmeticException" "/ by zero") :
    W p l e R s m args below meth c H locs cells slots Q (F0 m pc ls (.int b :: .int a :: rest)) := by
  intro T hT X
  obtain ⟨t, st, q⟩ := k T hT X
  exact ⟨t, X.iremZero hexec (g := F0 m pc ls (.int b :: .int a :: rest)) rfl (a := a) (rest := rest) (by rw [h0]) (by rw [hb]; exact d) t st, q⟩
theorem vx_ldivZ (hexec : p.tables.exec = Jvm.exec) (hb : c.code = cc) {a b : Int64} (h0 : b = 0) (d : decode cc pc = .ok (.ldiv, 1)) (k : vx_Note p l e R s m args below meth c H locs cells slots Q (F0 m pc ls rest) "java/lang/ArithmeticException" "/ by zero") :
    W p l e R s m args below meth c H locs cells slots Q (F0 m pc ls (.long b :: .long a :: rest)) := by
  intro T hT X
  obtain ⟨t, st, q⟩ := k T hT X
  exact ⟨t, X.ldivZero hexec (g := F0 m pc ls (.long b :: .long a :: rest)) rfl (a := a) (rest := rest) (by rw [h0]) (by rw [hb]; exact d) t st, q⟩
theorem vx_lremZ (hexec : p.tables.exec = Jvm.exec) (hb : c.code = cc) {a b : Int64} (h0 : b = 0) (d : decode cc pc = .ok (.lrem, 1)) (k : vx_Note p l e R s m args below meth c H locs cells slots Q (F0 m pc ls rest) "java/lang/ArithmeticException" "/ by zero") :
    W p l e R s m args below meth c H locs cells slots Q (F0 m pc ls (.long b :: .long a :: rest)) := by
  intro T hT X
  obtain ⟨t, st, q⟩ := k T hT X
  exact ⟨t, X.lremZero hexec (g := F0 m pc ls (.long b :: .long a :: rest)) rfl (a := a) (rest := rest) (by rw [h0]) (by rw [hb]; exact d) t st, q⟩
theorem vx_ialdZ {D : va_G} {cl : List vw_C} {ws : va_W} {tys : List (ClassId × FieldType)} {a : Nat} (hexec : p.tables.exec = Jvm.exec) (hb : c.code = cc) (hK : va_K D cl tys s) (hP : va_P D cl ws H) (q0 t0 : Nat) {cA : ClassId} {n : Nat} {f : Nat → Int32} (ha : ws[q0]? = some (a, .inl (cA, n, .inl f))) (ht : tys[t0]? = some (cA, .int)) {i : Int32} (hout : ¬ vp_in i n) (hdg : decode cc pc = .ok (.iaload, 1))
    (k : ∀ tx : String, tx = (toString "Index " ++ toString i ++ toString " out of bounds for length " ++ toString n : String) → vx_Note p l e R s m args below meth c H locs cells slots Q (F0 m pc ls rest) "java/lang/ArrayIndexOutOfBoundsException" tx) : W p l e R s m args below meth c H locs cells slots Q (F0 m pc ls (.int i :: .ref a :: rest)) := by
  intro T hT X
  obtain ⟨t, st, q⟩ := k _ rfl T hT X
  refine ⟨t, ?_, q⟩
  have h1 := X.ialoadOut hexec (by rw [hT]; exact hP q0 _ ha) ((hK.2 t0 _ ht).1 n (fun j => .int (f j))) (j := i) (by show (i < 0 ∨ (arrV _ _ _).slots.size ≤ _); rw [arrV_size]; exact Classical.byContradiction hout) (g := F0 m pc ls (.int i :: .ref a :: rest)) rfl (rest := rest) rfl (by rw [hb]; exact hdg) t
  simp only [arrV_size] at h1
  exact h1 st
theorem vx_iastZ {D : va_G} {cl : List vw_C} {ws : va_W} {tys : List (ClassId × FieldType)} {a : Nat} (hexec : p.tables.exec = Jvm.exec) (hb : c.code = cc) (hK : va_K D cl tys s) (hP : va_P D cl ws H) (q0 t0 : Nat) {cA : ClassId} {n : Nat} {f : Nat → Int32} (ha : ws[q0]? = some (a, .inl (cA, n, .inl f))) (ht : tys[t0]? = some (cA, .int)) {i : Int32} {x : Int32} (hout : ¬ vp_in i n) (hdg : decode cc pc = .ok (.iastore, 1))
    (k : ∀ tx : String, tx = (toString "Index " ++ toString i ++ toString " out of bounds for length " ++ toString n : String) → vx_Note p l e R s m args below meth c H locs cells slots Q (F0 m pc ls rest) "java/lang/ArrayIndexOutOfBoundsException" tx) : W p l e R s m args below meth c H locs cells slots Q (F0 m pc ls (.int x :: .int i :: .ref a :: rest)) := by
  intro T hT X
  obtain ⟨t, st, q⟩ := k _ rfl T hT X
  refine ⟨t, ?_, q⟩
  have h1 := X.iastoreOut hexec (by rw [hT]; exact hP q0 _ ha) ((hK.2 t0 _ ht).1 n (fun j => .int (f j))) (j := i) (by show (i < 0 ∨ (arrV _ _ _).slots.size ≤ _); rw [arrV_size]; exact Classical.byContradiction hout) (g := F0 m pc ls (.int x :: .int i :: .ref a :: rest)) rfl (rest := rest) rfl (by rw [hb]; exact hdg) t
  simp only [arrV_size] at h1
  exact h1 st
theorem vx_baldZ {D : va_G} {cl : List vw_C} {ws : va_W} {tys : List (ClassId × FieldType)} {a : Nat} (hexec : p.tables.exec = Jvm.exec) (hb : c.code = cc) (hK : va_K D cl tys s) (hP : va_P D cl ws H) (q0 t0 : Nat) {cA : ClassId} {n : Nat} {f : Nat → Int32} (ha : ws[q0]? = some (a, .inl (cA, n, .inl f))) (ht : tys[t0]? = some (cA, .byte)) {i : Int32} (hout : ¬ vp_in i n) (hdg : decode cc pc = .ok (.baload, 1))
    (k : ∀ tx : String, tx = (toString "Index " ++ toString i ++ toString " out of bounds for length " ++ toString n : String) → vx_Note p l e R s m args below meth c H locs cells slots Q (F0 m pc ls rest) "java/lang/ArrayIndexOutOfBoundsException" tx) : W p l e R s m args below meth c H locs cells slots Q (F0 m pc ls (.int i :: .ref a :: rest)) := by
  intro T hT X
  obtain ⟨t, st, q⟩ := k _ rfl T hT X
  refine ⟨t, ?_, q⟩
  have h1 := X.baloadOut hexec (by rw [hT]; exact hP q0 _ ha) ((hK.2 t0 _ ht).1 n (fun j => .int (f j))) (j := i) (by show (i < 0 ∨ (arrV _ _ _).slots.size ≤ _); rw [arrV_size]; exact Classical.byContradiction hout) (g := F0 m pc ls (.int i :: .ref a :: rest)) rfl (rest := rest) rfl (by rw [hb]; exact hdg) t
  simp only [arrV_size] at h1
  exact h1 st
theorem vx_bastZ {D : va_G} {cl : List vw_C} {ws : va_W} {tys : List (ClassId × FieldType)} {a : Nat} (hexec : p.tables.exec = Jvm.exec) (hb : c.code = cc) (hK : va_K D cl tys s) (hP : va_P D cl ws H) (q0 t0 : Nat) {cA : ClassId} {n : Nat} {f : Nat → Int32} (ha : ws[q0]? = some (a, .inl (cA, n, .inl f))) (ht : tys[t0]? = some (cA, .byte)) {i : Int32} {x : Int32} (hout : ¬ vp_in i n) (hdg : decode cc pc = .ok (.bastore, 1))
    (k : ∀ tx : String, tx = (toString "Index " ++ toString i ++ toString " out of bounds for length " ++ toString n : String) → vx_Note p l e R s m args below meth c H locs cells slots Q (F0 m pc ls rest) "java/lang/ArrayIndexOutOfBoundsException" tx) : W p l e R s m args below meth c H locs cells slots Q (F0 m pc ls (.int x :: .int i :: .ref a :: rest)) := by
  intro T hT X
  obtain ⟨t, st, q⟩ := k _ rfl T hT X
  refine ⟨t, ?_, q⟩
  have h1 := X.bastoreOut hexec (by rw [hT]; exact hP q0 _ ha) ((hK.2 t0 _ ht).1 n (fun j => .int (f j))) (j := i) (by show (i < 0 ∨ (arrV _ _ _).slots.size ≤ _); rw [arrV_size]; exact Classical.byContradiction hout) (g := F0 m pc ls (.int x :: .int i :: .ref a :: rest)) rfl (rest := rest) rfl (by rw [hb]; exact hdg) t
  simp only [arrV_size] at h1
  exact h1 st
theorem vx_zaldZ {D : va_G} {cl : List vw_C} {ws : va_W} {tys : List (ClassId × FieldType)} {a : Nat} (hexec : p.tables.exec = Jvm.exec) (hb : c.code = cc) (hK : va_K D cl tys s) (hP : va_P D cl ws H) (q0 t0 : Nat) {cA : ClassId} {n : Nat} {f : Nat → Int32} (ha : ws[q0]? = some (a, .inl (cA, n, .inl f))) (ht : tys[t0]? = some (cA, .boolean)) {i : Int32} (hout : ¬ vp_in i n) (hdg : decode cc pc = .ok (.baload, 1))
    (k : ∀ tx : String, tx = (toString "Index " ++ toString i ++ toString " out of bounds for length " ++ toString n : String) → vx_Note p l e R s m args below meth c H locs cells slots Q (F0 m pc ls rest) "java/lang/ArrayIndexOutOfBoundsException" tx) : W p l e R s m args below meth c H locs cells slots Q (F0 m pc ls (.int i :: .ref a :: rest)) := by
  intro T hT X
  obtain ⟨t, st, q⟩ := k _ rfl T hT X
  refine ⟨t, ?_, q⟩
  have h1 := X.baloadOut hexec (by rw [hT]; exact hP q0 _ ha) ((hK.2 t0 _ ht).1 n (fun j => .int (f j))) (j := i) (by show (i < 0 ∨ (arrV _ _ _).slots.size ≤ _); rw [arrV_size]; exact Classical.byContradiction hout) (g := F0 m pc ls (.int i :: .ref a :: rest)) rfl (rest := rest) rfl (by rw [hb]; exact hdg) t
  simp only [arrV_size] at h1
  exact h1 st
theorem vx_zastZ {D : va_G} {cl : List vw_C} {ws : va_W} {tys : List (ClassId × FieldType)} {a : Nat} (hexec : p.tables.exec = Jvm.exec) (hb : c.code = cc) (hK : va_K D cl tys s) (hP : va_P D cl ws H) (q0 t0 : Nat) {cA : ClassId} {n : Nat} {f : Nat → Int32} (ha : ws[q0]? = some (a, .inl (cA, n, .inl f))) (ht : tys[t0]? = some (cA, .boolean)) {i : Int32} {x : Int32} (hout : ¬ vp_in i n) (hdg : decode cc pc = .ok (.bastore, 1))
    (k : ∀ tx : String, tx = (toString "Index " ++ toString i ++ toString " out of bounds for length " ++ toString n : String) → vx_Note p l e R s m args below meth c H locs cells slots Q (F0 m pc ls rest) "java/lang/ArrayIndexOutOfBoundsException" tx) : W p l e R s m args below meth c H locs cells slots Q (F0 m pc ls (.int x :: .int i :: .ref a :: rest)) := by
  intro T hT X
  obtain ⟨t, st, q⟩ := k _ rfl T hT X
  refine ⟨t, ?_, q⟩
  have h1 := X.bastoreOut hexec (by rw [hT]; exact hP q0 _ ha) ((hK.2 t0 _ ht).1 n (fun j => .int (f j))) (j := i) (by show (i < 0 ∨ (arrV _ _ _).slots.size ≤ _); rw [arrV_size]; exact Classical.byContradiction hout) (g := F0 m pc ls (.int x :: .int i :: .ref a :: rest)) rfl (rest := rest) rfl (by rw [hb]; exact hdg) t
  simp only [arrV_size] at h1
  exact h1 st
theorem vx_caldZ {D : va_G} {cl : List vw_C} {ws : va_W} {tys : List (ClassId × FieldType)} {a : Nat} (hexec : p.tables.exec = Jvm.exec) (hb : c.code = cc) (hK : va_K D cl tys s) (hP : va_P D cl ws H) (q0 t0 : Nat) {cA : ClassId} {n : Nat} {f : Nat → Int32} (ha : ws[q0]? = some (a, .inl (cA, n, .inl f))) (ht : tys[t0]? = some (cA, .char)) {i : Int32} (hout : ¬ vp_in i n) (hdg : decode cc pc = .ok (.caload, 1))
    (k : ∀ tx : String, tx = (toString "Index " ++ toString i ++ toString " out of bounds for length " ++ toString n : String) → vx_Note p l e R s m args below meth c H locs cells slots Q (F0 m pc ls rest) "java/lang/ArrayIndexOutOfBoundsException" tx) : W p l e R s m args below meth c H locs cells slots Q (F0 m pc ls (.int i :: .ref a :: rest)) := by
  intro T hT X
  obtain ⟨t, st, q⟩ := k _ rfl T hT X
  refine ⟨t, ?_, q⟩
  have h1 := X.caloadOut hexec (by rw [hT]; exact hP q0 _ ha) ((hK.2 t0 _ ht).1 n (fun j => .int (f j))) (j := i) (by show (i < 0 ∨ (arrV _ _ _).slots.size ≤ _); rw [arrV_size]; exact Classical.byContradiction hout) (g := F0 m pc ls (.int i :: .ref a :: rest)) rfl (rest := rest) rfl (by rw [hb]; exact hdg) t
  simp only [arrV_size] at h1
  exact h1 st
theorem vx_castZ {D : va_G} {cl : List vw_C} {ws : va_W} {tys : List (ClassId × FieldType)} {a : Nat} (hexec : p.tables.exec = Jvm.exec) (hb : c.code = cc) (hK : va_K D cl tys s) (hP : va_P D cl ws H) (q0 t0 : Nat) {cA : ClassId} {n : Nat} {f : Nat → Int32} (ha : ws[q0]? = some (a, .inl (cA, n, .inl f))) (ht : tys[t0]? = some (cA, .char)) {i : Int32} {x : Int32} (hout : ¬ vp_in i n) (hdg : decode cc pc = .ok (.castore, 1))
    (k : ∀ tx : String, tx = (toString "Index " ++ toString i ++ toString " out of bounds for length " ++ toString n : String) → vx_Note p l e R s m args below meth c H locs cells slots Q (F0 m pc ls rest) "java/lang/ArrayIndexOutOfBoundsException" tx) : W p l e R s m args below meth c H locs cells slots Q (F0 m pc ls (.int x :: .int i :: .ref a :: rest)) := by
  intro T hT X
  obtain ⟨t, st, q⟩ := k _ rfl T hT X
  refine ⟨t, ?_, q⟩
  have h1 := X.castoreOut hexec (by rw [hT]; exact hP q0 _ ha) ((hK.2 t0 _ ht).1 n (fun j => .int (f j))) (j := i) (by show (i < 0 ∨ (arrV _ _ _).slots.size ≤ _); rw [arrV_size]; exact Classical.byContradiction hout) (g := F0 m pc ls (.int x :: .int i :: .ref a :: rest)) rfl (rest := rest) rfl (by rw [hb]; exact hdg) t
  simp only [arrV_size] at h1
  exact h1 st
theorem vx_saldZ {D : va_G} {cl : List vw_C} {ws : va_W} {tys : List (ClassId × FieldType)} {a : Nat} (hexec : p.tables.exec = Jvm.exec) (hb : c.code = cc) (hK : va_K D cl tys s) (hP : va_P D cl ws H) (q0 t0 : Nat) {cA : ClassId} {n : Nat} {f : Nat → Int32} (ha : ws[q0]? = some (a, .inl (cA, n, .inl f))) (ht : tys[t0]? = some (cA, .short)) {i : Int32} (hout : ¬ vp_in i n) (hdg : decode cc pc = .ok (.saload, 1))
    (k : ∀ tx : String, tx = (toString "Index " ++ toString i ++ toString " out of bounds for length " ++ toString n : String) → vx_Note p l e R s m args below meth c H locs cells slots Q (F0 m pc ls rest) "java/lang/ArrayIndexOutOfBoundsException" tx) : W p l e R s m args below meth c H locs cells slots Q (F0 m pc ls (.int i :: .ref a :: rest)) := by
  intro T hT X
  obtain ⟨t, st, q⟩ := k _ rfl T hT X
  refine ⟨t, ?_, q⟩
  have h1 := X.saloadOut hexec (by rw [hT]; exact hP q0 _ ha) ((hK.2 t0 _ ht).1 n (fun j => .int (f j))) (j := i) (by show (i < 0 ∨ (arrV _ _ _).slots.size ≤ _); rw [arrV_size]; exact Classical.byContradiction hout) (g := F0 m pc ls (.int i :: .ref a :: rest)) rfl (rest := rest) rfl (by rw [hb]; exact hdg) t
  simp only [arrV_size] at h1
  exact h1 st
theorem vx_sastZ {D : va_G} {cl : List vw_C} {ws : va_W} {tys : List (ClassId × FieldType)} {a : Nat} (hexec : p.tables.exec = Jvm.exec) (hb : c.code = cc) (hK : va_K D cl tys s) (hP : va_P D cl ws H) (q0 t0 : Nat) {cA : ClassId} {n : Nat} {f : Nat → Int32} (ha : ws[q0]? = some (a, .inl (cA, n, .inl f))) (ht : tys[t0]? = some (cA, .short)) {i : Int32} {x : Int32} (hout : ¬ vp_in i n) (hdg : decode cc pc = .ok (.sastore, 1))
    (k : ∀ tx : String, tx = (toString "Index " ++ toString i ++ toString " out of bounds for length " ++ toString n : String) → vx_Note p l e R s m args below meth c H locs cells slots Q (F0 m pc ls rest) "java/lang/ArrayIndexOutOfBoundsException" tx) : W p l e R s m args below meth c H locs cells slots Q (F0 m pc ls (.int x :: .int i :: .ref a :: rest)) := by
  intro T hT X
  obtain ⟨t, st, q⟩ := k _ rfl T hT X
  refine ⟨t, ?_, q⟩
  have h1 := X.sastoreOut hexec (by rw [hT]; exact hP q0 _ ha) ((hK.2 t0 _ ht).1 n (fun j => .int (f j))) (j := i) (by show (i < 0 ∨ (arrV _ _ _).slots.size ≤ _); rw [arrV_size]; exact Classical.byContradiction hout) (g := F0 m pc ls (.int x :: .int i :: .ref a :: rest)) rfl (rest := rest) rfl (by rw [hb]; exact hdg) t
  simp only [arrV_size] at h1
  exact h1 st
theorem vx_laldZ {D : va_G} {cl : List vw_C} {ws : va_W} {tys : List (ClassId × FieldType)} {a : Nat} (hexec : p.tables.exec = Jvm.exec) (hb : c.code = cc) (hK : va_K D cl tys s) (hP : va_P D cl ws H) (q0 t0 : Nat) {cA : ClassId} {n : Nat} {f : Nat → Int64} (ha : ws[q0]? = some (a, .inl (cA, n, .inr (.inl f)))) (ht : tys[t0]? = some (cA, .long)) {i : Int32} (hout : ¬ vp_in i n) (hdg : decode cc pc = .ok (.laload, 1))
    (k : ∀ tx : String, tx = (toString "Index " ++ toString i ++ toString " out of bounds for length " ++ toString n : String) → vx_Note p l e R s m args below meth c H locs cells slots Q (F0 m pc ls rest) "java/lang/ArrayIndexOutOfBoundsException" tx) : W p l e R s m args below meth c H locs cells slots Q (F0 m pc ls (.int i :: .ref a :: rest)) := by
  intro T hT X
  obtain ⟨t, st, q⟩ := k _ rfl T hT X
  refine ⟨t, ?_, q⟩
  have h1 := X.laloadOut hexec (by rw [hT]; exact hP q0 _ ha) ((hK.2 t0 _ ht).1 n (fun j => .long (f j))) (j := i) (by show (i < 0 ∨ (arrV _ _ _).slots.size ≤ _); rw [arrV_size]; exact Classical.byContradiction hout) (g := F0 m pc ls (.int i :: .ref a :: rest)) rfl (rest := rest) rfl (by rw [hb]; exact hdg) t
  simp only [arrV_size] at h1
  exact h1 st
theorem vx_lastZ {D : va_G} {cl : List vw_C} {ws : va_W} {tys : List (ClassId × FieldType)} {a : Nat} (hexec : p.tables.exec = Jvm.exec) (hb : c.code = cc) (hK : va_K D cl tys s) (hP : va_P D cl ws H) (q0 t0 : Nat) {cA : ClassId} {n : Nat} {f : Nat → Int64} (ha : ws[q0]? = some (a, .inl (cA, n, .inr (.inl f)))) (ht : tys[t0]? = some (cA, .long)) {i : Int32} {x : Int64} (hout : ¬ vp_in i n) (hdg : decode cc pc = .ok (.lastore, 1))
    (k : ∀ tx : String, tx = (toString "Index " ++ toString i ++ toString " out of bounds for length " ++ toString n : String) → vx_Note p l e R s m args below meth c H locs cells slots Q (F0 m pc ls rest) "java/lang/ArrayIndexOutOfBoundsException" tx) : W p l e R s m args below meth c H locs cells slots Q (F0 m pc ls (.long x :: .int i :: .ref a :: rest)) := by
  intro T hT X
  obtain ⟨t, st, q⟩ := k _ rfl T hT X
  refine ⟨t, ?_, q⟩
  have h1 := X.lastoreOut hexec (by rw [hT]; exact hP q0 _ ha) ((hK.2 t0 _ ht).1 n (fun j => .long (f j))) (j := i) (by show (i < 0 ∨ (arrV _ _ _).slots.size ≤ _); rw [arrV_size]; exact Classical.byContradiction hout) (g := F0 m pc ls (.long x :: .int i :: .ref a :: rest)) rfl (rest := rest) rfl (by rw [hb]; exact hdg) t
  simp only [arrV_size] at h1
  exact h1 st
theorem vx_faldZ {D : va_G} {cl : List vw_C} {ws : va_W} {tys : List (ClassId × FieldType)} {a : Nat} (hexec : p.tables.exec = Jvm.exec) (hb : c.code = cc) (hK : va_K D cl tys s) (hP : va_P D cl ws H) (q0 t0 : Nat) {cA : ClassId} {n : Nat} {f : Nat → UInt32} (ha : ws[q0]? = some (a, .inl (cA, n, .inr (.inr (.inl f))))) (ht : tys[t0]? = some (cA, .float)) {i : Int32} (hout : ¬ vp_in i n) (hdg : decode cc pc = .ok (.faload, 1))
    (k : ∀ tx : String, tx = (toString "Index " ++ toString i ++ toString " out of bounds for length " ++ toString n : String) → vx_Note p l e R s m args below meth c H locs cells slots Q (F0 m pc ls rest) "java/lang/ArrayIndexOutOfBoundsException" tx) : W p l e R s m args below meth c H locs cells slots Q (F0 m pc ls (.int i :: .ref a :: rest)) := by
  intro T hT X
  obtain ⟨t, st, q⟩ := k _ rfl T hT X
  refine ⟨t, ?_, q⟩
  have h1 := X.faloadOut hexec (by rw [hT]; exact hP q0 _ ha) ((hK.2 t0 _ ht).1 n (fun j => .float (f j))) (j := i) (by show (i < 0 ∨ (arrV _ _ _).slots.size ≤ _); rw [arrV_size]; exact Classical.byContradiction hout) (g := F0 m pc ls (.int i :: .ref a :: rest)) rfl (rest := rest) rfl (by rw [hb]; exact hdg) t
  simp only [arrV_size] at h1
  exact h1 st
theorem vx_fastZ {D : va_G} {cl : List vw_C} {ws : va_W} {tys : List (ClassId × FieldType)} {a : Nat} (hexec : p.tables.exec = Jvm.exec) (hb : c.code = cc) (hK : va_K D cl tys s) (hP : va_P D cl ws H) (q0 t0 : Nat) {cA : ClassId} {n : Nat} {f : Nat → UInt32} (ha : ws[q0]? = some (a, .inl (cA, n, .inr (.inr (.inl f))))) (ht : tys[t0]? = some (cA, .float)) {i : Int32} {x : UInt32} (hout : ¬ vp_in i n) (hdg : decode cc pc = .ok (.fastore, 1))
    (k : ∀ tx : String, tx = (toString "Index " ++ toString i ++ toString " out of bounds for length " ++ toString n : String) → vx_Note p l e R s m args below meth c H locs cells slots Q (F0 m pc ls rest) "java/lang/ArrayIndexOutOfBoundsException" tx) : W p l e R s m args below meth c H locs cells slots Q (F0 m pc ls (.float x :: .int i :: .ref a :: rest)) := by
  intro T hT X
  obtain ⟨t, st, q⟩ := k _ rfl T hT X
  refine ⟨t, ?_, q⟩
  have h1 := X.fastoreOut hexec (by rw [hT]; exact hP q0 _ ha) ((hK.2 t0 _ ht).1 n (fun j => .float (f j))) (j := i) (by show (i < 0 ∨ (arrV _ _ _).slots.size ≤ _); rw [arrV_size]; exact Classical.byContradiction hout) (g := F0 m pc ls (.float x :: .int i :: .ref a :: rest)) rfl (rest := rest) rfl (by rw [hb]; exact hdg) t
  simp only [arrV_size] at h1
  exact h1 st
theorem vx_daldZ {D : va_G} {cl : List vw_C} {ws : va_W} {tys : List (ClassId × FieldType)} {a : Nat} (hexec : p.tables.exec = Jvm.exec) (hb : c.code = cc) (hK : va_K D cl tys s) (hP : va_P D cl ws H) (q0 t0 : Nat) {cA : ClassId} {n : Nat} {f : Nat → UInt64} (ha : ws[q0]? = some (a, .inl (cA, n, .inr (.inr (.inr (.inl f)))))) (ht : tys[t0]? = some (cA, .double)) {i : Int32} (hout : ¬ vp_in i n) (hdg : decode cc pc = .ok (.daload, 1))
    (k : ∀ tx : String, tx = (toString "Index " ++ toString i ++ toString " out of bounds for length " ++ toString n : String) → vx_Note p l e R s m args below meth c H locs cells slots Q (F0 m pc ls rest) "java/lang/ArrayIndexOutOfBoundsException" tx) : W p l e R s m args below meth c H locs cells slots Q (F0 m pc ls (.int i :: .ref a :: rest)) := by
  intro T hT X
  obtain ⟨t, st, q⟩ := k _ rfl T hT X
  refine ⟨t, ?_, q⟩
  have h1 := X.daloadOut hexec (by rw [hT]; exact hP q0 _ ha) ((hK.2 t0 _ ht).1 n (fun j => .double (f j))) (j := i) (by show (i < 0 ∨ (arrV _ _ _).slots.size ≤ _); rw [arrV_size]; exact Classical.byContradiction hout) (g := F0 m pc ls (.int i :: .ref a :: rest)) rfl (rest := rest) rfl (by rw [hb]; exact hdg) t
  simp only [arrV_size] at h1
  exact h1 st
theorem vx_dastZ {D : va_G} {cl : List vw_C} {ws : va_W} {tys : List (ClassId × FieldType)} {a : Nat} (hexec : p.tables.exec = Jvm.exec) (hb : c.code = cc) (hK : va_K D cl tys s) (hP : va_P D cl ws H) (q0 t0 : Nat) {cA : ClassId} {n : Nat} {f : Nat → UInt64} (ha : ws[q0]? = some (a, .inl (cA, n, .inr (.inr (.inr (.inl f)))))) (ht : tys[t0]? = some (cA, .double)) {i : Int32} {x : UInt64} (hout : ¬ vp_in i n) (hdg : decode cc pc = .ok (.dastore, 1))
    (k : ∀ tx : String, tx = (toString "Index " ++ toString i ++ toString " out of bounds for length " ++ toString n : String) → vx_Note p l e R s m args below meth c H locs cells slots Q (F0 m pc ls rest) "java/lang/ArrayIndexOutOfBoundsException" tx) : W p l e R s m args below meth c H locs cells slots Q (F0 m pc ls (.double x :: .int i :: .ref a :: rest)) := by
  intro T hT X
  obtain ⟨t, st, q⟩ := k _ rfl T hT X
  refine ⟨t, ?_, q⟩
  have h1 := X.dastoreOut hexec (by rw [hT]; exact hP q0 _ ha) ((hK.2 t0 _ ht).1 n (fun j => .double (f j))) (j := i) (by show (i < 0 ∨ (arrV _ _ _).slots.size ≤ _); rw [arrV_size]; exact Classical.byContradiction hout) (g := F0 m pc ls (.double x :: .int i :: .ref a :: rest)) rfl (rest := rest) rfl (by rw [hb]; exact hdg) t
  simp only [arrV_size] at h1
  exact h1 st
theorem vx_arraylengthN (hexec : p.tables.exec = Jvm.exec) (hb : c.code = cc) (hdg : decode cc pc = .ok (.arraylength, 1)) (k : vx_NoteN p l e R s m args below meth c H locs cells slots Q (F0 m pc ls rest)) : W p l e R s m args below meth c H locs cells slots Q (F0 m pc ls (.null :: rest)) := by
  intro T hT X
  obtain ⟨t, st, q⟩ := k T hT X
  exact ⟨t, X.arraylengthNull hexec (g := F0 m pc ls (.null :: rest)) rfl (rest := rest) rfl (by rw [hb]; exact hdg) t st, q⟩
theorem vx_ialoadN (hexec : p.tables.exec = Jvm.exec) (hb : c.code = cc) {i : Int32} (hdg : decode cc pc = .ok (.iaload, 1)) (k : vx_NoteN p l e R s m args below meth c H locs cells slots Q (F0 m pc ls rest)) : W p l e R s m args below meth c H locs cells slots Q (F0 m pc ls (.int i :: .null :: rest)) := by
  intro T hT X
  obtain ⟨t, st, q⟩ := k T hT X
  exact ⟨t, X.ialoadNull hexec (g := F0 m pc ls (.int i :: .null :: rest)) rfl (rest := rest) rfl (by rw [hb]; exact hdg) t st, q⟩
theorem vx_laloadN (hexec : p.tables.exec = Jvm.exec) (hb : c.code = cc) {i : Int32} (hdg : decode cc pc = .ok (.laload, 1)) (k : vx_NoteN p l e R s m args below meth c H locs cells slots Q (F0 m pc ls rest)) : W p l e R s m args below meth c H locs cells slots Q (F0 m pc ls (.int i :: .null :: rest)) := by
  intro T hT X
  obtain ⟨t, st, q⟩ := k T hT X
  exact ⟨t, X.laloadNull hexec (g := F0 m pc ls (.int i :: .null :: rest)) rfl (rest := rest) rfl (by rw [hb]; exact hdg) t st, q⟩
theorem vx_faloadN (hexec : p.tables.exec = Jvm.exec) (hb : c.code = cc) {i : Int32} (hdg : decode cc pc = .ok (.faload, 1)) (k : vx_NoteN p l e R s m args below meth c H locs cells slots Q (F0 m pc ls rest)) : W p l e R s m args below meth c H locs cells slots Q (F0 m pc ls (.int i :: .null :: rest)) := by
  intro T hT X
  obtain ⟨t, st, q⟩ := k T hT X
  exact ⟨t, X.faloadNull hexec (g := F0 m pc ls (.int i :: .null :: rest)) rfl (rest := rest) rfl (by rw [hb]; exact hdg) t st, q⟩
theorem vx_daloadN (hexec : p.tables.exec = Jvm.exec) (hb : c.code = cc) {i : Int32} (hdg : decode cc pc = .ok (.daload, 1)) (k : vx_NoteN p l e R s m args below meth c H locs cells slots Q (F0 m pc ls rest)) : W p l e R s m args below meth c H locs cells slots Q (F0 m pc ls (.int i :: .null :: rest)) := by
  intro T hT X
  obtain ⟨t, st, q⟩ := k T hT X
  exact ⟨t, X.daloadNull hexec (g := F0 m pc ls (.int i :: .null :: rest)) rfl (rest := rest) rfl (by rw [hb]; exact hdg) t st, q⟩
theorem vx_aaloadN (hexec : p.tables.exec = Jvm.exec) (hb : c.code = cc) {i : Int32} (hdg : decode cc pc = .ok (.aaload, 1)) (k : vx_NoteN p l e R s m args below meth c H locs cells slots Q (F0 m pc ls rest)) : W p l e R s m args below meth c H locs cells slots Q (F0 m pc ls (.int i :: .null :: rest)) := by
  intro T hT X
  obtain ⟨t, st, q⟩ := k T hT X
  exact ⟨t, X.aaloadNull hexec (g := F0 m pc ls (.int i :: .null :: rest)) rfl (rest := rest) rfl (by rw [hb]; exact hdg) t st, q⟩
theorem vx_baloadN (hexec : p.tables.exec = Jvm.exec) (hb : c.code = cc) {i : Int32} (hdg : decode cc pc = .ok (.baload, 1)) (k : vx_NoteN p l e R s m args below meth c H locs cells slots Q (F0 m pc ls rest)) : W p l e R s m args below meth c H locs cells slots Q (F0 m pc ls (.int i :: .null :: rest)) := by
  intro T hT X
  obtain ⟨t, st, q⟩ := k T hT X
  exact ⟨t, X.baloadNull hexec (g := F0 m pc ls (.int i :: .null :: rest)) rfl (rest := rest) rfl (by rw [hb]; exact hdg) t st, q⟩
theorem vx_caloadN (hexec : p.tables.exec = Jvm.exec) (hb : c.code = cc) {i : Int32} (hdg : decode cc pc = .ok (.caload, 1)) (k : vx_NoteN p l e R s m args below meth c H locs cells slots Q (F0 m pc ls rest)) : W p l e R s m args below meth c H locs cells slots Q (F0 m pc ls (.int i :: .null :: rest)) := by
  intro T hT X
  obtain ⟨t, st, q⟩ := k T hT X
  exact ⟨t, X.caloadNull hexec (g := F0 m pc ls (.int i :: .null :: rest)) rfl (rest := rest) rfl (by rw [hb]; exact hdg) t st, q⟩
theorem vx_saloadN (hexec : p.tables.exec = Jvm.exec) (hb : c.code = cc) {i : Int32} (hdg : decode cc pc = .ok (.saload, 1)) (k : vx_NoteN p l e R s m args below meth c H locs cells slots Q (F0 m pc ls rest)) : W p l e R s m args below meth c H locs cells slots Q (F0 m pc ls (.int i :: .null :: rest)) := by
  intro T hT X
  obtain ⟨t, st, q⟩ := k T hT X
  exact ⟨t, X.saloadNull hexec (g := F0 m pc ls (.int i :: .null :: rest)) rfl (rest := rest) rfl (by rw [hb]; exact hdg) t st, q⟩
theorem vx_iastoreN (hexec : p.tables.exec = Jvm.exec) (hb : c.code = cc) {x : Int32} {i : Int32} (hdg : decode cc pc = .ok (.iastore, 1)) (k : vx_NoteN p l e R s m args below meth c H locs cells slots Q (F0 m pc ls rest)) : W p l e R s m args below meth c H locs cells slots Q (F0 m pc ls (.int x :: .int i :: .null :: rest)) := by
  intro T hT X
  obtain ⟨t, st, q⟩ := k T hT X
  exact ⟨t, X.iastoreNull hexec (g := F0 m pc ls (.int x :: .int i :: .null :: rest)) rfl (rest := rest) rfl (by rw [hb]; exact hdg) t st, q⟩
theorem vx_lastoreN (hexec : p.tables.exec = Jvm.exec) (hb : c.code = cc) {x : Int64} {i : Int32} (hdg : decode cc pc = .ok (.lastore, 1)) (k : vx_NoteN p l e R s m args below meth c H locs cells slots Q (F0 m pc ls rest)) : W p l e R s m args below meth c H locs cells slots Q (F0 m pc ls (.long x :: .int i :: .null :: rest)) := by
  intro T hT X
  obtain ⟨t, st, q⟩ := k T hT X
  exact ⟨t, X.lastoreNull hexec (g := F0 m pc ls (.long x :: .int i :: .null :: rest)) rfl (rest := rest) rfl (by rw [hb]; exact hdg) t st, q⟩
theorem vx_fastoreN (hexec : p.tables.exec = Jvm.exec) (hb : c.code = cc) {x : UInt32} {i : Int32} (hdg : decode cc pc = .ok (.fastore, 1)) (k : vx_NoteN p l e R s m args below meth c H locs cells slots Q (F0 m pc ls rest)) : W p l e R s m args below meth c H locs cells slots Q (F0 m pc ls (.float x :: .int i :: .null :: rest)) := by
  intro T hT X
  obtain ⟨t, st, q⟩ := k T hT X
  exact ⟨t, X.fastoreNull hexec (g := F0 m pc ls (.float x :: .int i :: .null :: rest)) rfl (rest := rest) rfl (by rw [hb]; exact hdg) t st, q⟩
theorem vx_dastoreN (hexec : p.tables.exec = Jvm.exec) (hb : c.code = cc) {x : UInt64} {i : Int32} (hdg : decode cc pc = .ok (.dastore, 1)) (k : vx_NoteN p l e R s m args below meth c H locs cells slots Q (F0 m pc ls rest)) : W p l e R s m args below meth c H locs cells slots Q (F0 m pc ls (.double x :: .int i :: .null :: rest)) := by
  intro T hT X
  obtain ⟨t, st, q⟩ := k T hT X
  exact ⟨t, X.dastoreNull hexec (g := F0 m pc ls (.double x :: .int i :: .null :: rest)) rfl (rest := rest) rfl (by rw [hb]; exact hdg) t st, q⟩
theorem vx_bastoreN (hexec : p.tables.exec = Jvm.exec) (hb : c.code = cc) {x : Int32} {i : Int32} (hdg : decode cc pc = .ok (.bastore, 1)) (k : vx_NoteN p l e R s m args below meth c H locs cells slots Q (F0 m pc ls rest)) : W p l e R s m args below meth c H locs cells slots Q (F0 m pc ls (.int x :: .int i :: .null :: rest)) := by
  intro T hT X
  obtain ⟨t, st, q⟩ := k T hT X
  exact ⟨t, X.bastoreNull hexec (g := F0 m pc ls (.int x :: .int i :: .null :: rest)) rfl (rest := rest) rfl (by rw [hb]; exact hdg) t st, q⟩
theorem vx_castoreN (hexec : p.tables.exec = Jvm.exec) (hb : c.code = cc) {x : Int32} {i : Int32} (hdg : decode cc pc = .ok (.castore, 1)) (k : vx_NoteN p l e R s m args below meth c H locs cells slots Q (F0 m pc ls rest)) : W p l e R s m args below meth c H locs cells slots Q (F0 m pc ls (.int x :: .int i :: .null :: rest)) := by
  intro T hT X
  obtain ⟨t, st, q⟩ := k T hT X
  exact ⟨t, X.castoreNull hexec (g := F0 m pc ls (.int x :: .int i :: .null :: rest)) rfl (rest := rest) rfl (by rw [hb]; exact hdg) t st, q⟩
theorem vx_sastoreN (hexec : p.tables.exec = Jvm.exec) (hb : c.code = cc) {x : Int32} {i : Int32} (hdg : decode cc pc = .ok (.sastore, 1)) (k : vx_NoteN p l e R s m args below meth c H locs cells slots Q (F0 m pc ls rest)) : W p l e R s m args below meth c H locs cells slots Q (F0 m pc ls (.int x :: .int i :: .null :: rest)) := by
  intro T hT X
  obtain ⟨t, st, q⟩ := k T hT X
  exact ⟨t, X.sastoreNull hexec (g := F0 m pc ls (.int x :: .int i :: .null :: rest)) rfl (rest := rest) rfl (by rw [hb]; exact hdg) t st, q⟩
theorem vx_invokeN {own C : String} {index maxL : Nat} {y : MethodName} {bytes : ByteArray} {ret : Option FieldType} (hexec : p.tables.exec = Jvm.exec) (hb : c.code = cc) (hown : s.vm.findClass own = some m.cls) (hlink : (Cond.methodLink own index y).before args s = true) (hinst : (Cond.instanceMethod y).before args s = true) (hcode : (Cond.code y bytes maxL ret).before args s = true) (hsel : (Cond.selects C y y).before args s = true)
    (hx : y.cls ≠ "java/lang/invoke/MethodHandle" ∧ y.cls ≠ "java/lang/invoke/VarHandle") {As : List Value} (hlen : (parseMethodDescriptor y.desc).map (fun d => d.parameters.length) = some As.length) (hdg : decode cc pc = .ok (.invokevirtual index, 3))
    (k : vx_NoteN p l e R s m args below meth c H locs cells slots Q (F0 m pc ls rest)) {st0 : List Value} (hst : st0 = As.reverse ++ .null :: rest) : W p l e R s m args below meth c H locs cells slots Q (F0 m pc ls st0) := by
  intro T hT X
  obtain ⟨r0, r, hn, hrm, hstR, hsigR⟩ := va_Decl.of hinst hcode
  obtain ⟨c2, r2, m2, q1, q2, q3, q4, kP, hkP, hkPi⟩ := Cond.selects_spec hsel
  cases hn.symm.trans q3
  have hl9 : As.length = r.sig.parameters.length := by
    rw [hsigR] at hlen
    exact (Option.some.inj hlen).symm
  obtain ⟨vm', X1, st1⟩ := X.invokevirtualNull hexec hown hlink hn hrm hstR hkP hkPi hx (g := F0 m pc ls st0) rfl (argsL := As) (rest := rest) hl9 hst (by rw [hb]; exact hdg)
  obtain ⟨t, st, q⟩ := k (T.setVm vm') hT X1
  exact ⟨t, st1 t st, q⟩
theorem vx_newarrayZ {atype : ArrayType} (hexec : p.tables.exec = Jvm.exec) (hb : c.code = cc) {n : Int32} (h0 : n < 0) (hdg : decode cc pc = .ok (.newarray atype, 2)) (k : ∀ tx : String, tx = toString n → vx_Note p l e R s m args below meth c H locs cells slots Q (F0 m pc ls rest) "java/lang/NegativeArraySizeException" tx) : W p l e R s m args below meth c H locs cells slots Q (F0 m pc ls (.int n :: rest)) := by
  intro T hT X
  obtain ⟨t, st, q⟩ := k _ rfl T hT X
  exact ⟨t, X.newarrayNegative hexec (g := F0 m pc ls (.int n :: rest)) rfl h0 (rest := rest) rfl (by rw [hb]; exact hdg) t st, q⟩
end
end VXM
/-! ===== END ===== -/
end
section
/-! The memory: ints by (place, slot); places are the system's objects and arrays, numbered once and for all. 20 r .. 20 r + 19: race r (0 the race, 1 before, 2 the snapshot, 3 to 10 the history's rows); 220 the QuillRelay, 221 its history, 222 the rows, 223 the program, 224 its arguments, 225 its text, 226 the banner, 227 and 228 their bytes; 229 the model, 230 its s, 231 was, 232 saved, 233 past, 234 line, 235 tape, 236 commands; 237 and 238 the law's out and outD. -/
abbrev q_M : Type := Nat → Nat → Int32
def q_up (σ : q_M) (k j : Nat) (v : Int32) : q_M := fun a b => bif (Nat.beq b j && Nat.beq a k) then v else σ a b
theorem q_up_eq (σ : q_M) (k j : Nat) (v : Int32) : q_up σ k j v k j = v := by simp [q_up]
theorem q_up_nk {σ : q_M} {k j a b : Nat} {v : Int32} (h : a ≠ k) : q_up σ k j v a b = σ a b := by
  have e : Nat.beq a k = false := by
    cases hb : Nat.beq a k with
    | true => exact absurd (Nat.eq_of_beq_eq_true hb) h
    | false => rfl
  simp [q_up, e]
theorem q_up_nj {σ : q_M} {k j a b : Nat} {v : Int32} (h : b ≠ j) : q_up σ k j v a b = σ a b := by
  have e : Nat.beq b j = false := by
    cases hb : Nat.beq b j with
    | true => exact absurd (Nat.eq_of_beq_eq_true hb) h
    | false => rfl
  simp [q_up, e]
theorem q_up_row {σ : q_M} {k j : Nat} {v : Int32} : (q_up σ k j v) k = upd (σ k) j v := by
  funext b
  by_cases h : b = j
  · subst h
    rw [q_up_eq]
    simp [upd]
  · rw [q_up_nj h]
    simp [upd, h]
theorem q_up_off {σ : q_M} {k j a : Nat} {v : Int32} (h : a ≠ k) : (q_up σ k j v) a = σ a := by
  funext b
  exact q_up_nk h
theorem q_up_at (σ : q_M) (k j a b : Nat) (v : Int32) : q_up σ k j v a b = if b = j ∧ a = k then v else σ a b := by
  by_cases h1 : b = j
  · by_cases h2 : a = k
    · subst h1; subst h2
      rw [q_up_eq, if_pos ⟨rfl, rfl⟩]
    · rw [q_up_nk h2, if_neg (fun q => h2 q.2)]
  · rw [q_up_nj h1, if_neg (fun q => h1 q.1)]
/-- what kind of thing a place is -/
def q_kd (k : Nat) : Nat :=
  if k < 220 then (if k % 20 = 0 then 6 else if k % 20 = 1 then 30 else if k % 20 % 3 = 2 then 7 else 20)
  else match k with
    | 220 => 8 | 221 => 4 | 222 => 31 | 223 => 5 | 224 => 20 | 225 => 1 | 226 => 1 | 227 => 22 | 228 => 22 | 229 => 9
    | 230 => 20 | 231 => 20 | 232 => 20 | 233 => 20 | 234 => 20 | 235 => 20 | 236 => 20 | 237 => 21 | 238 => 23 | _ => 99
/-- the length of an int array -/
def q_len (k : Nat) : Nat := if k < 220 then 4 else match k with | 224 => 3 | 233 => 944 | 234 => 40 | 235 => 60 | 236 => 124 | _ => 118
theorem q_kd_lt {k c : Nat} (h : q_kd k = c) (hc : c ≠ 99) : k < 239 := by
  rcases Nat.lt_or_ge k 239 with q | q
  · exact q
  · exfalso
    apply hc
    rw [← h]
    unfold q_kd
    rw [if_neg (by omega)]
    split <;> omega
/-- the values of a walk: an int, null, a place (.ref), a constant (.float: its code) -/
abbrev q_e (x : Int32) : Value := .float x.toUInt32
def q_cv (α β : Nat → Nat) : Value → Value
  | .ref k => .ref (α k)
  | .float b => .ref (β b.toNat)
  | v => v
/-- a field's value, of an object of class ci at the place k -/
def q_fw (ci j k : Nat) (x : Int32) : Value := match ci with
  | 6 => (match j with | 0 => .ref (k + 1) | _ => .int x)
  | 7 => (match j with | 1 => .ref (k + 1) | 2 => .ref (k + 2) | 3 => q_e x | _ => .int x)
  | 8 => (match j with | 0 => .ref 0 | 1 => .ref 20 | 2 => .ref 40 | 3 => .ref 221 | 4 => .ref 223 | 5 => .ref 226 | _ => .int x)
  | 4 => (match j with | 0 => .ref 222 | _ => .int x)
  | 5 => (match j with | 0 => .ref 225 | 1 => .ref 224 | 5 => q_e x | _ => .int x)
  | 9 => (match j with | 0 => .ref 230 | 1 => .ref 231 | 2 => .ref 232 | 3 => .ref 233 | 12 => .ref 234 | 14 => .ref 235 | 15 => .ref 236 | _ => .int x)
  | _ => .int x
/-- how many fields -/
def q_nf (ci : Nat) : Nat := match ci with | 4 => 3 | 5 => 6 | 6 => 4 | 7 => 14 | 8 => 11 | 9 => 19 | _ => 0
/-- the double at 238, of two ints -/
def q_dv (f : Nat → Int32) : UInt64 := ((f 1).toUInt32.toUInt64 <<< 32) ||| (f 0).toUInt32.toUInt64
/-- what is hidden of a text: its bytes' address, how many, the bytes, and the builder's maybeLatin1 -/
abbrev q_H : Type := Nat → Nat × Nat × (Nat → Int32) × Int32
def q_pc (α β : Nat → Nat) (κ : Nat → ClassId) (Y : q_H) (k : Nat) (f : Nat → Int32) : va_E := match q_kd k with
  | 20 => .inl (κ 0, q_len k, .inl f)
  | 21 => .inl (κ 2, 1, .inr (.inl (fun j => (f j).toInt64)))
  | 22 => .inl (κ 1, (Y k).2.1, .inl (Y k).2.2.1)
  | 23 => .inl (κ 3, 1, .inr (.inr (.inr (.inl (fun _ => q_dv f)))))
  | 30 => .inl (κ 4, 6, .inr (.inr (.inr (.inr (fun i => some (α (k + 1 + 3 * i)))))))
  | 31 => .inl (κ 5, 8, .inr (.inr (.inr (.inr (fun i => some (α (60 + 20 * i)))))))
  | 1 => .inr (1, [.ref (Y (k + 2)).1, .int 0, .int (Y (k + 2)).2.2.2, .int (f 3)])
  | ci => .inr (ci, (List.range (q_nf ci)).map (fun j => q_cv α β (q_fw ci j k (f j))))
def q_ad (α : Nat → Nat) (Y : q_H) (k : Nat) : Nat := if k = 227 ∨ k = 228 then (Y k).1 else α k
def q_ws (α β : Nat → Nat) (κ : Nat → ClassId) (Y : q_H) (σ : q_M) : va_W := (List.range 239).map (fun k => (q_ad α Y k, q_pc α β κ Y k (σ k)))
theorem q_ws_at {α β : Nat → Nat} {κ : Nat → ClassId} {Y : q_H} {σ : q_M} {k : Nat} (h : k < 239) : (q_ws α β κ Y σ)[k]? = some (q_ad α Y k, q_pc α β κ Y k (σ k)) := by
  simp [q_ws, h]
theorem q_ws_set {α β : Nat → Nat} {κ : Nat → ClassId} {Y : q_H} {σ : q_M} {k j : Nat} {v : Int32} (h : k < 239) {e : va_E} (he : e = q_pc α β κ Y k (upd (σ k) j v)) : (q_ws α β κ Y σ).set k (q_ad α Y k, e) = q_ws α β κ Y (q_up σ k j v) := by
  subst he
  apply List.ext_getElem?
  intro i
  rw [List.getElem?_set]
  by_cases hi : k = i
  · subst hi
    rw [if_pos rfl, q_ws_at h, if_pos (by simp [q_ws]; exact h), q_up_row]
  · rw [if_neg hi]
    unfold q_ws
    rw [List.getElem?_map, List.getElem?_map]
    cases hr : (List.range 239)[i]? with
    | none => rfl
    | some z =>
      have : z = i := by
        have := (List.getElem?_eq_some_iff.mp hr)
        obtain ⟨h1, h2⟩ := this
        rw [List.getElem_range] at h2
        exact h2.symm
      subst this
      simp only [Option.map_some]
      rw [q_up_off (fun q => hi q.symm)]
/-- an object's fields -/
theorem q_pc_o {α β : Nat → Nat} {κ : Nat → ClassId} {Y : q_H} {k : Nat} {f : Nat → Int32} {ci : Nat} (h : q_kd k = ci) (h4 : 4 ≤ ci) (h9 : ci ≤ 9) : q_pc α β κ Y k f = .inr (ci, (List.range (q_nf ci)).map (fun j => q_cv α β (q_fw ci j k (f j)))) := by
  unfold q_pc
  rw [h]
  split <;> first | omega | rfl
theorem q_pc_i {α β : Nat → Nat} {κ : Nat → ClassId} {Y : q_H} {k : Nat} {f : Nat → Int32} (h : q_kd k = 20) : q_pc α β κ Y k f = .inl (κ 0, q_len k, .inl f) := by
  unfold q_pc
  rw [h]
  rfl
theorem q_pc_l {α β : Nat → Nat} {κ : Nat → ClassId} {Y : q_H} {k : Nat} {f : Nat → Int32} (h : q_kd k = 21) : q_pc α β κ Y k f = .inl (κ 2, 1, .inr (.inl (fun j => (f j).toInt64))) := by
  unfold q_pc
  rw [h]
  rfl
theorem q_pc_d {α β : Nat → Nat} {κ : Nat → ClassId} {Y : q_H} {k : Nat} {f : Nat → Int32} (h : q_kd k = 23) : q_pc α β κ Y k f = .inl (κ 3, 1, .inr (.inr (.inr (.inl (fun _ => q_dv f))))) := by
  unfold q_pc
  rw [h]
  rfl
theorem q_pc_t {α β : Nat → Nat} {κ : Nat → ClassId} {Y : q_H} {k : Nat} {f : Nat → Int32} (h : q_kd k = 30) : q_pc α β κ Y k f = .inl (κ 4, 6, .inr (.inr (.inr (.inr (fun i => some (α (k + 1 + 3 * i))))))) := by
  unfold q_pc
  rw [h]
  rfl
theorem q_pc_r {α β : Nat → Nat} {κ : Nat → ClassId} {Y : q_H} {k : Nat} {f : Nat → Int32} (h : q_kd k = 31) : q_pc α β κ Y k f = .inl (κ 5, 8, .inr (.inr (.inr (.inr (fun i => some (α (60 + 20 * i))))))) := by
  unfold q_pc
  rw [h]
  rfl
theorem q_ad_of {α : Nat → Nat} {Y : q_H} {k c : Nat} (h : q_kd k = c) (hc : c ≠ 22) : q_ad α Y k = α k := by
  unfold q_ad
  rw [if_neg]
  rintro (rfl | rfl)
  · exact hc h.symm
  · exact hc h.symm
theorem q_fs_at {α β : Nat → Nat} {ci j k n : Nat} {f : Nat → Int32} (h : j < n) : ((List.range n).map (fun j => q_cv α β (q_fw ci j k (f j))))[j]? = some (q_cv α β (q_fw ci j k (f j))) := by
  simp [h]
theorem q_fs_set {α β : Nat → Nat} {ci j k n : Nat} {f : Nat → Int32} {x : Int32} {v : Value} (hv : q_cv α β (q_fw ci j k x) = v) : ((List.range n).map (fun j => q_cv α β (q_fw ci j k (f j)))).set j v = (List.range n).map (fun i => q_cv α β (q_fw ci i k (upd f j x i))) := by
  apply List.ext_getElem?
  intro i
  rw [List.getElem?_set, List.getElem?_map, List.getElem?_map]
  by_cases hi : j = i
  · subst hi
    rw [if_pos rfl]
    by_cases hn : j < n
    · rw [if_pos (by simpa using hn)]
      simp [hn, upd, hv]
    · rw [if_neg (by simpa using hn)]
      simp [hn]
  · rw [if_neg hi]
    by_cases hn : i < n
    · simp [hn, upd, Ne.symm hi]
    · simp [hn]
end
section
/-! The walk: a state of a method by the memory, the locals' and the stack's values; a pure function takes it over a stretch of instructions; this part says that the machine does the same. -/
def q_W : List Cond := lw_tbl.filter goodWord
theorem q_W_in {w : Cond} (h : w ∈ lw_tbl) (g : goodWord w = true) : w ∈ q_W := List.mem_filter.mpr ⟨h, g⟩
def q_tys (κ : Nat → ClassId) : List (ClassId × FieldType) := [(κ 0, .int), (κ 1, .byte), (κ 2, .long), (κ 3, .double), (κ 4, .object RX6), (κ 5, .object RX4)]
abbrev q_Lv : Type := List (Nat × Value)
def q_lget : q_Lv → Nat → Option Value
  | [], _ => none
  | q :: t, i => bif Nat.beq q.1 i then some q.2 else q_lget t i
def q_ldel : q_Lv → Nat → q_Lv
  | [], _ => []
  | q :: t, i => bif (Nat.beq q.1 i || (Nat.beq (q.1 + 1) i && Nat.beq q.2.category 2)) then q_ldel t i else q :: q_ldel t i
def q_lset (l : q_Lv) (i : Nat) (v : Value) : q_Lv := (i, v) :: q_ldel l i
abbrev q_S : Type := q_Lv × List Value × q_M
/-- an instruction: its place, itself, its length, its constant, its target -/
abbrev q_E : Type := Nat × Instr × Nat × Int32 × Nat
def q_ck (nL : Nat) (e : q_E) : Bool := match e.2.1 with
  | .iconst n => decide (e.2.2.1 = 1) && decide (Int32.ofInt n = e.2.2.2.1)
  | .bipush n => decide (e.2.2.1 = 2) && decide ((Int8.ofInt n).toInt32 = e.2.2.2.1)
  | .sipush n => decide (e.2.2.1 = 3) && decide ((Int16.ofInt n).toInt32 = e.2.2.2.1)
  | .iinc i n => decide (e.2.2.1 = 3) && decide (i < nL) && decide (Int32.ofInt n = e.2.2.2.1)
  | .lconst n => decide (e.2.2.1 = 1) && decide (Int64.ofNat (n : Nat) = e.2.2.2.1.toInt64)
  | .goto o => decide (e.2.2.1 = 3) && decide ((e.1 : Int) + o = (e.2.2.2.2 : Int))
  | .ifCond _ o => decide (e.2.2.1 = 3) && decide ((e.1 : Int) + o = (e.2.2.2.2 : Int))
  | .if_icmp _ o => decide (e.2.2.1 = 3) && decide ((e.1 : Int) + o = (e.2.2.2.2 : Int))
  | .if_acmp _ o => decide (e.2.2.1 = 3) && decide ((e.1 : Int) + o = (e.2.2.2.2 : Int))
  | .ifnull o => decide (e.2.2.1 = 3) && decide ((e.1 : Int) + o = (e.2.2.2.2 : Int))
  | .ifnonnull o => decide (e.2.2.1 = 3) && decide ((e.1 : Int) + o = (e.2.2.2.2 : Int))
  | .iload _ => decide (e.2.2.1 = 2)
  | .aload _ => decide (e.2.2.1 = 2)
  | .istore i => decide (e.2.2.1 = 2) && decide (i < nL)
  | .istore_n i => decide (e.2.2.1 = 1) && decide (i.val < nL)
  | .astore i => decide (e.2.2.1 = 2) && decide (i < nL)
  | .astore_n i => decide (e.2.2.1 = 1) && decide (i.val < nL)
  | .dload _ => decide (e.2.2.1 = 2)
  | .getfield _ => decide (e.2.2.1 = 3)
  | .putfield _ => decide (e.2.2.1 = 3)
  | .getstatic _ => decide (e.2.2.1 = 3)
  | .invokevirtual _ => true
  | .invokestatic _ => true
  | .invokespecial _ => true
  | .new _ => true
  | .tableswitch _ _ _ _ => true
  | .lookupswitch _ _ => true
  | .ldc _ => true
  | .ldc_w _ => true
  | .newarray _ => true
  | .anewarray _ => true
  | .dstore _ => true
  | .checkcast _ => true
  | _ => decide (e.2.2.1 = 1)
def q_tb (cc : ByteArray) (nL : Nat) (t : List q_E) : Bool := t.all (fun e => decide (decode cc e.1 = .ok (e.2.1, e.2.2.1)) && q_ck nL e)
theorem q_tb_at {cc : ByteArray} {nL : Nat} {t : List q_E} (h : q_tb cc nL t = true) {e : q_E} (he : e ∈ t) : decode cc e.1 = .ok (e.2.1, e.2.2.1) ∧ q_ck nL e = true := by
  have h1 := List.all_eq_true.mp h e he
  simp only [Bool.and_eq_true, decide_eq_true_eq] at h1
  exact h1
/-- what a store into a field writes, and what it asks -/
def q_un (a b : Nat) (v : Value) : Option (List Prop × Int32) := match a, b, v with
  | 7, 3, .float w => some ([], w.toInt32)
  | 5, 5, .float w => some ([], w.toInt32)
  | 6, 1, .int x => some ([x = 0 ∨ x = 1], x)
  | 7, 12, .int x => some ([x = 0 ∨ x = 1], x)
  | 7, 13, .int x => some ([x = 0 ∨ x = 1], x)
  | 8, 6, .int x => some ([x = 0 ∨ x = 1], x)
  | 9, 11, .int x => some ([x = 0 ∨ x = 1], x)
  | 4, 1, .int x => some ([], x)
  | 4, 2, .int x => some ([], x)
  | 5, 2, .int x => some ([], x)
  | 5, 3, .int x => some ([], x)
  | 5, 4, .int x => some ([], x)
  | 6, 2, .int x => some ([], x)
  | 6, 3, .int x => some ([], x)
  | 7, 4, .int x => some ([], x)
  | 7, 5, .int x => some ([], x)
  | 7, 6, .int x => some ([], x)
  | 7, 7, .int x => some ([], x)
  | 7, 8, .int x => some ([], x)
  | 7, 9, .int x => some ([], x)
  | 7, 10, .int x => some ([], x)
  | 7, 11, .int x => some ([], x)
  | 8, 7, .int x => some ([], x)
  | 8, 8, .int x => some ([], x)
  | 8, 9, .int x => some ([], x)
  | 8, 10, .int x => some ([], x)
  | 9, 4, .int x => some ([], x)
  | 9, 5, .int x => some ([], x)
  | 9, 6, .int x => some ([], x)
  | 9, 7, .int x => some ([], x)
  | 9, 8, .int x => some ([], x)
  | 9, 9, .int x => some ([], x)
  | 9, 10, .int x => some ([], x)
  | 9, 13, .int x => some ([], x)
  | 9, 16, .int x => some ([], x)
  | 9, 17, .int x => some ([], x)
  | 9, 18, .int x => some ([], x)
  | _, _, _ => none
/-- a value of one slot -/
def q_c1 : Value → Bool
  | .long _ => false
  | .double _ => false
  | _ => true
def q_cond (op : Jvm.ClassFile.Cond) (x y : Int32) (tk : Bool) : Prop := match op with
  | .eq => bif tk then x = y else ¬ x = y
  | .ne => bif tk then ¬ x = y else x = y
  | .lt => bif tk then x < y else ¬ x < y
  | .ge => bif tk then ¬ x < y else x < y
  | .gt => bif tk then y < x else ¬ y < x
  | .le => bif tk then ¬ y < x else y < x
/-- one instruction: what it asks, where it goes, what it leaves. F: the class's field references; G: its static constants; tk: whether a branch is taken -/
def q_1 (F : Nat → Option (Nat × Nat)) (G : Nat → Option Int32) (e : q_E) (tk : Bool) (S : q_S) : Option (List Prop × Nat × q_S) :=
  match e.2.1 with
  | .iconst _ => some ([], e.1 + e.2.2.1, S.1, .int e.2.2.2.1 :: S.2.1, S.2.2)
  | .bipush _ => some ([], e.1 + e.2.2.1, S.1, .int e.2.2.2.1 :: S.2.1, S.2.2)
  | .sipush _ => some ([], e.1 + e.2.2.1, S.1, .int e.2.2.2.1 :: S.2.1, S.2.2)
  | .lconst _ => some ([], e.1 + 1, S.1, .long e.2.2.2.1.toInt64 :: S.2.1, S.2.2)
  | .aconst_null => some ([], e.1 + 1, S.1, .null :: S.2.1, S.2.2)
  | .iload i => (match q_lget S.1 i with | some (.int x) => some ([], e.1 + 2, S.1, .int x :: S.2.1, S.2.2) | _ => none)
  | .iload_n i => (match q_lget S.1 i.val with | some (.int x) => some ([], e.1 + 1, S.1, .int x :: S.2.1, S.2.2) | _ => none)
  | .aload i => (match q_lget S.1 i with
    | some (.ref x) => some ([], e.1 + 2, S.1, .ref x :: S.2.1, S.2.2)
    | some (.float x) => some ([], e.1 + 2, S.1, .float x :: S.2.1, S.2.2)
    | some .null => some ([], e.1 + 2, S.1, .null :: S.2.1, S.2.2)
    | _ => none)
  | .aload_n i => (match q_lget S.1 i.val with
    | some (.ref x) => some ([], e.1 + 1, S.1, .ref x :: S.2.1, S.2.2)
    | some (.float x) => some ([], e.1 + 1, S.1, .float x :: S.2.1, S.2.2)
    | some .null => some ([], e.1 + 1, S.1, .null :: S.2.1, S.2.2)
    | _ => none)
  | .istore i => (match S.2.1 with | .int x :: r => some ([], e.1 + 2, q_lset S.1 i (.int x), r, S.2.2) | _ => none)
  | .istore_n i => (match S.2.1 with | .int x :: r => some ([], e.1 + 1, q_lset S.1 i.val (.int x), r, S.2.2) | _ => none)
  | .astore i => (match S.2.1 with
    | .ref x :: r => some ([], e.1 + 2, q_lset S.1 i (.ref x), r, S.2.2)
    | .float x :: r => some ([], e.1 + 2, q_lset S.1 i (.float x), r, S.2.2)
    | .null :: r => some ([], e.1 + 2, q_lset S.1 i .null, r, S.2.2)
    | _ => none)
  | .astore_n i => (match S.2.1 with
    | .ref x :: r => some ([], e.1 + 1, q_lset S.1 i.val (.ref x), r, S.2.2)
    | .float x :: r => some ([], e.1 + 1, q_lset S.1 i.val (.float x), r, S.2.2)
    | .null :: r => some ([], e.1 + 1, q_lset S.1 i.val .null, r, S.2.2)
    | _ => none)
  | .iinc i _ => (match q_lget S.1 i with | some (.int x) => some ([], e.1 + 3, q_lset S.1 i (.int (x + e.2.2.2.1)), S.2.1, S.2.2) | _ => none)
  | .iadd => (match S.2.1 with | .int y :: .int x :: r => some ([], e.1 + 1, S.1, .int (x + y) :: r, S.2.2) | _ => none)
  | .isub => (match S.2.1 with | .int y :: .int x :: r => some ([], e.1 + 1, S.1, .int (x - y) :: r, S.2.2) | _ => none)
  | .imul => (match S.2.1 with | .int y :: .int x :: r => some ([], e.1 + 1, S.1, .int (x * y) :: r, S.2.2) | _ => none)
  | .iand => (match S.2.1 with | .int y :: .int x :: r => some ([], e.1 + 1, S.1, .int (x &&& y) :: r, S.2.2) | _ => none)
  | .ior => (match S.2.1 with | .int y :: .int x :: r => some ([], e.1 + 1, S.1, .int (x ||| y) :: r, S.2.2) | _ => none)
  | .ishl => (match S.2.1 with | .int y :: .int x :: r => some ([], e.1 + 1, S.1, .int (x <<< (y &&& 31)) :: r, S.2.2) | _ => none)
  | .ishr => (match S.2.1 with | .int y :: .int x :: r => some ([], e.1 + 1, S.1, .int (x >>> (y &&& 31)) :: r, S.2.2) | _ => none)
  | .idiv => (match S.2.1 with | .int y :: .int x :: r => some ([¬ y = 0], e.1 + 1, S.1, .int (x / y) :: r, S.2.2) | _ => none)
  | .irem => (match S.2.1 with | .int y :: .int x :: r => some ([¬ y = 0], e.1 + 1, S.1, .int (x - x / y * y) :: r, S.2.2) | _ => none)
  | .ineg => (match S.2.1 with | .int x :: r => some ([], e.1 + 1, S.1, .int (-x) :: r, S.2.2) | _ => none)
  | .i2c => (match S.2.1 with | .int x :: r => some ([], e.1 + 1, S.1, .int (x.toUInt32 % 65536).toInt32 :: r, S.2.2) | _ => none)
  | .i2l => (match S.2.1 with | .int x :: r => some ([], e.1 + 1, S.1, .long x.toInt64 :: r, S.2.2) | _ => none)
  | .i2d => (match S.2.1 with | .int x :: r => some ([], e.1 + 1, S.1, .double (FP.i2d x) :: r, S.2.2) | _ => none)
  | .lcmp => (match S.2.1 with | .long y :: .long x :: r => some ([], e.1 + 1, S.1, .int (lg_cmp x y) :: r, S.2.2) | _ => none)
  | .dcmp o => (match S.2.1 with | .double y :: .double x :: r => some ([], e.1 + 1, S.1, .int (Op.cmpValue (FP.dcmp x y) o) :: r, S.2.2) | _ => none)
  | .dup => (match S.2.1 with | v :: r => bif q_c1 v then some ([], e.1 + 1, S.1, v :: v :: r, S.2.2) else none | _ => none)
  | .dup2 => (match S.2.1 with | v :: w :: r => bif q_c1 v && q_c1 w then some ([], e.1 + 1, S.1, v :: w :: v :: w :: r, S.2.2) else none | _ => none)
  | .dup_x1 => (match S.2.1 with | v :: w :: r => bif q_c1 v && q_c1 w then some ([], e.1 + 1, S.1, v :: w :: v :: r, S.2.2) else none | _ => none)
  | .pop => (match S.2.1 with | v :: r => bif q_c1 v then some ([], e.1 + 1, S.1, r, S.2.2) else none | _ => none)
  | .goto _ => some ([], e.2.2.2.2, S)
  | .ifCond op _ => (match S.2.1 with | .int x :: r => some ([q_cond op x 0 tk], bif tk then e.2.2.2.2 else e.1 + 3, S.1, r, S.2.2) | _ => none)
  | .if_icmp op _ => (match S.2.1 with | .int y :: .int x :: r => some ([q_cond op x y tk], bif tk then e.2.2.2.2 else e.1 + 3, S.1, r, S.2.2) | _ => none)
  | .if_acmp op _ => (match op, S.2.1 with
    | .eq, .float y :: .float x :: r => some ([bif tk then x = y else ¬ x = y], bif tk then e.2.2.2.2 else e.1 + 3, S.1, r, S.2.2)
    | .ne, .float y :: .float x :: r => some ([bif tk then ¬ x = y else x = y], bif tk then e.2.2.2.2 else e.1 + 3, S.1, r, S.2.2)
    | _, _ => none)
  | .ifnull _ => (match S.2.1 with
    | .null :: r => some ([], e.2.2.2.2, S.1, r, S.2.2)
    | .ref _ :: r => some ([], e.1 + 3, S.1, r, S.2.2)
    | _ => none)
  | .ifnonnull _ => (match S.2.1 with
    | .null :: r => some ([], e.1 + 3, S.1, r, S.2.2)
    | .ref _ :: r => some ([], e.2.2.2.2, S.1, r, S.2.2)
    | _ => none)
  | .getfield i => (match S.2.1 with
    | .ref k :: r => (match F i with | some (a, b) => some ([q_kd k = a], e.1 + 3, S.1, q_fw a b k (S.2.2 k b) :: r, S.2.2) | none => none)
    | _ => none)
  | .putfield i => (match S.2.1 with
    | v :: .ref k :: r => (match F i with
      | some (a, b) => (match q_un a b v with | some (cs, x) => some ((q_kd k = a) :: cs, e.1 + 3, S.1, r, q_up S.2.2 k b x) | none => none)
      | none => none)
    | _ => none)
  | .getstatic i => (match G i with | some x => some ([], e.1 + 3, S.1, q_e x :: S.2.1, S.2.2) | none => none)
  | .iaload => (match S.2.1 with | .int i :: .ref k :: r => some ([q_kd k = 20, vp_in i (q_len k)], e.1 + 1, S.1, .int (S.2.2 k i.toNatClampNeg) :: r, S.2.2) | _ => none)
  | .iastore => (match S.2.1 with | .int x :: .int i :: .ref k :: r => some ([q_kd k = 20, vp_in i (q_len k)], e.1 + 1, S.1, r, q_up S.2.2 k i.toNatClampNeg x) | _ => none)
  | .laload => (match S.2.1 with | .int i :: .ref k :: r => some ([q_kd k = 21, vp_in i 1], e.1 + 1, S.1, .long (S.2.2 k i.toNatClampNeg).toInt64 :: r, S.2.2) | _ => none)
  | .daload => (match S.2.1 with | .int i :: .ref k :: r => some ([q_kd k = 23, vp_in i 1], e.1 + 1, S.1, .double (q_dv (S.2.2 k)) :: r, S.2.2) | _ => none)
  | .aaload => (match S.2.1 with
    | .int i :: .ref k :: r => bif Nat.beq e.2.2.2.2 30 then some ([q_kd k = 30, vp_in i 6], e.1 + 1, S.1, .ref (k + 1 + 3 * i.toNatClampNeg) :: r, S.2.2)
        else some ([q_kd k = 31, vp_in i 8], e.1 + 1, S.1, .ref (60 + 20 * i.toNatClampNeg) :: r, S.2.2)
    | _ => none)
  | .arraylength => (match S.2.1 with
    | .ref k :: r => bif Nat.beq e.2.2.2.2 30 then some ([q_kd k = 30], e.1 + 1, S.1, .int 6 :: r, S.2.2)
        else bif Nat.beq e.2.2.2.2 31 then some ([q_kd k = 31], e.1 + 1, S.1, .int 8 :: r, S.2.2)
        else some ([q_kd k = 20], e.1 + 1, S.1, .int (nI (q_len k)) :: r, S.2.2)
    | _ => none)
  | _ => none
def q_isB : Instr → Bool
  | .ifCond _ _ => true
  | .if_icmp _ _ => true
  | .if_acmp _ _ => true
  | _ => false
/-- a stretch: its instructions, in the order in which they are met, and of each branch whether it is taken -/
def q_b (F : Nat → Option (Nat × Nat)) (G : Nat → Option Int32) : List q_E → List Bool → Nat → q_S → Option (List Prop × Nat × q_S)
  | [], _, pc, S => some ([], pc, S)
  | e :: t, fl, pc, S => bif Nat.beq e.1 pc then
      (match q_1 F G e (fl.headD true) S with
      | some (cs, pc1, S1) => (match q_b F G t (bif q_isB e.2.1 then fl.tail else fl) pc1 S1 with | some (cs', r) => some (cs ++ cs', r) | none => none)
      | none => none) else none
def q_all : List Prop → Prop
  | [] => True
  | p :: t => p ∧ q_all t
theorem q_all_app {a b : List Prop} (h : q_all (a ++ b)) : q_all a ∧ q_all b := by
  induction a with
  | nil => exact ⟨trivial, h⟩
  | cons p a ih => exact ⟨⟨h.1, (ih h.2).1⟩, (ih h.2).2⟩
/-- the stretch's instructions out of the method's list: runs (where from, how many) -/
def q_run (t : List q_E) (rs : List (Nat × Nat)) : List q_E := rs.flatMap (fun r => (t.drop r.1).take r.2)
theorem q_run_in {t : List q_E} {rs : List (Nat × Nat)} {e : q_E} (h : e ∈ q_run t rs) : e ∈ t := by
  obtain ⟨r, -, h1⟩ := List.mem_flatMap.mp h
  exact List.mem_of_mem_drop (List.mem_of_mem_take h1)
end
section
/-! What holds from the start on and is never written: constants, tables, texts. -/
abbrev q_nS : List String := ["ABSENT", "READY", "RUNNING", "FINISHED", "WITHDRAWN"]
abbrev q_nF : List String := ["NONE", "INDEX", "ARGUMENT", "STATE", "REFUSED"]
abbrev q_nV : List String := ["START", "RUN", "PASS", "DROP", "QUIT", "PROTEST", "SPEED", "DRAW"]
abbrev q_fS : List (String × String × String × List Int32) := [("QuillRelay$Stage", "rankGroup", "I", [3, 1, 1, 0, 2])]
abbrev q_fV : List (String × String × String × List Int32) := [("java/lang/Enum", "ordinal", "I", [0, 1, 2, 3, 4, 5, 6, 7])]
/-- the texts: the eight patterns, then the model's words -/
abbrev q_sl : List Nat := [5, 5, 6, 8, 6, 11, 11, 6, 4, 3, 4, 2, 6, 1, 2, 2, 3]
abbrev q_sb : List (List Int32) := [[115, 116, 97, 114, 116], [114, 117, 110, 32, 78], [112, 97, 115, 115, 32, 68], [100, 114, 111, 112, 32, 68, 32, 78], [113, 117, 105, 116, 32, 68], [112, 114, 111, 116, 101, 115, 116, 32, 68, 68, 75], [115, 112, 101, 101, 100, 32, 68, 32, 68, 32, 78], [100, 114, 97, 119, 32, 78], [45, 114, 102, 119], [97, 114, 116], [112, 101, 101, 100], [115, 115], [114, 111, 116, 101, 115, 116], [112], [97, 119], [117, 110], [117, 105, 116]]
/-- the model's words: where its class names them -/
abbrev q_mk : List (Nat × String) := [(176, "-rfw"), (202, "art"), (208, "peed"), (213, "ss"), (215, "rotest"), (220, "p"), (222, "aw"), (233, "un"), (235, "uit")]
abbrev q_msg : List (Nat × String) := [(345, "no such team or leg"), (350, "an argument is out of range"), (355, "not possible in this state"), (360, "the pass is refused"), (365, "no such team"), (171, "no team in this lane"), (370, "no such leg"), (207, "no such kind of foul"), (216, "the leg has not ended"), (375, "the team has not finished"), (238, "no such rank"), (248, "no team has finished"), (377, "the number of seconds is out of range"), (263, "the team is not running"), (268, "the last runner carries the quill"), (274, "no pass was refused"), (295, "no such character"), (302, "the character is not from 32 to 126"), (307, "the buffer is full"), (315, "the program is malformed"), (317, "a command failed"), (322, "no program was malformed"), (324, "no command failed"), (329, "nothing can be undone"), (337, "there is no snapshot")]
abbrev q_NW : List Cond := [.methodLinkNest "QuillRelay$Team" (34 : Nat) ⟨"QuillRelay", "copyRow", "([I[I)V"⟩ "QuillRelay", .methodLinkNest "QuillRelay$Race" (88 : Nat) ⟨"QuillRelay", "isLeg", "(I)Z"⟩ "QuillRelay", .methodLinkNest "QuillRelay$Team" (66 : Nat) ⟨"QuillRelay", "at", "([II)I"⟩ "QuillRelay", .methodLinkNest "QuillRelay$Team" (70 : Nat) ⟨"QuillRelay", "put", "([III)V"⟩ "QuillRelay", .methodLinkNest "QuillRelay$Team" (88 : Nat) ⟨"QuillRelay", "pace", "(II)I"⟩ "QuillRelay", .methodLinkNest "QuillRelay$Race" (106 : Nat) ⟨"QuillRelay", "isKind", "(I)Z"⟩ "QuillRelay"]
abbrev q_XW : List Cond := [.castable "java/lang/IndexOutOfBoundsException" "java/lang/IndexOutOfBoundsException", .castable "java/lang/IllegalArgumentException" "java/lang/IllegalArgumentException", .castable "java/lang/IllegalStateException" "java/lang/IllegalStateException", .castable "java/lang/UnsupportedOperationException" "java/lang/UnsupportedOperationException", .castable "java/lang/ArrayIndexOutOfBoundsException" "java/lang/ArrayIndexOutOfBoundsException", .castable "java/util/NoSuchElementException" "java/util/NoSuchElementException", .castable "java/lang/ArithmeticException" "java/lang/ArithmeticException", .castable "[B" "java/lang/Cloneable", .castable "java/lang/ArrayIndexOutOfBoundsException" "java/lang/IndexOutOfBoundsException", .castable "java/lang/StringIndexOutOfBoundsException" "java/lang/IndexOutOfBoundsException", .castable "QuillRelay" "java/lang/Object", .castable "QuillRelay$Race" "java/lang/Object", .castable "QuillRelay$Team" "java/lang/Object", .castable "QuillRelay$Stage" "java/lang/Object", .castable "QuillRelay$History" "java/lang/Object", .castable "QuillRelay$Program" "java/lang/Object", .castable "java/lang/StringBuilder" "java/lang/Object", .castable "QuillRelay$Verb" "java/lang/Object", .castable "QuillRelayModel" "java/lang/Object", .castable "QuillRelay$Fault" "java/lang/Object", .castable "java/lang/IndexOutOfBoundsException" "java/lang/Object", .castable "java/lang/IllegalArgumentException" "java/lang/Object", .castable "java/lang/IllegalStateException" "java/lang/Object", .castable "java/lang/UnsupportedOperationException" "java/lang/Object", .castable "java/lang/ArrayIndexOutOfBoundsException" "java/lang/Object", .castable "java/util/NoSuchElementException" "java/lang/Object", .castable "java/lang/ArithmeticException" "java/lang/Object", .castable "java/lang/StringIndexOutOfBoundsException" "java/lang/Object", .castable "java/lang/String" "java/lang/Object", .castable "java/lang/Throwable" "java/lang/Object", .declares ⟨"java/lang/RuntimeException", "<init>", "()V"⟩, .declares ⟨"java/lang/RuntimeException", "<init>", "(Ljava/lang/String;)V"⟩, .declares ⟨"java/lang/Exception", "<init>", "()V"⟩, .declares ⟨"java/lang/Exception", "<init>", "(Ljava/lang/String;)V"⟩, .declares ⟨"java/lang/Throwable", "<init>", "()V"⟩, .declares ⟨"java/lang/Throwable", "<init>", "(Ljava/lang/String;)V"⟩, .declares ⟨"java/lang/IndexOutOfBoundsException", "<init>", "()V"⟩, .declares ⟨"java/lang/IndexOutOfBoundsException", "<init>", "(Ljava/lang/String;)V"⟩, .declares ⟨"java/lang/Enum", "ordinal", "()I"⟩]
abbrev q_XS : List String := ["java/lang/IllegalStateException", "java/lang/IndexOutOfBoundsException", "java/lang/IllegalArgumentException", "java/lang/UnsupportedOperationException", "java/util/NoSuchElementException", "java/lang/ArithmeticException"]
def q_ET (α : Nat → Nat) (U : State) : Prop := (∀ i, i < 9 → vk_R RX9 (q_mk.getD i (0, "")).1 (q_mk.getD i (0, "")).2 (α (348 + i)) U) ∧ (∀ q ∈ q_msg, ∃ a, vk_R RX8 q.1 q.2 a U) ∧ (∀ w ∈ q_NW, va_Nw w U) ∧ (∀ a ∈ q_XS, ∀ b ∈ q_XS, a ≠ b → va_Nc a b U) ∧ (∀ w ∈ q_XW, va_Nw w U)
def q_EF (α β : Nat → Nat) (A : Nat → Prop) (U : State) (H : Heap) : Prop :=
  va_En RX5 "LQuillRelay$Stage;" q_nS q_fS (fun i => β i) A U H ∧ va_En RX1 "LQuillRelay$Fault;" q_nF [] (fun i => β (10 + i)) A U H ∧ va_En RX7 "LQuillRelay$Verb;" q_nV q_fV (fun i => β (20 + i)) A U H ∧ (∀ i j, β i = β j → i = j) ∧
  va_Ef 8 RX7 "pattern" "Ljava/lang/String;" (fun i => .ref (α (340 + i))) (fun i => β (20 + i)) A U H ∧
  va_Z RX3 "VERBS" "[LQuillRelay$Verb;" (.ref (α 330)) A U H ∧ va_T (.object RX7) (α 330) 8 (fun i => .ref (β (20 + i))) A U H ∧
  va_Z RX0 "$SwitchMap$QuillRelay$Verb" "[I" (.ref (α 331)) A U H ∧ va_T .int (α 331) 8 (fun i => .int (nI ((i + 1) % 8))) A U H ∧
  vk_S 17 q_sl q_sb (fun i => α (340 + i)) (fun i => α (360 + i)) A U H ∧
  vx_Zq Bundle.tN "UNASSIGNED_STACK" Bundle.steD A U H ∧ vx_Zq Bundle.tN "SUPPRESSED_SENTINEL" Bundle.listD A U H ∧ q_ET α U
theorem q_ET.mv {α : Nat → Nat} {u U : State} (hW : u.WarmedH U.vm) (h : q_ET α u) : q_ET α U := by
  obtain ⟨h1, h2, h3, h4, h5⟩ := h
  refine ⟨fun i hi => (h1 i hi).warm hW, fun q hq => ?_, ?_, fun a ha b hb hab => (h4 a ha b hb hab).moved hW.alike, ?_⟩
  · obtain ⟨a, ha⟩ := h2 q hq
    exact ⟨a, ha.warm hW⟩
  · intro w hw
    have hz := h3 w hw
    simp only [q_NW, List.mem_cons, List.not_mem_nil, or_false] at hw
    rcases hw with rfl | rfl | rfl | rfl | rfl | rfl <;> exact va_Nw.warmM hW hz
  · intro w hw
    have hz := h5 w hw
    simp only [q_XW, List.mem_cons, List.not_mem_nil, or_false] at hw
    rcases hw with rfl | rfl | rfl | rfl | rfl | rfl | rfl | rfl | rfl | rfl | rfl | rfl | rfl | rfl | rfl | rfl | rfl | rfl | rfl | rfl | rfl | rfl | rfl | rfl | rfl | rfl | rfl | rfl | rfl | rfl | rfl | rfl | rfl | rfl | rfl | rfl | rfl | rfl | rfl <;> first | exact va_Nw.warmC hW hz | exact va_Nw.warmD hW hz
theorem q_EF.mv {α β : Nat → Nat} {A : Nat → Prop} {u U : State} {H : Heap} (hW : u.WarmedH U.vm) (h : q_EF α β A u H) : q_EF α β A U H := by
  obtain ⟨h1, h2, h3, h4, h5, h6, h7, h8, h9, h10, h11, h12, h13⟩ := h
  exact ⟨h1.moved hW.alike, h2.moved hW.alike, h3.moved hW.alike, h4, h5.moved hW.alike, h6.moved hW.alike, h7.moved hW.alike, h8.moved hW.alike, h9.moved hW.alike, h10.moved hW.alike, h11.moved hW.alike, h12.moved hW.alike, h13.mv hW⟩
theorem q_EF.kp {α β : Nat → Nat} {A : Nat → Prop} {U : State} {H H1 : Heap} (hq : ∀ a : Nat, a < H.size → ¬ A a → H1[a]? = H[a]?) (h : q_EF α β A U H) : q_EF α β A U H1 := by
  obtain ⟨h1, h2, h3, h4, h5, h6, h7, h8, h9, h10, h11, h12, h13⟩ := h
  exact ⟨h1.kept hq, h2.kept hq, h3.kept hq, h4, h5.kept hq, h6.kept hq, h7.kept hq, h8.kept hq, h9.kept hq, h10.kept hq, h11.kept hq, h12.kept hq, h13⟩
theorem q_EF.nr {α β : Nat → Nat} {A B : Nat → Prop} {U : State} {H : Heap} (hAB : ∀ q, B q → A q) (h : q_EF α β A U H) : q_EF α β B U H := by
  obtain ⟨h1, h2, h3, h4, h5, h6, h7, h8, h9, h10, h11, h12, h13⟩ := h
  exact ⟨h1.narrow hAB, h2.narrow hAB, h3.narrow hAB, h4, h5.narrow hAB, h6.narrow hAB, h7.narrow hAB, h8.narrow hAB, h9.narrow hAB, h10.narrow hAB, h11.narrow hAB, h12.narrow hAB, h13⟩
end
section
/-! The machine does what the pure function says. -/
theorem q_has_sub {ls : Array Slot} {nL : Nat} {l l' : List (Nat × Value)} (h : lv_has ls nL l) (hs : ∀ q ∈ l', q ∈ l) : lv_has ls nL l' := ⟨h.1, h.2.1, fun q hq => h.2.2 q (hs q hq)⟩
theorem q_cat (α β : Nat → Nat) (v : Value) : (q_cv α β v).category = v.category := by cases v <;> rfl
theorem q_lget_in {l : q_Lv} {i : Nat} {v : Value} (h : q_lget l i = some v) : (i, v) ∈ l := by
  induction l with
  | nil => cases h
  | cons q t ih =>
    unfold q_lget at h
    cases hb : Nat.beq q.1 i with
    | true =>
      rw [hb] at h
      have e := Nat.eq_of_beq_eq_true hb
      cases h
      rw [← e]
      exact List.mem_cons_self
    | false =>
      rw [hb] at h
      exact List.mem_cons_of_mem _ (ih h)
abbrev q_lm (α β : Nat → Nat) (l : q_Lv) : q_Lv := l.map (fun q => (q.1, q_cv α β q.2))
theorem q_lget_has {α β : Nat → Nat} {ls : Array Slot} {nL : Nat} {l : q_Lv} {i : Nat} {v : Value} (hl : lv_has ls nL (q_lm α β l)) (h : q_lget l i = some v) : ls[i]? = some (.val (q_cv α β v)) :=
  hl.2.2 (i, q_cv α β v) (List.mem_map.mpr ⟨(i, v), q_lget_in h, rfl⟩)
theorem q_ldel_in {l : q_Lv} {i : Nat} {q : Nat × Value} (h : q ∈ q_ldel l i) : q ∈ l ∧ ¬ q.1 = i ∧ ¬ (q.1 + 1 = i ∧ q.2.category = 2) := by
  induction l with
  | nil => cases h
  | cons z t ih =>
    unfold q_ldel at h
    cases hb : (Nat.beq z.1 i || (Nat.beq (z.1 + 1) i && Nat.beq z.2.category 2)) with
    | true =>
      rw [hb] at h
      obtain ⟨a, b⟩ := ih h
      exact ⟨List.mem_cons_of_mem _ a, b⟩
    | false =>
      rw [hb] at h
      rcases List.mem_cons.mp h with rfl | h
      · refine ⟨List.mem_cons_self, ?_, ?_⟩
        · intro e
          rw [e, Nat.beq_refl] at hb
          cases hb
        · rintro ⟨e1, e2⟩
          rw [e1, e2, Nat.beq_refl, Nat.beq_refl] at hb
          simp at hb
      · obtain ⟨a, b⟩ := ih h
        exact ⟨List.mem_cons_of_mem _ a, b⟩
theorem q_lset_has {α β : Nat → Nat} {ls : Array Slot} {nL : Nat} {l : q_Lv} {i : Nat} {v : Value} (h : lv_has ls nL ((i, q_cv α β v) :: (q_lm α β l).filter (fun q => !(q.1 == i) && !(q.1 + 1 == i && q.2.category == 2)))) : lv_has ls nL (q_lm α β (q_lset l i v)) := by
  refine q_has_sub h (fun q hq => ?_)
  obtain ⟨z, hz, rfl⟩ := List.mem_map.mp hq
  rcases List.mem_cons.mp hz with rfl | hz
  · exact List.mem_cons_self
  · obtain ⟨a, b, c⟩ := q_ldel_in hz
    refine List.mem_cons_of_mem _ (List.mem_filter.mpr ⟨List.mem_map.mpr ⟨z, a, rfl⟩, ?_⟩)
    simp only [q_cat]
    have h1 : (z.1 == i) = false := by simpa using b
    rw [h1]
    simp only [Bool.not_false, Bool.true_and, Bool.not_eq_true', Bool.and_eq_false_iff, beq_eq_false_iff_ne, ne_eq]
    by_cases e : z.1 + 1 = i
    · exact Or.inr (fun q => c ⟨e, q⟩)
    · exact Or.inl e
/-- a text that is hidden in the world -/
def q_Y1 (σ : q_M) (Y : q_H) (k : Nat) : Prop := ∃ (n : Nat) (t : Nat → Nat), σ (k - 2) 3 = nI n ∧ (∀ j, j < n → σ k j = nI (t j)) ∧ n ≤ (Y k).2.1 ∧ (Y k).2.1 ≤ 65536 ∧ sb_Lat t n (Y k).2.2.1 ∧ sb_Fit (Y k).2.2.1
def q_Yok (σ : q_M) (Y : q_H) : Prop := q_Y1 σ Y 227 ∧ q_Y1 σ Y 228
theorem q_Yok.to {σ σ' : q_M} {Y : q_H} (h : q_Yok σ Y) (h5 : σ' 225 = σ 225) (h6 : σ' 226 = σ 226) (h7 : σ' 227 = σ 227) (h8 : σ' 228 = σ 228) : q_Yok σ' Y := by
  unfold q_Yok q_Y1 at h ⊢
  rw [show (227 : Nat) - 2 = 225 from rfl, show (228 : Nat) - 2 = 226 from rfl] at h ⊢
  rw [h5, h6, h7, h8]
  exact h
theorem q_Yok.up {σ : q_M} {Y : q_H} {k j : Nat} {v : Int32} (h : q_Yok σ Y) (hk : k < 225 ∨ 228 < k) : q_Yok (q_up σ k j v) Y := h.to (q_up_off (by omega)) (q_up_off (by omega)) (q_up_off (by omega)) (q_up_off (by omega))
theorem q_kd_out {k c : Nat} (h : q_kd k = c) (h1 : c ≠ 1) (h2 : c ≠ 22) : k < 225 ∨ 228 < k := by
  rcases (show k < 225 ∨ 228 < k ∨ k = 225 ∨ k = 226 ∨ k = 227 ∨ k = 228 by omega) with q | q | rfl | rfl | rfl | rfl
  · exact Or.inl q
  · exact Or.inr q
  · exact absurd h.symm h1
  · exact absurd h.symm h1
  · exact absurd h.symm h2
  · exact absurd h.symm h2
/-- a class's field references, and its static constants -/
def q_Fok (own : String) (F : Nat → Option (Nat × Nat)) : Prop := ∀ i a b, F i = some (a, b) → ∃ (C : String) (T : u_T) (N : Nat), vwCl[a]? = some (C, T, N) ∧ b < N ∧ N = q_nf a ∧ 4 ≤ a ∧ a ≤ 9 ∧ (∀ w ∈ u_ws C T N, w ∈ q_W) ∧ Cond.fieldLink own i (T b).1 (T b).2.1 (T b).2.2.1 ∈ q_W
def q_gn (n : Nat) : String × String × String := if n < 5 then (RX5, q_nS.getD n "", "LQuillRelay$Stage;") else if n < 15 then (RX1, q_nF.getD (n - 10) "", "LQuillRelay$Fault;") else (RX7, q_nV.getD (n - 20) "", "LQuillRelay$Verb;")
def q_Gok (own : String) (G : Nat → Option Int32) : Prop := ∀ i x, G i = some x → ∃ n, x = nI n ∧ (n < 5 ∨ (10 ≤ n ∧ n < 15) ∨ (20 ≤ n ∧ n < 28)) ∧ Cond.fieldLink own i (q_gn n).1 (q_gn n).2.1 (q_gn n).2.2 ∈ q_W
/-- what holds all along a method -/
def q_Cx (α β : Nat → Nat) (D : va_G) (κ : Nat → ClassId) (p : Program) (s : State) (m : MethodId) (args : Array Value) (meth : Method) (c : Code) (cc : ByteArray) (own : String) (F : Nat → Option (Nat × Nat)) (G : Nat → Option Int32) (nL : Nat) (A : Nat → Prop) : Prop :=
  p.tables.exec = Jvm.exec ∧ c.code = cc ∧ c.maxLocals = nL ∧ s.vm.findClass own = some m.cls ∧ (∀ w ∈ q_W, w.before args s = true) ∧ va_K D vwCl (q_tys κ) s ∧ q_EF α β A s s.heap ∧ (∀ q : Nat, s.heap.size ≤ q → A q) ∧ meth.locks = false ∧ q_Fok own F ∧ q_Gok own G
/-- a state of a method -/
def q_St (α β : Nat → Nat) (D : va_G) (κ : Nat → ClassId) (p : Program) (l : Launch) (e : Env) (R : Room) (s : State) (m : MethodId) (args : Array Value) (below : List Frame) (meth : Method) (c : Code) (nL : Nat) (A : Nat → Prop) (Q : State → Prop) (n1 n2 : Nat) (σ : q_M) (lv : q_Lv) (pc : Nat) (st : List Value) : Prop :=
  ∀ (Y : q_H) (H : Heap) (locs : List Loc) (ls : Array Slot), q_Yok σ Y → va_P D vwCl (q_ws α β κ Y σ) H → va_D A (q_ws α β κ Y σ) → va_S A s.heap H locs → lv_has ls nL (q_lm α β lv) →
    W p l e R s m args below meth c H locs n1 n2 Q (F0 m pc ls (st.map (q_cv α β)))
section q07
variable {α β : Nat → Nat} {D : va_G} {κ : Nat → ClassId} {p : Program} {l : Launch} {e : Env} {R : Room} {s : State} {m : MethodId} {args : Array Value} {below : List Frame} {meth : Method} {c : Code} {cc : ByteArray} {own : String} {F : Nat → Option (Nat × Nat)} {G : Nat → Option Int32} {nL : Nat} {A : Nat → Prop} {Q : State → Prop} {n1 n2 : Nat}
theorem q_st_i {α β : Nat → Nat} {st : List Value} {x : Int32} : (Value.int x :: st).map (q_cv α β) = Value.int x :: st.map (q_cv α β) := rfl
theorem q_nI_u : ∀ n, n < 28 → (nI n).toUInt32.toNat = n := by decide +kernel
theorem q_ge {x y : Int32} : y ≤ x ↔ ¬ x < y := by rw [Int32.le_iff_toInt_le, Int32.lt_iff_toInt_lt]; omega
theorem q_zb {x : Int32} (h : x = 0 ∨ x = 1) : narrow .boolean (.int x) = .int x ∧ fits .boolean (.int x) = true := by
  rcases h with rfl | rfl <;> decide +kernel
theorem q_all_1 {p : Prop} (h : q_all [p]) : p := h.1
/-- a field's type, and that what q_un takes may be stored in it -/
theorem q_un_ok {α β : Nat → Nat} {a b k : Nat} {v : Value} {cs : List Prop} {x : Int32} (h : q_un a b v = some (cs, x)) (hc : q_all cs) {C : String} {T : u_T} {N : Nat} (hC : vwCl[a]? = some (C, T, N)) :
    q_cv α β (q_fw a b k x) = q_cv α β v ∧ (T b).2.2.2 = false ∧ ∃ ty : FieldType, parseFieldDescriptor (T b).2.2.1 = some ty ∧ narrow ty (q_cv α β v) = q_cv α β v ∧ fits ty (q_cv α β v) = true := by
  unfold q_un at h
  split at h <;> first
    | (cases h; cases hC; exact ⟨rfl, rfl, .int, by decide +kernel, rfl, rfl⟩)
    | (cases h; cases hC; exact ⟨rfl, rfl, .object "QuillRelay$Stage", by decide +kernel, rfl, rfl⟩)
    | (cases h; cases hC; exact ⟨rfl, rfl, .object "QuillRelay$Verb", by decide +kernel, rfl, rfl⟩)
    | (cases h; cases hC; exact ⟨rfl, rfl, .boolean, by decide +kernel, (q_zb (q_all_1 hc)).1, (q_zb (q_all_1 hc)).2⟩)
    | (cases h; done)
theorem q_ty_ok {a : Nat} {C : String} {T : u_T} {N : Nat} (hC : vwCl[a]? = some (C, T, N)) (h4 : 4 ≤ a) (h9 : a ≤ 9) : ∃ ty0 : Nat → FieldType, (∀ k, k < N → parseFieldDescriptor (T k).2.2.1 = some (ty0 k)) ∧ (∀ a, a < N → ∀ b, b < N → a ≠ b → (T a).2.1 ≠ (T b).2.1) := by
  rcases (show a = 4 ∨ a = 5 ∨ a = 6 ∨ a = 7 ∨ a = 8 ∨ a = 9 by omega) with rfl | rfl | rfl | rfl | rfl | rfl <;> cases hC
  · exact ⟨tyX2, tyX2_ok, nmX2⟩
  · exact ⟨tyX3, tyX3_ok, nmX3⟩
  · exact ⟨tyX4, tyX4_ok, nmX4⟩
  · exact ⟨tyX6, tyX6_ok, nmX6⟩
  · exact ⟨tyX8, tyX8_ok, nmX8⟩
  · exact ⟨tyX9, tyX9_ok, nmX9⟩
end q07
end
section
section q08
variable {α β : Nat → Nat} {D : va_G} {κ : Nat → ClassId} {p : Program} {l : Launch} {e : Env} {R : Room} {s : State} {m : MethodId} {args : Array Value} {below : List Frame} {meth : Method} {c : Code} {cc : ByteArray} {own : String} {F : Nat → Option (Nat × Nat)} {G : Nat → Option Int32} {nL : Nat} {A : Nat → Prop} {Q : State → Prop} {n1 n2 : Nat}
theorem q_c1_cat {v : Value} (h : q_c1 v = true) : (q_cv α β v).category = 1 := by cases v <;> first | rfl | cases h
theorem q_at_o {k a : Nat} {Y : q_H} {σ : q_M} (h : q_kd k = a) (h4 : 4 ≤ a) (h9 : a ≤ 9) : (q_ws α β κ Y σ)[k]? = some (α k, .inr (a, (List.range (q_nf a)).map (fun j => q_cv α β (q_fw a j k (σ k j))))) := by
  rw [q_ws_at (q_kd_lt h (by omega)), q_ad_of h (by omega), q_pc_o h h4 h9]
theorem q_at_i {k : Nat} {Y : q_H} {σ : q_M} (h : q_kd k = 20) : (q_ws α β κ Y σ)[k]? = some (α k, .inl (κ 0, q_len k, .inl (σ k))) := by
  rw [q_ws_at (q_kd_lt h (by omega)), q_ad_of h (by omega), q_pc_i h]
theorem q_at_l {k : Nat} {Y : q_H} {σ : q_M} (h : q_kd k = 21) : (q_ws α β κ Y σ)[k]? = some (α k, .inl (κ 2, 1, .inr (.inl (fun j => (σ k j).toInt64)))) := by
  rw [q_ws_at (q_kd_lt h (by omega)), q_ad_of h (by omega), q_pc_l h]
theorem q_at_d {k : Nat} {Y : q_H} {σ : q_M} (h : q_kd k = 23) : (q_ws α β κ Y σ)[k]? = some (α k, .inl (κ 3, 1, .inr (.inr (.inr (.inl (fun _ => q_dv (σ k))))))) := by
  rw [q_ws_at (q_kd_lt h (by omega)), q_ad_of h (by omega), q_pc_d h]
theorem q_at_t {k : Nat} {Y : q_H} {σ : q_M} (h : q_kd k = 30) : (q_ws α β κ Y σ)[k]? = some (α k, .inl (κ 4, 6, .inr (.inr (.inr (.inr (fun i => some (α (k + 1 + 3 * i)))))))) := by
  rw [q_ws_at (q_kd_lt h (by omega)), q_ad_of h (by omega), q_pc_t h]
theorem q_at_r {k : Nat} {Y : q_H} {σ : q_M} (h : q_kd k = 31) : (q_ws α β κ Y σ)[k]? = some (α k, .inl (κ 5, 8, .inr (.inr (.inr (.inr (fun i => some (α (60 + 20 * i)))))))) := by
  rw [q_ws_at (q_kd_lt h (by omega)), q_ad_of h (by omega), q_pc_r h]
theorem q_set_o {k a b : Nat} {Y : q_H} {σ : q_M} {x : Int32} {V : Value} (h : q_kd k = a) (h4 : 4 ≤ a) (h9 : a ≤ 9) (hv : q_cv α β (q_fw a b k x) = V) : (q_ws α β κ Y σ).set k (α k, .inr (a, ((List.range (q_nf a)).map (fun j => q_cv α β (q_fw a j k (σ k j)))).set b V)) = q_ws α β κ Y (q_up σ k b x) := by
  rw [← q_ad_of (α := α) (Y := Y) h (by omega)]
  exact q_ws_set (q_kd_lt h (by omega)) (by rw [q_pc_o h h4 h9, q_fs_set hv])
theorem q_set_i {k b : Nat} {Y : q_H} {σ : q_M} {x : Int32} (h : q_kd k = 20) : (q_ws α β κ Y σ).set k (α k, .inl (κ 0, q_len k, .inl (upd (σ k) b x))) = q_ws α β κ Y (q_up σ k b x) := by
  rw [← q_ad_of (α := α) (Y := Y) h (by omega)]
  exact q_ws_set (q_kd_lt h (by omega)) (by rw [q_pc_i h])
theorem q_stat {A : Nat → Prop} {U : State} {H : Heap} (hE : q_EF α β A U H) {n : Nat} (hn : n < 5 ∨ (10 ≤ n ∧ n < 15) ∨ (20 ≤ n ∧ n < 28)) : va_Z (q_gn n).1 (q_gn n).2.1 (q_gn n).2.2 (.ref (β n)) A U H := by
  rcases hn with h | ⟨h1, h⟩ | ⟨h1, h⟩
  · have z := (hE.1.1 n h).1
    unfold q_gn
    rw [if_pos h]
    exact z
  · have z := (hE.2.1.1 (n - 10) (show n - 10 < 5 by omega)).1
    unfold q_gn
    rw [if_neg (by omega), if_pos h]
    dsimp only at z
    rw [show 10 + (n - 10) = n by omega] at z
    exact z
  · have z := (hE.2.2.1.1 (n - 20) (show n - 20 < 8 by omega)).1
    unfold q_gn
    rw [if_neg (by omega), if_neg (by omega)]
    dsimp only at z
    rw [show 20 + (n - 20) = n by omega] at z
    exact z

set_option maxHeartbeats 4000000 in
theorem q_1_ok (C : q_Cx α β D κ p s m args meth c cc own F G nL A) {z : q_E} (hd : decode cc z.1 = .ok (z.2.1, z.2.2.1)) (hk : q_ck nL z = true) {tk : Bool} {S : q_S} {cs : List Prop} {pc1 : Nat} {S1 : q_S} (h : q_1 F G z tk S = some (cs, pc1, S1)) (hc : q_all cs) (kk : q_St α β D κ p l e R s m args below meth c nL A Q n1 n2 S1.2.2 S1.1 pc1 S1.2.1) : q_St α β D κ p l e R s m args below meth c nL A Q n1 n2 S.2.2 S.1 z.1 S.2.1 := by
  obtain ⟨pc, I, len, cv, tg⟩ := z
  obtain ⟨lv, st, σ⟩ := S
  obtain ⟨hx, hb, hml, hown, hts, hK, hE, hA, hlk, hF, hG⟩ := C
  dsimp only at hd kk ⊢
  unfold q_1 at h
  unfold q_ck at hk
  cases I with
  | iconst n =>
    dsimp only at h hk
    cases h
    simp only [Bool.and_eq_true, decide_eq_true_eq] at hk
    obtain ⟨rfl, hv⟩ := hk
    intro Y H locs ls hY hP hD hS hl
    exact lv_iconst hx hb hd hv (kk Y H locs ls hY hP hD hS hl)
  | bipush n =>
    dsimp only at h hk
    cases h
    simp only [Bool.and_eq_true, decide_eq_true_eq] at hk
    obtain ⟨rfl, hv⟩ := hk
    intro Y H locs ls hY hP hD hS hl
    exact lv_bipush hx hb hd hv (kk Y H locs ls hY hP hD hS hl)
  | sipush n =>
    dsimp only at h hk
    cases h
    simp only [Bool.and_eq_true, decide_eq_true_eq] at hk
    obtain ⟨rfl, hv⟩ := hk
    intro Y H locs ls hY hP hD hS hl
    exact lv_sipush hx hb hd hv (kk Y H locs ls hY hP hD hS hl)
  | lconst n =>
    dsimp only at h hk
    cases h
    simp only [Bool.and_eq_true, decide_eq_true_eq] at hk
    obtain ⟨rfl, hv⟩ := hk
    intro Y H locs ls hY hP hD hS hl
    exact lv_lconst hx hb hd hv (kk Y H locs ls hY hP hD hS hl)
  | aconst_null =>
    dsimp only at h hk
    cases h
    obtain rfl : len = 1 := of_decide_eq_true hk
    intro Y H locs ls hY hP hD hS hl
    exact lv_null hx hb hd (kk Y H locs ls hY hP hD hS hl)
  | iload i =>
    dsimp only at h hk
    obtain rfl : len = 2 := of_decide_eq_true hk
    split at h
    next x hq =>
      cases h
      intro Y H locs ls hY hP hD hS hl
      exact lv_iload hx hb hd (q_lget_has hl hq) (kk Y H locs ls hY hP hD hS hl)
    next => cases h
  | iload_n i =>
    dsimp only at h hk
    obtain rfl : len = 1 := of_decide_eq_true hk
    split at h
    next x hq =>
      cases h
      intro Y H locs ls hY hP hD hS hl
      exact lv_iload_n hx hb hd rfl (q_lget_has hl hq) (kk Y H locs ls hY hP hD hS hl)
    next => cases h
  | aload i =>
    dsimp only at h hk
    obtain rfl : len = 2 := of_decide_eq_true hk
    split at h
    next x hq =>
      cases h
      intro Y H locs ls hY hP hD hS hl
      exact lv_aload hx hb hd (q_lget_has hl hq) (kk Y H locs ls hY hP hD hS hl)
    next x hq =>
      cases h
      intro Y H locs ls hY hP hD hS hl
      exact lv_aload hx hb hd (q_lget_has hl hq) (kk Y H locs ls hY hP hD hS hl)
    next hq =>
      cases h
      intro Y H locs ls hY hP hD hS hl
      exact lv_aloadN hx hb hd (q_lget_has hl hq) (kk Y H locs ls hY hP hD hS hl)
    next => cases h
  | aload_n i =>
    dsimp only at h hk
    obtain rfl : len = 1 := of_decide_eq_true hk
    split at h
    next x hq =>
      cases h
      intro Y H locs ls hY hP hD hS hl
      exact lv_aload_n hx hb hd rfl (q_lget_has hl hq) (kk Y H locs ls hY hP hD hS hl)
    next x hq =>
      cases h
      intro Y H locs ls hY hP hD hS hl
      exact lv_aload_n hx hb hd rfl (q_lget_has hl hq) (kk Y H locs ls hY hP hD hS hl)
    next hq =>
      cases h
      intro Y H locs ls hY hP hD hS hl
      exact lv_aload_nN hx hb hd rfl (q_lget_has hl hq) (kk Y H locs ls hY hP hD hS hl)
    next => cases h
  | istore i =>
    dsimp only at h hk
    simp only [Bool.and_eq_true, decide_eq_true_eq] at hk
    obtain ⟨rfl, hi⟩ := hk
    split at h
    next x r =>
      cases h
      intro Y H locs ls hY hP hD hS hl
      exact lv_istore hx hb hd hl hi rfl (fun ls' h' => kk Y H locs ls' hY hP hD hS (q_lset_has (v := .int x) h'))
    next => cases h
  | istore_n i =>
    dsimp only at h hk
    simp only [Bool.and_eq_true, decide_eq_true_eq] at hk
    obtain ⟨rfl, hi⟩ := hk
    split at h
    next x r =>
      cases h
      intro Y H locs ls hY hP hD hS hl
      exact lv_istore_n hx hb hd rfl hl hi rfl (fun ls' h' => kk Y H locs ls' hY hP hD hS (q_lset_has (v := .int x) h'))
    next => cases h
  | astore i =>
    dsimp only at h hk
    simp only [Bool.and_eq_true, decide_eq_true_eq] at hk
    obtain ⟨rfl, hi⟩ := hk
    split at h
    next x r =>
      cases h
      intro Y H locs ls hY hP hD hS hl
      exact lv_astore hx hb hd hl hi rfl (fun ls' h' => kk Y H locs ls' hY hP hD hS (q_lset_has (v := .ref x) h'))
    next x r =>
      cases h
      intro Y H locs ls hY hP hD hS hl
      exact lv_astore hx hb hd hl hi rfl (fun ls' h' => kk Y H locs ls' hY hP hD hS (q_lset_has (v := .float x) h'))
    next r =>
      cases h
      intro Y H locs ls hY hP hD hS hl
      exact lv_astoreN hx hb hd hl hi rfl (fun ls' h' => kk Y H locs ls' hY hP hD hS (q_lset_has (v := .null) h'))
    next => cases h
  | astore_n i =>
    dsimp only at h hk
    simp only [Bool.and_eq_true, decide_eq_true_eq] at hk
    obtain ⟨rfl, hi⟩ := hk
    split at h
    next x r =>
      cases h
      intro Y H locs ls hY hP hD hS hl
      exact lv_astore_n hx hb hd rfl hl hi rfl (fun ls' h' => kk Y H locs ls' hY hP hD hS (q_lset_has (v := .ref x) h'))
    next x r =>
      cases h
      intro Y H locs ls hY hP hD hS hl
      exact lv_astore_n hx hb hd rfl hl hi rfl (fun ls' h' => kk Y H locs ls' hY hP hD hS (q_lset_has (v := .float x) h'))
    next r =>
      cases h
      intro Y H locs ls hY hP hD hS hl
      exact lv_astore_nN hx hb hd rfl hl hi rfl (fun ls' h' => kk Y H locs ls' hY hP hD hS (q_lset_has (v := .null) h'))
    next => cases h
  | iinc i n =>
    dsimp only at h hk
    simp only [Bool.and_eq_true, decide_eq_true_eq] at hk
    obtain ⟨⟨rfl, hi⟩, hv⟩ := hk
    split at h
    next x hq =>
      cases h
      intro Y H locs ls hY hP hD hS hl
      obtain ⟨k9, h9⟩ := List.getElem?_of_mem (List.mem_map.mpr ⟨(i, .int x), q_lget_in hq, rfl⟩ : (i, q_cv α β (.int x)) ∈ q_lm α β lv)
      exact lv_iinc hx hb hd hl h9 (by rw [hv]) hi rfl (fun ls' h' => kk Y H locs ls' hY hP hD hS (q_lset_has (v := .int (x + cv)) h'))
    next => cases h
  | iadd =>
    dsimp only at h hk
    obtain rfl : len = 1 := of_decide_eq_true hk
    split at h
    next y x r =>
      cases h
      intro Y H locs ls hY hP hD hS hl
      exact lv_iadd hx hb hd (kk Y H locs ls hY hP hD hS hl)
    next => cases h
  | isub =>
    dsimp only at h hk
    obtain rfl : len = 1 := of_decide_eq_true hk
    split at h
    next y x r =>
      cases h
      intro Y H locs ls hY hP hD hS hl
      exact lv_isub hx hb hd (kk Y H locs ls hY hP hD hS hl)
    next => cases h
  | imul =>
    dsimp only at h hk
    obtain rfl : len = 1 := of_decide_eq_true hk
    split at h
    next y x r =>
      cases h
      intro Y H locs ls hY hP hD hS hl
      exact lv_imul hx hb hd (kk Y H locs ls hY hP hD hS hl)
    next => cases h
  | iand =>
    dsimp only at h hk
    obtain rfl : len = 1 := of_decide_eq_true hk
    split at h
    next y x r =>
      cases h
      intro Y H locs ls hY hP hD hS hl
      exact lv_iand hx hb hd (kk Y H locs ls hY hP hD hS hl)
    next => cases h
  | ior =>
    dsimp only at h hk
    obtain rfl : len = 1 := of_decide_eq_true hk
    split at h
    next y x r =>
      cases h
      intro Y H locs ls hY hP hD hS hl
      exact lv_ior hx hb hd (kk Y H locs ls hY hP hD hS hl)
    next => cases h
  | ishl =>
    dsimp only at h hk
    obtain rfl : len = 1 := of_decide_eq_true hk
    split at h
    next y x r =>
      cases h
      intro Y H locs ls hY hP hD hS hl
      exact lv_ishl hx hb hd (kk Y H locs ls hY hP hD hS hl)
    next => cases h
  | ishr =>
    dsimp only at h hk
    obtain rfl : len = 1 := of_decide_eq_true hk
    split at h
    next y x r =>
      cases h
      intro Y H locs ls hY hP hD hS hl
      exact lv_ishr hx hb hd (kk Y H locs ls hY hP hD hS hl)
    next => cases h
  | idiv =>
    dsimp only at h hk
    obtain rfl : len = 1 := of_decide_eq_true hk
    split at h
    next y x r =>
      cases h
      intro Y H locs ls hY hP hD hS hl
      exact lv_idiv hx hb hd hc.1 (kk Y H locs ls hY hP hD hS hl)
    next => cases h
  | irem =>
    dsimp only at h hk
    obtain rfl : len = 1 := of_decide_eq_true hk
    split at h
    next y x r =>
      cases h
      intro Y H locs ls hY hP hD hS hl
      exact lv_irem hx hb hd hc.1 (kk Y H locs ls hY hP hD hS hl)
    next => cases h
  | ineg =>
    dsimp only at h hk
    obtain rfl : len = 1 := of_decide_eq_true hk
    split at h
    next x r =>
      cases h
      intro Y H locs ls hY hP hD hS hl
      exact lv_ineg hx hb hd (kk Y H locs ls hY hP hD hS hl)
    next => cases h
  | i2c =>
    dsimp only at h hk
    obtain rfl : len = 1 := of_decide_eq_true hk
    split at h
    next x r =>
      cases h
      intro Y H locs ls hY hP hD hS hl
      exact lv_i2c hx hb hd rfl (kk Y H locs ls hY hP hD hS hl)
    next => cases h
  | i2l =>
    dsimp only at h hk
    obtain rfl : len = 1 := of_decide_eq_true hk
    split at h
    next x r =>
      cases h
      intro Y H locs ls hY hP hD hS hl
      exact lv_i2l hx hb hd rfl (kk Y H locs ls hY hP hD hS hl)
    next => cases h
  | i2d =>
    dsimp only at h hk
    obtain rfl : len = 1 := of_decide_eq_true hk
    split at h
    next x r =>
      cases h
      intro Y H locs ls hY hP hD hS hl
      exact lv_i2d hx hb hd (kk Y H locs ls hY hP hD hS hl)
    next => cases h
  | lcmp =>
    dsimp only at h hk
    obtain rfl : len = 1 := of_decide_eq_true hk
    split at h
    next y x r =>
      cases h
      intro Y H locs ls hY hP hD hS hl
      exact W.lcmp hx hb hd (kk Y H locs ls hY hP hD hS hl)
    next => cases h
  | dcmp o =>
    dsimp only at h hk
    obtain rfl : len = 1 := of_decide_eq_true hk
    split at h
    next y x r =>
      cases h
      intro Y H locs ls hY hP hD hS hl
      exact lv_dcmp hx hb hd (kk Y H locs ls hY hP hD hS hl)
    next => cases h
  | dup =>
    dsimp only at h hk
    obtain rfl : len = 1 := of_decide_eq_true hk
    split at h
    next v r =>
      cases hq : (q_c1 v) with
      | true =>
        rw [hq] at h
        cases h
        skip
        intro Y H locs ls hY hP hD hS hl
        exact lv_dup hx hb hd (q_c1_cat hq) (kk Y H locs ls hY hP hD hS hl)
      | false =>
        rw [hq] at h
        cases h
    next => cases h
  | pop =>
    dsimp only at h hk
    obtain rfl : len = 1 := of_decide_eq_true hk
    split at h
    next v r =>
      cases hq : (q_c1 v) with
      | true =>
        rw [hq] at h
        cases h
        skip
        intro Y H locs ls hY hP hD hS hl
        exact lv_pop hx hb hd (q_c1_cat hq) (kk Y H locs ls hY hP hD hS hl)
      | false =>
        rw [hq] at h
        cases h
    next => cases h
  | dup2 =>
    dsimp only at h hk
    obtain rfl : len = 1 := of_decide_eq_true hk
    split at h
    next v w r =>
      cases hq : (q_c1 v && q_c1 w) with
      | true =>
        rw [hq] at h
        cases h
        simp only [Bool.and_eq_true] at hq
        intro Y H locs ls hY hP hD hS hl
        exact lv_dup2_11 hx hb hd (q_c1_cat hq.1) (q_c1_cat hq.2) (kk Y H locs ls hY hP hD hS hl)
      | false =>
        rw [hq] at h
        cases h
    next => cases h
  | dup_x1 =>
    dsimp only at h hk
    obtain rfl : len = 1 := of_decide_eq_true hk
    split at h
    next v w r =>
      cases hq : (q_c1 v && q_c1 w) with
      | true =>
        rw [hq] at h
        cases h
        simp only [Bool.and_eq_true] at hq
        intro Y H locs ls hY hP hD hS hl
        exact lv_dup_x1 hx hb hd (q_c1_cat hq.1) (q_c1_cat hq.2) (kk Y H locs ls hY hP hD hS hl)
      | false =>
        rw [hq] at h
        cases h
    next => cases h
  | goto o =>
    dsimp only at h hk
    cases h
    simp only [Bool.and_eq_true, decide_eq_true_eq] at hk
    obtain ⟨rfl, ht⟩ := hk
    intro Y H locs ls hY hP hD hS hl
    exact lv_goto hx hb hd ht (kk Y H locs ls hY hP hD hS hl)
  | ifCond op o =>
    dsimp only at h hk
    simp only [Bool.and_eq_true, decide_eq_true_eq] at hk
    obtain ⟨rfl, ht⟩ := hk
    split at h
    next x r =>
      cases h
      have hc := hc.1
      intro Y H locs ls hY hP hD hS hl
      cases op <;> cases tk <;> dsimp only [q_cond, cond] at hc kk
      · exact lv_if_eq hx hb hd ht (fun q => absurd q hc) (fun _ => (kk Y H locs ls hY hP hD hS hl))
      · exact lv_if_eq hx hb hd ht (fun _ => (kk Y H locs ls hY hP hD hS hl)) (fun q => absurd hc q)
      · exact lv_if_ne hx hb hd ht (fun q => absurd hc q) (fun _ => (kk Y H locs ls hY hP hD hS hl))
      · exact lv_if_ne hx hb hd ht (fun _ => (kk Y H locs ls hY hP hD hS hl)) (fun q => absurd q hc)
      · exact lv_if_lt hx hb hd ht (fun q => absurd q hc) (fun _ => (kk Y H locs ls hY hP hD hS hl))
      · exact lv_if_lt hx hb hd ht (fun _ => (kk Y H locs ls hY hP hD hS hl)) (fun q => absurd hc q)
      · exact lv_if_ge hx hb hd ht (fun q => absurd hc (q_ge.mp q)) (fun _ => (kk Y H locs ls hY hP hD hS hl))
      · exact lv_if_ge hx hb hd ht (fun _ => (kk Y H locs ls hY hP hD hS hl)) (fun q => absurd (q_ge.mpr hc) q)
      · exact lv_if_gt hx hb hd ht (fun q => absurd q hc) (fun _ => (kk Y H locs ls hY hP hD hS hl))
      · exact lv_if_gt hx hb hd ht (fun _ => (kk Y H locs ls hY hP hD hS hl)) (fun q => absurd hc q)
      · exact lv_if_le hx hb hd ht (fun q => absurd hc (q_ge.mp q)) (fun _ => (kk Y H locs ls hY hP hD hS hl))
      · exact lv_if_le hx hb hd ht (fun _ => (kk Y H locs ls hY hP hD hS hl)) (fun q => absurd (q_ge.mpr hc) q)
    next => cases h
  | if_icmp op o =>
    dsimp only at h hk
    simp only [Bool.and_eq_true, decide_eq_true_eq] at hk
    obtain ⟨rfl, ht⟩ := hk
    split at h
    next y x r =>
      cases h
      have hc := hc.1
      intro Y H locs ls hY hP hD hS hl
      cases op <;> cases tk <;> dsimp only [q_cond, cond] at hc kk
      · exact lv_icmp_eq hx hb hd ht (fun q => absurd q hc) (fun _ => (kk Y H locs ls hY hP hD hS hl))
      · exact lv_icmp_eq hx hb hd ht (fun _ => (kk Y H locs ls hY hP hD hS hl)) (fun q => absurd hc q)
      · exact lv_icmp_ne hx hb hd ht (fun q => absurd hc q) (fun _ => (kk Y H locs ls hY hP hD hS hl))
      · exact lv_icmp_ne hx hb hd ht (fun _ => (kk Y H locs ls hY hP hD hS hl)) (fun q => absurd q hc)
      · exact lv_icmp_lt hx hb hd ht (fun q => absurd q hc) (fun _ => (kk Y H locs ls hY hP hD hS hl))
      · exact lv_icmp_lt hx hb hd ht (fun _ => (kk Y H locs ls hY hP hD hS hl)) (fun q => absurd hc q)
      · exact lv_icmp_ge hx hb hd ht (fun q => absurd hc (q_ge.mp q)) (fun _ => (kk Y H locs ls hY hP hD hS hl))
      · exact lv_icmp_ge hx hb hd ht (fun _ => (kk Y H locs ls hY hP hD hS hl)) (fun q => absurd (q_ge.mpr hc) q)
      · exact lv_icmp_gt hx hb hd ht (fun q => absurd q hc) (fun _ => (kk Y H locs ls hY hP hD hS hl))
      · exact lv_icmp_gt hx hb hd ht (fun _ => (kk Y H locs ls hY hP hD hS hl)) (fun q => absurd hc q)
      · exact lv_icmp_le hx hb hd ht (fun q => absurd hc (q_ge.mp q)) (fun _ => (kk Y H locs ls hY hP hD hS hl))
      · exact lv_icmp_le hx hb hd ht (fun _ => (kk Y H locs ls hY hP hD hS hl)) (fun q => absurd (q_ge.mpr hc) q)
    next => cases h
  | if_acmp op o =>
    dsimp only at h hk
    simp only [Bool.and_eq_true, decide_eq_true_eq] at hk
    obtain ⟨rfl, ht⟩ := hk
    split at h
    next y x r =>
      cases h
      have hc := hc.1
      intro Y H locs ls hY hP hD hS hl
      have hj : some (β x.toNat) = some (β y.toNat) ↔ x = y := ⟨fun q => UInt32.toNat_inj.mp (hE.2.2.2.1 _ _ (Option.some.inj q)), fun q => by rw [q]⟩
      cases tk <;> dsimp only [cond] at hc kk
      · exact lv_acmp_eq (rx := some (β x.toNat)) (ry := some (β y.toNat)) hx hb hd ht (fun q => absurd (hj.mp q) hc) (fun _ => kk Y H locs ls hY hP hD hS hl)
      · exact lv_acmp_eq (rx := some (β x.toNat)) (ry := some (β y.toNat)) hx hb hd ht (fun _ => kk Y H locs ls hY hP hD hS hl) (fun q => absurd (hj.mpr hc) q)
    next y x r =>
      cases h
      have hc := hc.1
      intro Y H locs ls hY hP hD hS hl
      have hj : some (β x.toNat) = some (β y.toNat) ↔ x = y := ⟨fun q => UInt32.toNat_inj.mp (hE.2.2.2.1 _ _ (Option.some.inj q)), fun q => by rw [q]⟩
      cases tk <;> dsimp only [cond] at hc kk
      · exact lv_acmp_ne (rx := some (β x.toNat)) (ry := some (β y.toNat)) hx hb hd ht (fun q => absurd (hj.mpr hc) q) (fun _ => kk Y H locs ls hY hP hD hS hl)
      · exact lv_acmp_ne (rx := some (β x.toNat)) (ry := some (β y.toNat)) hx hb hd ht (fun _ => kk Y H locs ls hY hP hD hS hl) (fun q => absurd (hj.mp q) hc)
    next => cases h
  | ifnull o =>
    dsimp only at h hk
    simp only [Bool.and_eq_true, decide_eq_true_eq] at hk
    obtain ⟨rfl, ht⟩ := hk
    split at h
    next r =>
      cases h
      intro Y H locs ls hY hP hD hS hl
      exact lv_ifnullN hx hb hd ht (kk Y H locs ls hY hP hD hS hl)
    next x r =>
      cases h
      intro Y H locs ls hY hP hD hS hl
      exact lv_ifnull hx hb hd (kk Y H locs ls hY hP hD hS hl)
    next => cases h
  | ifnonnull o =>
    dsimp only at h hk
    simp only [Bool.and_eq_true, decide_eq_true_eq] at hk
    obtain ⟨rfl, ht⟩ := hk
    split at h
    next r =>
      cases h
      intro Y H locs ls hY hP hD hS hl
      exact lv_ifnonnullN hx hb hd (kk Y H locs ls hY hP hD hS hl)
    next x r =>
      cases h
      intro Y H locs ls hY hP hD hS hl
      exact lv_ifnonnull hx hb hd ht (kk Y H locs ls hY hP hD hS hl)
    next => cases h
  | getfield i =>
    dsimp only at h hk
    obtain rfl : len = 3 := of_decide_eq_true hk
    split at h
    next k r =>
      split at h
      next a b hFi =>
        cases h
        obtain ⟨C, T, N, hC, hbN, hN, h4, h9, hin, hlk2⟩ := hF i a b hFi
        have hkd := hc.1
        intro Y H locs ls hY hP hD hS hl
        exact va_get hx hb hts hin hown hK hP k (q_at_o hkd h4 h9) hC b hbN (hts _ hlk2) (fun _ h9 => h9) (q_fs_at (hN ▸ hbN)) hd (kk Y H locs ls hY hP hD hS hl)
      next => cases h
    next => cases h
  | putfield i =>
    dsimp only at h hk
    obtain rfl : len = 3 := of_decide_eq_true hk
    split at h
    next v k r =>
      split at h
      next a b hFi =>
        split at h
        next cs2 x hun =>
          cases h
          obtain ⟨C, T, N, hC, hbN, hN, h4, h9, hin, hlk2⟩ := hF i a b hFi
          obtain ⟨hkd, hc2⟩ := hc
          obtain ⟨ty0, hty, hnm⟩ := q_ty_ok hC h4 h9
          obtain ⟨hv, hfin, ty, hpd, hn, hfit⟩ := q_un_ok (α := α) (β := β) (k := k) hun hc2 hC
          intro Y H locs ls hY hP hD hS hl
          refine va_put hx hb hts hin ty0 hty hnm hown hK hP hD hS k (q_at_o hkd h4 h9) hC b hbN (hts _ hlk2) (fun _ h9 => h9) hfin hpd hn hfit (by simpa using hN ▸ hbN) hd (fun H1 locs1 hP1 hD1 hS1 => ?_)
          rw [q_set_o hkd h4 h9 hv] at hP1 hD1
          exact kk Y H1 locs1 ls (hY.up (q_kd_out hkd (by omega) (by omega))) hP1 hD1 hS1 hl
        next => cases h
      next => cases h
    next => cases h
  | getstatic i =>
    dsimp only at h hk
    obtain rfl : len = 3 := of_decide_eq_true hk
    split at h
    next x hGi =>
      cases h
      obtain ⟨n, rfl, hn, hlk2⟩ := hG i x hGi
      intro Y H locs ls hY hP hD hS hl
      refine va_gets hx hb (q_stat hE hn) hS hown (hts _ hlk2) (fun _ h9 => h9) hd ?_
      have h1 := kk Y H locs ls hY hP hD hS hl
      have h2 : (q_e (nI n) :: st).map (q_cv α β) = .ref (β n) :: st.map (q_cv α β) := by
        show Value.ref (β (nI n).toUInt32.toNat) :: _ = _
        rw [q_nI_u n (by omega)]
      dsimp only at h1
      rw [h2] at h1
      exact h1
    next => cases h
  | iaload =>
    dsimp only at h hk
    obtain rfl : len = 1 := of_decide_eq_true hk
    split at h
    next i k r =>
      cases h
      intro Y H locs ls hY hP hD hS hl
      exact va_iald hx hb hK hP k 0 (q_at_i hc.1) rfl hc.2.1 hd (kk Y H locs ls hY hP hD hS hl)
    next => cases h
  | laload =>
    dsimp only at h hk
    obtain rfl : len = 1 := of_decide_eq_true hk
    split at h
    next i k r =>
      cases h
      intro Y H locs ls hY hP hD hS hl
      exact va_lald hx hb hK hP k 2 (q_at_l hc.1) rfl hc.2.1 hd (kk Y H locs ls hY hP hD hS hl)
    next => cases h
  | daload =>
    dsimp only at h hk
    obtain rfl : len = 1 := of_decide_eq_true hk
    split at h
    next i k r =>
      cases h
      intro Y H locs ls hY hP hD hS hl
      exact va_dald hx hb hK hP k 3 (q_at_d hc.1) rfl hc.2.1 hd (kk Y H locs ls hY hP hD hS hl)
    next => cases h
  | iastore =>
    dsimp only at h hk
    obtain rfl : len = 1 := of_decide_eq_true hk
    split at h
    next x i k r =>
      cases h
      intro Y H locs ls hY hP hD hS hl
      refine va_iast hx hb hK hP hD hS k 0 (q_at_i hc.1) rfl hc.2.1 hd (fun H1 locs1 hP1 hD1 hS1 => ?_)
      rw [q_set_i hc.1] at hP1 hD1
      exact kk Y H1 locs1 ls (hY.up (q_kd_out hc.1 (by omega) (by omega))) hP1 hD1 hS1 hl
    next => cases h
  | aaload =>
    dsimp only at h hk
    obtain rfl : len = 1 := of_decide_eq_true hk
    split at h
    next i k r =>
      cases hq : Nat.beq tg 30 with
      | true =>
        rw [hq] at h
        cases h
        intro Y H locs ls hY hP hD hS hl
        exact va_aldq hx hb hK hP k 4 (q_at_t hc.1) rfl hc.2.1 hd (kk Y H locs ls hY hP hD hS hl)
      | false =>
        rw [hq] at h
        cases h
        intro Y H locs ls hY hP hD hS hl
        exact va_aldq hx hb hK hP k 5 (q_at_r hc.1) rfl hc.2.1 hd (kk Y H locs ls hY hP hD hS hl)
    next => cases h
  | arraylength =>
    dsimp only at h hk
    obtain rfl : len = 1 := of_decide_eq_true hk
    split at h
    next k r =>
      cases hq : Nat.beq tg 30 with
      | true =>
        rw [hq] at h
        cases h
        intro Y H locs ls hY hP hD hS hl
        exact va_alen hx hb hK hP k 4 (q_at_t hc.1) rfl (v := 6) rfl hd (kk Y H locs ls hY hP hD hS hl)
      | false =>
        rw [hq] at h
        cases hq2 : Nat.beq tg 31 with
        | true =>
          rw [hq2] at h
          cases h
          intro Y H locs ls hY hP hD hS hl
          exact va_alen hx hb hK hP k 5 (q_at_r hc.1) rfl (v := 8) rfl hd (kk Y H locs ls hY hP hD hS hl)
        | false =>
          rw [hq2] at h
          cases h
          intro Y H locs ls hY hP hD hS hl
          exact va_alen hx hb hK hP k 0 (q_at_i hc.1) rfl (v := nI (q_len k)) rfl hd (kk Y H locs ls hY hP hD hS hl)
    next => cases h
  | _ => cases h
theorem q_b_ok (C : q_Cx α β D κ p s m args meth c cc own F G nL A) : ∀ (t : List q_E) (fl : List Bool) (pc : Nat) (S : q_S) (cs : List Prop) (pc1 : Nat) (S1 : q_S), (∀ z ∈ t, decode cc z.1 = .ok (z.2.1, z.2.2.1) ∧ q_ck nL z = true) → q_b F G t fl pc S = some (cs, pc1, S1) → q_all cs → q_St α β D κ p l e R s m args below meth c nL A Q n1 n2 S1.2.2 S1.1 pc1 S1.2.1 → q_St α β D κ p l e R s m args below meth c nL A Q n1 n2 S.2.2 S.1 pc S.2.1 := by
  intro t
  induction t with
  | nil =>
    intro fl pc S cs pc1 S1 _ h _ kk
    cases h
    exact kk
  | cons z t ih =>
    intro fl pc S cs pc1 S1 ht h hc kk
    unfold q_b at h
    cases hq : Nat.beq z.1 pc with
    | false =>
      rw [hq] at h
      cases h
    | true =>
      rw [hq] at h
      dsimp only [cond] at h
      have e := Nat.eq_of_beq_eq_true hq
      subst e
      split at h
      next cs1 pc2 S2 h1 =>
        split at h
        next cs2 r h2 =>
          cases h
          obtain ⟨c1, c2⟩ := q_all_app hc
          have h3 := ih _ _ _ _ _ _ (fun z hz => ht z (List.mem_cons_of_mem _ hz)) h2 c2 kk
          obtain ⟨g1, g2⟩ := ht z List.mem_cons_self
          exact q_1_ok C g1 g2 h1 c1 h3
        next => cases h
      next => cases h
/-- a stretch of a method, at once -/
theorem q_go (C : q_Cx α β D κ p s m args meth c cc own F G nL A) {tb : List q_E} (ht : q_tb cc nL tb = true) (rs : List (Nat × Nat)) (fl : List Bool) {pc : Nat} {σ : q_M} {lv : q_Lv} {st : List Value} {cs : List Prop} {pc1 : Nat} {σ1 : q_M} {lv1 : q_Lv} {st1 : List Value} (h : q_b F G (q_run tb rs) fl pc (lv, st, σ) = some (cs, pc1, lv1, st1, σ1)) (hc : q_all cs) (kk : q_St α β D κ p l e R s m args below meth c nL A Q n1 n2 σ1 lv1 pc1 st1) : q_St α β D κ p l e R s m args below meth c nL A Q n1 n2 σ lv pc st :=
  q_b_ok C _ fl pc (lv, st, σ) cs pc1 (lv1, st1, σ1) (fun z hz => q_tb_at ht (q_run_in hz)) h hc kk
end q08
end
section
/-! Contracts: a method, called with these values in this memory, ends so and leaves that memory. -/
abbrev q_O : Type := Option Value ⊕ String
abbrev q_oi (x : Int32) : q_O := .inl (some (.int x))
abbrev q_ov : q_O := .inl none
abbrev q_or (k : Nat) : q_O := .inl (some (.ref k))
abbrev q_on : q_O := .inl (some .null)
abbrev q_oe (x : Int32) : q_O := .inl (some (q_e x))
abbrev q_ox (E : String) : q_O := .inr E
def q_A (α : Nat → Nat) (Y : q_H) (sz : Nat) : Nat → Prop := fun q => (∃ k, k < 239 ∧ q_ad α Y k = q) ∨ sz ≤ q
/-- the memory σ stands in the state t -/
def q_WP (α β : Nat → Nat) (D : va_G) (κ : Nat → ClassId) (A : Nat → Prop) (σ : q_M) (t : State) : Prop := ∃ Y, q_Yok σ Y ∧ va_P D vwCl (q_ws α β κ Y σ) t.heap ∧ va_D A (q_ws α β κ Y σ)
def q_Qc (α β : Nat → Nat) (D : va_G) (κ : Nat → ClassId) (A : Nat → Prop) (o : q_O) (σ : q_M) : Array Value → State → Outcome → State → Prop := fun _ st oc t => (∃ v : Option Value, o = .inl v ∧ oc = .returned (v.map (q_cv α β))) ∧ q_WP α β D κ A σ t ∧ va_F A st t
def q_XC (α β : Nat → Nat) (D : va_G) (κ : Nat → ClassId) (A : Nat → Prop) (o : q_O) (σ : q_M) : String → State → State → Prop := fun E st t => o = .inr E ∧ q_WP α β D κ A σ t ∧ va_F A st t
def q_Pc (α β : Nat → Nat) (D : va_G) (κ : Nat → ClassId) (vs : List Value) (σ : q_M) (Y : q_H) (sz : Nat) : Array Value → State → Prop := va_Pc (vs.map (q_cv α β)) (fun U => U.heap.size = sz ∧ q_Yok σ Y ∧ va_P D vwCl (q_ws α β κ Y σ) U.heap ∧ va_D (q_A α Y sz) (q_ws α β κ Y σ) ∧ va_K D vwCl (q_tys κ) U ∧ q_EF α β (q_A α Y sz) U U.heap)
/-- THE CONTRACT -/
def q_C (α β : Nat → Nat) (D : va_G) (κ : Nat → ClassId) (y : MethodName) (cc : ByteArray) (maxL : Nat) (ret : Option FieldType) (fr lo mc ms : Nat) (vs : List Value) (σ : q_M) (o : q_O) (σ' : q_M) : Prop :=
  ∀ l : Launch, l.flags = flags0 → ∀ (Y : q_H) (sz : Nat), vx_Met l y (Cond.code y cc maxL ret :: q_W) ({ frames := fr, cells := mc, slots := ms, locals := lo } : Room) (q_Pc α β D κ vs σ Y sz) (q_Qc α β D κ (q_A α Y sz) o σ') (q_XC α β D κ (q_A α Y sz) o σ') mc ms (q_A α Y sz)
theorem q_args_map (α β : Nat → Nat) : ∀ (vs : List Value) (i : Nat), lv_args i (vs.map (q_cv α β)) = q_lm α β (lv_args i vs) := by
  intro vs
  induction vs with
  | nil => intro i; rfl
  | cons v vs ih =>
    intro i
    show (i, q_cv α β v) :: lv_args (if (q_cv α β v).category = 2 then i + 2 else i + 1) (vs.map (q_cv α β)) = _
    rw [q_cat, ih]
    rfl
theorem q_nt {l : Launch} (h : l.flags = flags0) : l.stackTraces = false := by
  unfold Launch.stackTraces
  rw [h]
  decide +kernel
section q09
variable {α β : Nat → Nat} {D : va_G} {κ : Nat → ClassId} {p : Program} {l : Launch} {e : Env} {R : Room} {s : State} {m : MethodId} {args : Array Value} {below : List Frame} {meth : Method} {c : Code} {cc : ByteArray} {own : String} {F : Nat → Option (Nat × Nat)} {G : Nat → Option Int32} {nL : Nat} {A : Nat → Prop} {Q : State → Prop} {n1 n2 : Nat}
variable {y : MethodName} {ret : Option FieldType} {fr lo mc ms : Nat} {vs : List Value} {σ σ' : q_M} {o : q_O}
/-- a contract out of a walk from the entry -/
theorem q_enter (hy : plainName y.cls = true) (ho : y.cls = own) (hF : q_Fok own F) (hG : q_Gok own G) (hlen : (lg_sl (vs.map (q_cv α β))).length ≤ nL)
    (body : ∀ (p : Program) (l : Launch) (e : Env) (s : State) (m : MethodId) (args : Array Value) (below : List Frame) (meth : Method) (c : Code) (A : Nat → Prop), l.flags = flags0 → q_Cx α β D κ p s m args meth c cc own F G nL A → meth.sig.returnType = ret → (∀ x ∈ c.exceptionTable.toList, False) →
      q_St α β D κ p l e ({ frames := fr, cells := mc, slots := ms, locals := lo } : Room) s m args below meth c nL A (vx_MQ below (q_Qc α β D κ A o σ') (q_XC α β D κ A o σ') args s mc ms A) 0 0 σ (lv_args 0 vs) 0 []) :
    q_C α β D κ y cc nL ret fr lo mc ms vs σ o σ' := by
  intro l hfl Y sz
  refine vx_ofW (cc := cc) (maxL := nL) (ret := ret) hy rfl ?_
  intro p e s m args below meth c s₁ B hml hT hv
  obtain ⟨rfl, hsz, hY, hP, hD, hK, hE⟩ := hv
  subst hsz
  have hts := atoms_spec (ws := Cond.code y cc nL ret :: q_W) B.pre
  have hown : s.vm.findClass own = some m.cls := ho ▸ findClass_of_methodNamed B.named
  have hl := lv_entry (vs.map (q_cv α β)) (n := nL) hlen
  rw [lg_entry_eq]
  generalize (lg_sl (vs.map (q_cv α β)) ++ List.replicate (nL - (lg_sl (vs.map (q_cv α β))).length) Slot.unset).toArray = ls at hl ⊢
  rw [q_args_map] at hl
  exact body p l e s m _ below meth c (q_A α Y s.heap.size) hfl ⟨B.exec, B.bytes, hml, hown, fun w h => hts w (List.mem_cons_of_mem _ h), hK, hE, fun q h => Or.inr h, B.notSynchronized, hF, hG⟩ B.returns hT Y s.heap [] ls hY hP hD va_S.rf hl
theorem q_iret (C : q_Cx α β D κ p s m args meth c cc own F G nL A) (hr : meth.sig.returnType = some .int) {pc : Nat} {lv : q_Lv} {σ1 : q_M} {v : Int32} (hd : decode cc pc = .ok (.ireturn, 1)) (hσ : σ1 = σ') (ho : o = q_oi v) (hc : n1 ≤ mc) (hs : n2 ≤ ms) : q_St α β D κ p l e R s m args below meth c nL A (vx_MQ below (q_Qc α β D κ A o σ') (q_XC α β D κ A o σ') args s mc ms A) n1 n2 σ1 lv pc [.int v] := by
  subst hσ
  obtain ⟨hx, hb, hml, hown, hts, hK, hE, hA, hlk, hF, hG⟩ := C
  intro Y H locs ls hY hP hD hS hl
  refine vx_ret (W.widen hc hs ?_)
  exact W.iret (v := v) hx hb hr (fun t ht hW => ⟨⟨some (.int v), ho, rfl⟩, ⟨Y, hY, by rw [ht]; exact hP, hD⟩, hS.F ht⟩) hS.2.2 hd hlk
theorem q_zret (C : q_Cx α β D κ p s m args meth c cc own F G nL A) {ty : FieldType} (hr : meth.sig.returnType = some ty) {pc : Nat} {lv : q_Lv} {σ1 : q_M} {v : Int32} (hd : decode cc pc = .ok (.ireturn, 1)) (hn : narrow ty (.int v) = .int v) (hσ : σ1 = σ') (ho : o = q_oi v) (hc : n1 ≤ mc) (hs : n2 ≤ ms) : q_St α β D κ p l e R s m args below meth c nL A (vx_MQ below (q_Qc α β D κ A o σ') (q_XC α β D κ A o σ') args s mc ms A) n1 n2 σ1 lv pc [.int v] := by
  subst hσ
  obtain ⟨hx, hb, hml, hown, hts, hK, hE, hA, hlk, hF, hG⟩ := C
  intro Y H locs ls hY hP hD hS hl
  refine vx_ret (W.widen hc hs ?_)
  exact W.zret (v := v) hx hb hr hn (fun t ht hW => ⟨⟨some (.int v), ho, rfl⟩, ⟨Y, hY, by rw [ht]; exact hP, hD⟩, hS.F ht⟩) hS.2.2 hd hlk
theorem q_vret (C : q_Cx α β D κ p s m args meth c cc own F G nL A) (hr : meth.sig.returnType = none) {pc : Nat} {lv : q_Lv} {σ1 : q_M} (hd : decode cc pc = .ok (.return_, 1)) (hσ : σ1 = σ') (ho : o = q_ov) (hc : n1 ≤ mc) (hs : n2 ≤ ms) : q_St α β D κ p l e R s m args below meth c nL A (vx_MQ below (q_Qc α β D κ A o σ') (q_XC α β D κ A o σ') args s mc ms A) n1 n2 σ1 lv pc [] := by
  subst hσ
  obtain ⟨hx, hb, hml, hown, hts, hK, hE, hA, hlk, hF, hG⟩ := C
  intro Y H locs ls hY hP hD hS hl
  refine vx_ret (W.widen hc hs ?_)
  exact W.vret hx hb hr (fun t ht hW => ⟨⟨none, ho, rfl⟩, ⟨Y, hY, by rw [ht]; exact hP, hD⟩, hS.F ht⟩) hS.2.2 hd hlk
theorem q_dret (C : q_Cx α β D κ p s m args meth c cc own F G nL A) (hr : meth.sig.returnType = some .double) {pc : Nat} {lv : q_Lv} {σ1 : q_M} {v : UInt64} (hd : decode cc pc = .ok (.dreturn, 1)) (hσ : σ1 = σ') (ho : o = .inl (some (.double v))) (hc : n1 ≤ mc) (hs : n2 ≤ ms) : q_St α β D κ p l e R s m args below meth c nL A (vx_MQ below (q_Qc α β D κ A o σ') (q_XC α β D κ A o σ') args s mc ms A) n1 n2 σ1 lv pc [.double v] := by
  subst hσ
  obtain ⟨hx, hb, hml, hown, hts, hK, hE, hA, hlk, hF, hG⟩ := C
  intro Y H locs ls hY hP hD hS hl
  refine vx_ret (W.widen hc hs ?_)
  exact W.dret (v := v) hx hb hr (fun t ht hW => ⟨⟨some (.double v), ho, rfl⟩, ⟨Y, hY, by rw [ht]; exact hP, hD⟩, hS.F ht⟩) hS.2.2 hd hlk
theorem q_aret (C : q_Cx α β D κ p s m args meth c cc own F G nL A) {n : String} (hr : meth.sig.returnType = some (.object n)) {pc : Nat} {lv : q_Lv} {σ1 : q_M} {v : Value} (hd : decode cc pc = .ok (.areturn, 1)) (hv : q_cv α β v = .null ∨ ∃ a, q_cv α β v = .ref a) (hσ : σ1 = σ') (ho : o = .inl (some v)) (hc : n1 ≤ mc) (hs : n2 ≤ ms) : q_St α β D κ p l e R s m args below meth c nL A (vx_MQ below (q_Qc α β D κ A o σ') (q_XC α β D κ A o σ') args s mc ms A) n1 n2 σ1 lv pc [v] := by
  subst hσ
  obtain ⟨hx, hb, hml, hown, hts, hK, hE, hA, hlk, hF, hG⟩ := C
  intro Y H locs ls hY hP hD hS hl
  refine vx_ret (W.widen hc hs ?_)
  exact W.aret (v := q_cv α β v) hx hb hr (Or.inl ⟨n, rfl⟩) hv (fun t ht hW => ⟨⟨some v, ho, rfl⟩, ⟨Y, hY, by rw [ht]; exact hP, hD⟩, hS.F ht⟩) hS.2.2 hd hlk
theorem q_dc {nL : Nat} {tb : List q_E} (h : q_tb cc nL tb = true) (i : Nat) {z : q_E} (hz : tb[i]? = some z) : decode cc z.1 = .ok (z.2.1, z.2.2.1) := (q_tb_at h (List.mem_of_getElem? hz)).1
theorem q_rref {k : Nat} : q_cv α β (.ref k) = .null ∨ ∃ a, q_cv α β (.ref k) = .ref a := Or.inr ⟨_, rfl⟩
theorem q_renm {x : Int32} : q_cv α β (q_e x) = .null ∨ ∃ a, q_cv α β (q_e x) = .ref a := Or.inr ⟨_, rfl⟩
theorem q_rnul : q_cv α β .null = .null ∨ ∃ a, q_cv α β .null = .ref a := Or.inl rfl
end q09
end
section
/-! Calls: by contract. -/
/-- the method's frame with an E thrown over it -/
def q_Sx (α β : Nat → Nat) (D : va_G) (κ : Nat → ClassId) (p : Program) (l : Launch) (e : Env) (R : Room) (s : State) (m : MethodId) (args : Array Value) (below : List Frame) (meth : Method) (c : Code) (nL : Nat) (A : Nat → Prop) (Q : State → Prop) (n1 n2 : Nat) (σ : q_M) (lv : q_Lv) (pc : Nat) (st : List Value) (E : String) : Prop :=
  ∀ (Y : q_H) (H : Heap) (locs : List Loc) (ls : Array Slot) (q : Addr) (ce : Cell), q_Yok σ Y → va_P D vwCl (q_ws α β κ Y σ) H → va_D A (q_ws α β κ Y σ) → va_S A s.heap H locs → lv_has ls nL (q_lm α β lv) → H[q]? = some ce → ce.vm = .none → s.vm.findClass E = some ce.cls →
    vx_W p l e R s m args below meth c H locs n1 n2 Q (F0 m pc ls (st.map (q_cv α β))) q
def q_mw (y : MethodName) (cc : ByteArray) (maxL : Nat) (ret : Option FieldType) (n : Nat) : Prop := Cond.code y cc maxL ret ∈ q_W ∧ (y.cls ≠ "java/lang/invoke/MethodHandle" ∧ y.cls ≠ "java/lang/invoke/VarHandle") ∧ (parseMethodDescriptor y.desc).map (fun d => d.parameters.length) = some n ∧ Cond.initialized y.cls ∈ q_W
theorem q_GI {w : Cond} (h : w ∈ q_W) : GoodIn q_W (w :: q_W) := by
  intro z hz
  have hz' : z ∈ q_W := by
    rcases List.mem_cons.mp hz with rfl | h2
    · exact h
    · exact h2
  exact ⟨hz', good_of_word (List.mem_filter.mp hz').2⟩
theorem q_FB {α β : Nat → Nat} {D : va_G} {κ : Nat → ClassId} {vs : List Value} {σ : q_M} {Y : q_H} {sz : Nat} : FrameBlind (q_Pc α β D κ vs σ Y sz) := by
  intro a U g mk h
  obtain ⟨h0, h1, h2, h3, h4, h5, h6⟩ := h
  exact ⟨h0, h1, h2, h3, h4, va_K.moved (u := U) (U := U.calling g mk a) (Vm.Alike.refl U.vm) h5, q_EF.mv (u := U) (U := U.calling g mk a) (State.WarmedH.refl U) h6⟩
section q10
variable {α β : Nat → Nat} {D : va_G} {κ : Nat → ClassId} {p : Program} {l : Launch} {e : Env} {R : Room} {s : State} {m : MethodId} {args : Array Value} {below : List Frame} {meth : Method} {c : Code} {cc : ByteArray} {own : String} {F : Nat → Option (Nat × Nat)} {G : Nat → Option Int32} {nL : Nat} {A : Nat → Prop} {Q : State → Prop} {n1 n2 : Nat}
theorem q_A_sub {Y : q_H} {σ : q_M} {H : Heap} {locs : List Loc} (hA : ∀ q : Nat, s.heap.size ≤ q → A q) (hD : va_D A (q_ws α β κ Y σ)) (hS : va_S A s.heap H locs) : ∀ q, q_A α Y H.size q → A q := by
  rintro q (⟨k, hk, rfl⟩ | h)
  · exact hD.2 k _ (q_ws_at hk)
  · exact hA q (Nat.le_trans hS.1 h)
theorem q_D_self {Y : q_H} {σ : q_M} {sz : Nat} (hD : va_D A (q_ws α β κ Y σ)) : va_D (q_A α Y sz) (q_ws α β κ Y σ) := by
  refine ⟨hD.1, fun k q h => Or.inl ?_⟩
  have hk : k < 239 := by
    have := (List.getElem?_eq_some_iff.mp h).1
    simpa [q_ws] using this
  rw [q_ws_at hk] at h
  cases h
  exact ⟨k, hk, rfl⟩
/-- what a callee asks of the state in which it is called -/
theorem q_pre (C : q_Cx α β D κ p s m args meth c cc own F G nL A) {vs : List Value} {Y : q_H} {σ : q_M} {H : Heap} {locs : List Loc} (hY : q_Yok σ Y) (hP : va_P D vwCl (q_ws α β κ Y σ) H) (hD : va_D A (q_ws α β κ Y σ)) (hS : va_S A s.heap H locs) : ∀ U : State, U.heap = H → s.WarmedH U.vm → q_Pc α β D κ vs σ Y H.size (vs.map (q_cv α β)).toArray U := by
  obtain ⟨hx, hb, hml, hown, hts, hK, hE, hA, hlk, hF, hG⟩ := C
  intro U hU hW
  refine ⟨rfl, by rw [hU], hY, by rw [hU]; exact hP, q_D_self hD, va_K.moved hW.alike hK, ?_⟩
  rw [hU]
  exact (hE.mv hW |>.kp hS.2.1).nr (q_A_sub hA hD hS)
theorem q_run_ret (C : q_Cx α β D κ p s m args meth c cc own F G nL A) {Y : q_H} {σ σ1 : q_M} {H : Heap} {locs : List Loc} {mc ms pc : Nat} {ls : Array Slot} {st0 rest : List Value} {a : Array Value} {o : q_O} {v : Option Value} (hD : va_D A (q_ws α β κ Y σ)) (hS : va_S A s.heap H locs)
    (hr : vx_Run p l e R s m args below meth c H locs n1 n2 mc ms (F0 m pc ls st0) rest (q_Qc α β D κ (q_A α Y H.size) o σ1 a) (q_XC α β D κ (q_A α Y H.size) o σ1) (q_A α Y H.size)) (ho : o = .inl v)
    (kk : ∀ (Y' : q_H) (H1 : Heap) (locs1 : List Loc), q_Yok σ1 Y' → va_P D vwCl (q_ws α β κ Y' σ1) H1 → va_D A (q_ws α β κ Y' σ1) → va_S A s.heap H1 locs1 → W p l e R s m args below meth c H1 locs1 (n1 + mc) (n2 + ms) Q (F0 m (pc + 3) ls ((v.map (q_cv α β)).toList ++ rest))) : W p l e R s m args below meth c H locs n1 n2 Q (F0 m pc ls st0) := by
  have hsub := q_A_sub C.2.2.2.2.2.2.2.1 hD hS
  subst ho
  intro T hT X
  rcases hr T hT X with ⟨v9, st₀, t, T', L, h0, X', hL, e1, e2, ⟨⟨v2, hv2, hv3⟩, ⟨Y', hY', hP', hD'⟩, hFr⟩, st⟩ | ⟨q, st₀, t, T', L, E, ce, h0, X', hL, e1, e2, ⟨hE, -, -⟩, hce, hcv, hcl, st⟩
  · cases hv2
    cases hv3
    obtain ⟨k1, k2, k3⟩ := vx_keep h0 e1 hS (fun q _ h => hsub q h) hsub hL hFr
    obtain ⟨t2, a1, b1⟩ := kk Y' T'.heap (locs ++ L) hY' (by rw [e1]; exact hP') (hD'.weaken (fun _ _ _ h => hsub _ h)) k3 T' rfl X'
    exact ⟨t2, st t2 a1, b1⟩
  · cases hE
theorem q_run_thr (C : q_Cx α β D κ p s m args meth c cc own F G nL A) {Y : q_H} {σ σ1 : q_M} {H : Heap} {locs : List Loc} {mc ms pc : Nat} {ls : Array Slot} {st0 rest : List Value} {a : Array Value} {o : q_O} {E : String} (hD : va_D A (q_ws α β κ Y σ)) (hS : va_S A s.heap H locs)
    (hr : vx_Run p l e R s m args below meth c H locs n1 n2 mc ms (F0 m pc ls st0) rest (q_Qc α β D κ (q_A α Y H.size) o σ1 a) (q_XC α β D κ (q_A α Y H.size) o σ1) (q_A α Y H.size)) (ho : o = .inr E)
    (kk : ∀ (Y' : q_H) (H1 : Heap) (locs1 : List Loc) (q : Addr) (ce : Cell), q_Yok σ1 Y' → va_P D vwCl (q_ws α β κ Y' σ1) H1 → va_D A (q_ws α β κ Y' σ1) → va_S A s.heap H1 locs1 → H1[q]? = some ce → ce.vm = .none → s.vm.findClass E = some ce.cls → vx_W p l e R s m args below meth c H1 locs1 (n1 + mc) (n2 + ms) Q (F0 m pc ls rest) q) : W p l e R s m args below meth c H locs n1 n2 Q (F0 m pc ls st0) := by
  have hsub := q_A_sub C.2.2.2.2.2.2.2.1 hD hS
  subst ho
  intro T hT X
  rcases hr T hT X with ⟨v9, st₀, t, T', L, h0, X', hL, e1, e2, ⟨⟨v2, hv2, hv3⟩, -, -⟩, st⟩ | ⟨q, st₀, t, T', L, E', ce, h0, X', hL, e1, e2, ⟨hE, ⟨Y', hY', hP', hD'⟩, hFr⟩, hce, hcv, hcl, st⟩
  · cases hv2
  · cases hE
    obtain ⟨k1, k2, k3⟩ := vx_keep h0 e1 hS (fun q _ h => hsub q h) hsub hL hFr
    obtain ⟨t2, a1, b1⟩ := kk Y' T'.heap (locs ++ L) q ce hY' (by rw [e1]; exact hP') (hD'.weaken (fun _ _ _ h => hsub _ h)) k3 (by rw [e1]; exact hce) hcv hcl T' rfl X'
    exact ⟨t2, st.trans a1, b1⟩
variable {y : MethodName} {cc' : ByteArray} {maxL' : Nat} {ret' : Option FieldType} {fr' lo' mc' ms' n idx : Nat} {As rest st : List Value} {σ σ1 : q_M} {o : q_O} {lv : q_Lv} {pc : Nat}
theorem q_map_rev (α β : Nat → Nat) (As : List Value) (x : List Value) : (As.reverse ++ x).map (q_cv α β) = (As.map (q_cv α β)).reverse ++ x.map (q_cv α β) := by simp
theorem q_sum_cat {α β : Nat → Nat} {rest : List Value} {n : Nat} (h : (rest.map fun v => v.category).sum ≤ n) : ((rest.map (q_cv α β)).map fun v => v.category).sum ≤ n := by
  have e : (rest.map (q_cv α β)).map (fun v => v.category) = rest.map (fun v => v.category) := by
    rw [List.map_map]
    exact List.map_congr_left (fun v _ => q_cat α β v)
  rw [e]
  exact h
theorem q_runV (C : q_Cx α β D κ p s m args meth c cc own F G nL A) (hfl : l.flags = flags0) (hm : q_mw y cc' maxL' ret' n) (hi : Cond.instanceMethod y ∈ q_W) (hsel : Cond.selects y.cls y y ∈ q_W) (hlnk : Cond.methodLink own idx y ∈ q_W) {k a : Nat} (hc : q_C α β D κ y cc' maxL' ret' fr' lo' mc' ms' (.ref k :: As) σ o σ1) (hk : q_kd k = a) (ha : (vwCl[a]?).map (·.1) = some y.cls) (h4 : 4 ≤ a) (h9 : a ≤ 9) (hn : As.length = n) (hd : decode cc pc = .ok (.invokevirtual idx, 3)) (hrest : (rest.map fun v => v.category).sum ≤ 8) (hR : fr' + 1 ≤ R.frames ∧ 8 + (maxL' + 11) + lo' ≤ R.locals) (hcs : n1 + mc' ≤ R.cells ∧ n2 + ms' ≤ R.slots)
    {Y : q_H} {H : Heap} {locs : List Loc} {ls : Array Slot} (hY : q_Yok σ Y) (hP : va_P D vwCl (q_ws α β κ Y σ) H) (hD : va_D A (q_ws α β κ Y σ)) (hS : va_S A s.heap H locs) (hl : lv_has ls nL (q_lm α β lv)) :
    vx_Run p l e R s m args below meth c H locs n1 n2 mc' ms' (F0 m pc ls ((As.map (q_cv α β)).reverse ++ .ref (α k) :: rest.map (q_cv α β))) (rest.map (q_cv α β)) (q_Qc α β D κ (q_A α Y H.size) o σ1 (Value.ref (α k) :: As.map (q_cv α β)).toArray) (q_XC α β D κ (q_A α Y H.size) o σ1) (q_A α Y H.size) := by
  have C0 := C
  obtain ⟨hx, hb, hml, hown, hts, hK, hE, hA, hlk, hF, hG⟩ := C
  obtain ⟨hm1, hm2, hm3, hm4⟩ := hm
  have hG2 : GoodIn q_W (wsV own idx y.cls y (Cond.code y cc' maxL' ret' :: q_W)) := by
    have g := q_GI hm1
    intro w hw
    unfold wsV at hw
    rcases List.mem_append.mp hw with h | h
    · have hw' : w ∈ q_W := by
        simp only [List.mem_cons, List.not_mem_nil, or_false] at h
        rcases h with rfl | rfl | rfl | rfl
        · exact hlnk
        · exact hi
        · exact hsel
        · exact hm4
      exact ⟨hw', good_of_word (List.mem_filter.mp hw').2⟩
    · exact g w h
  cases hv : vwCl[a]? with
  | none => rw [hv] at ha; cases ha
  | some r =>
    rw [hv] at ha
    have hr1 : r.1 = y.cls := Option.some.inj ha
    have hrecv := va_recv hK hP hv (q_at_o (α := α) (β := β) (κ := κ) (Y := Y) (σ := σ) hk h4 h9)
    rw [hr1] at hrecv
    exact vx_runV (n := n) ⟨hx, hb, hml, hown, hts⟩ (hc l hfl Y H.size) (cwV n hts hG2 rfl rfl rfl ⟨rfl, hm2.1, hm2.2, hm3⟩ hR) ⟨q_FB, hrecv, q_pre C0 hY hP hD hS⟩ rfl (by rw [List.length_map]; exact hn) hl.1 rfl (lv_room (q_sum_cat hrest)) hd hcs
theorem q_callV (C : q_Cx α β D κ p s m args meth c cc own F G nL A) (hfl : l.flags = flags0) (hm : q_mw y cc' maxL' ret' n) (hi : Cond.instanceMethod y ∈ q_W) (hsel : Cond.selects y.cls y y ∈ q_W) (hlnk : Cond.methodLink own idx y ∈ q_W) {k a : Nat} {v : Option Value} (hc : q_C α β D κ y cc' maxL' ret' fr' lo' mc' ms' (.ref k :: As) σ (.inl v) σ1) (hst : st = As.reverse ++ .ref k :: rest) (hk : q_kd k = a) (ha : (vwCl[a]?).map (·.1) = some y.cls) (h4 : 4 ≤ a) (h9 : a ≤ 9) (hn : As.length = n) (hd : decode cc pc = .ok (.invokevirtual idx, 3)) (hrest : (rest.map fun v => v.category).sum ≤ 8) (hR : fr' + 1 ≤ R.frames ∧ 8 + (maxL' + 11) + lo' ≤ R.locals) (hcs : n1 + mc' ≤ R.cells ∧ n2 + ms' ≤ R.slots)
    (kk : q_St α β D κ p l e R s m args below meth c nL A Q (n1 + mc') (n2 + ms') σ1 lv (pc + 3) (v.toList ++ rest)) : q_St α β D κ p l e R s m args below meth c nL A Q (n1) (n2) σ lv pc st := by
  subst hst
  intro Y H locs ls hY hP hD hS hl
  rw [q_map_rev]
  refine q_run_ret C hD hS (q_runV C hfl hm hi hsel hlnk hc hk ha h4 h9 hn hd hrest hR hcs hY hP hD hS hl) rfl (fun Y' H1 locs1 hY1 hP1 hD1 hS1 => ?_)
  have h := kk Y' H1 locs1 ls hY1 hP1 hD1 hS1 hl
  cases v <;> exact h
theorem q_callVx (C : q_Cx α β D κ p s m args meth c cc own F G nL A) (hfl : l.flags = flags0) (hm : q_mw y cc' maxL' ret' n) (hi : Cond.instanceMethod y ∈ q_W) (hsel : Cond.selects y.cls y y ∈ q_W) (hlnk : Cond.methodLink own idx y ∈ q_W) {k a : Nat} {E : String} (hc : q_C α β D κ y cc' maxL' ret' fr' lo' mc' ms' (.ref k :: As) σ (.inr E) σ1) (hst : st = As.reverse ++ .ref k :: rest) (hk : q_kd k = a) (ha : (vwCl[a]?).map (·.1) = some y.cls) (h4 : 4 ≤ a) (h9 : a ≤ 9) (hn : As.length = n) (hd : decode cc pc = .ok (.invokevirtual idx, 3)) (hrest : (rest.map fun v => v.category).sum ≤ 8) (hR : fr' + 1 ≤ R.frames ∧ 8 + (maxL' + 11) + lo' ≤ R.locals) (hcs : n1 + mc' ≤ R.cells ∧ n2 + ms' ≤ R.slots)
    (kk : q_Sx α β D κ p l e R s m args below meth c nL A Q (n1 + mc') (n2 + ms') σ1 lv pc rest E) : q_St α β D κ p l e R s m args below meth c nL A Q (n1) (n2) σ lv pc st := by
  subst hst
  intro Y H locs ls hY hP hD hS hl
  rw [q_map_rev]
  exact q_run_thr C hD hS (q_runV C hfl hm hi hsel hlnk hc hk ha h4 h9 hn hd hrest hR hcs hY hP hD hS hl) rfl (fun Y' H1 locs1 q ce hY1 hP1 hD1 hS1 h1 h2 h3 => kk Y' H1 locs1 ls q ce hY1 hP1 hD1 hS1 hl h1 h2 h3)
theorem q_runS (C : q_Cx α β D κ p s m args meth c cc own F G nL A) (hfl : l.flags = flags0) (hm : q_mw y cc' maxL' ret' n) (hi : Cond.static y ∈ q_W) (hlnk : Cond.methodLink own idx y ∈ q_W) (hc : q_C α β D κ y cc' maxL' ret' fr' lo' mc' ms' As σ o σ1) (hn : As.length = n) (hd : decode cc pc = .ok (.invokestatic idx, 3)) (hrest : (rest.map fun v => v.category).sum ≤ 8) (hR : fr' + 1 ≤ R.frames ∧ 8 + (maxL' + 11) + lo' ≤ R.locals) (hcs : n1 + mc' ≤ R.cells ∧ n2 + ms' ≤ R.slots)
    {Y : q_H} {H : Heap} {locs : List Loc} {ls : Array Slot} (hY : q_Yok σ Y) (hP : va_P D vwCl (q_ws α β κ Y σ) H) (hD : va_D A (q_ws α β κ Y σ)) (hS : va_S A s.heap H locs) (hl : lv_has ls nL (q_lm α β lv)) :
    vx_Run p l e R s m args below meth c H locs n1 n2 mc' ms' (F0 m pc ls ((As.map (q_cv α β)).reverse ++ rest.map (q_cv α β))) (rest.map (q_cv α β)) (q_Qc α β D κ (q_A α Y H.size) o σ1 (As.map (q_cv α β)).toArray) (q_XC α β D κ (q_A α Y H.size) o σ1) (q_A α Y H.size) := by
  have C0 := C
  obtain ⟨hx, hb, hml, hown, hts, hK, hE, hA, hlk, hF, hG⟩ := C
  obtain ⟨hm1, hm2, hm3, hm4⟩ := hm
  have hG2 : GoodIn q_W (va_wsS own idx y (Cond.code y cc' maxL' ret' :: q_W)) := by
    have g := q_GI hm1
    intro w hw
    unfold va_wsS at hw
    rcases List.mem_append.mp hw with h | h
    · have hw' : w ∈ q_W := by
        simp only [List.mem_cons, List.not_mem_nil, or_false] at h
        rcases h with rfl | rfl | rfl
        · exact hlnk
        · exact hi
        · exact hm4
      exact ⟨hw', good_of_word (List.mem_filter.mp hw').2⟩
    · exact g w h
  exact vx_runS (n := n) ⟨hx, hb, hml, hown, hts⟩ (hc l hfl Y H.size) (va_cwS n hts hG2 rfl rfl rfl ⟨hm2.1, hm2.2, hm3⟩ hR) ⟨q_FB, q_pre C0 hY hP hD hS⟩ rfl (by rw [List.length_map]; exact hn) hl.1 rfl (lv_room (q_sum_cat hrest)) hd hcs
theorem q_callS (C : q_Cx α β D κ p s m args meth c cc own F G nL A) (hfl : l.flags = flags0) (hm : q_mw y cc' maxL' ret' n) (hi : Cond.static y ∈ q_W) (hlnk : Cond.methodLink own idx y ∈ q_W) {v : Option Value} (hc : q_C α β D κ y cc' maxL' ret' fr' lo' mc' ms' As σ (.inl v) σ1) (hst : st = As.reverse ++ rest) (hn : As.length = n) (hd : decode cc pc = .ok (.invokestatic idx, 3)) (hrest : (rest.map fun v => v.category).sum ≤ 8) (hR : fr' + 1 ≤ R.frames ∧ 8 + (maxL' + 11) + lo' ≤ R.locals) (hcs : n1 + mc' ≤ R.cells ∧ n2 + ms' ≤ R.slots)
    (kk : q_St α β D κ p l e R s m args below meth c nL A Q (n1 + mc') (n2 + ms') σ1 lv (pc + 3) (v.toList ++ rest)) : q_St α β D κ p l e R s m args below meth c nL A Q (n1) (n2) σ lv pc st := by
  subst hst
  intro Y H locs ls hY hP hD hS hl
  rw [q_map_rev]
  refine q_run_ret C hD hS (q_runS C hfl hm hi hlnk hc hn hd hrest hR hcs hY hP hD hS hl) rfl (fun Y' H1 locs1 hY1 hP1 hD1 hS1 => ?_)
  have h := kk Y' H1 locs1 ls hY1 hP1 hD1 hS1 hl
  cases v <;> exact h
theorem q_callSx (C : q_Cx α β D κ p s m args meth c cc own F G nL A) (hfl : l.flags = flags0) (hm : q_mw y cc' maxL' ret' n) (hi : Cond.static y ∈ q_W) (hlnk : Cond.methodLink own idx y ∈ q_W) {E : String} (hc : q_C α β D κ y cc' maxL' ret' fr' lo' mc' ms' As σ (.inr E) σ1) (hst : st = As.reverse ++ rest) (hn : As.length = n) (hd : decode cc pc = .ok (.invokestatic idx, 3)) (hrest : (rest.map fun v => v.category).sum ≤ 8) (hR : fr' + 1 ≤ R.frames ∧ 8 + (maxL' + 11) + lo' ≤ R.locals) (hcs : n1 + mc' ≤ R.cells ∧ n2 + ms' ≤ R.slots)
    (kk : q_Sx α β D κ p l e R s m args below meth c nL A Q (n1 + mc') (n2 + ms') σ1 lv pc rest E) : q_St α β D κ p l e R s m args below meth c nL A Q (n1) (n2) σ lv pc st := by
  subst hst
  intro Y H locs ls hY hP hD hS hl
  rw [q_map_rev]
  exact q_run_thr C hD hS (q_runS C hfl hm hi hlnk hc hn hd hrest hR hcs hY hP hD hS hl) rfl (fun Y' H1 locs1 q ce hY1 hP1 hD1 hS1 h1 h2 h3 => kk Y' H1 locs1 ls q ce hY1 hP1 hD1 hS1 hl h1 h2 h3)
/-- thrown, and not caught here -/
theorem q_xout {σ' : q_M} {E : String} {mc ms : Nat} (C : q_Cx α β D κ p s m args meth c cc own F G nL A) (hT : ∀ x ∈ c.exceptionTable.toList, False) {σ1 : q_M} (hσ : σ1 = σ') (ho : o = .inr E) (hc : n1 ≤ mc) (hs : n2 ≤ ms) : q_Sx α β D κ p l e R s m args below meth c nL A (vx_MQ below (q_Qc α β D κ A o σ') (q_XC α β D κ A o σ') args s mc ms A) n1 n2 σ1 lv pc rest E := by
  subst hσ
  obtain ⟨hx, hb, hml, hown, hts, hK, hE, hA, hlk, hF, hG⟩ := C
  intro Y H locs ls q ce hY hP hD hS hl h1 h2 h3
  exact vx_out (fun x hx => (hT x hx).elim) hlk h1 h2 h3 (fun t ht hv => ⟨ho, ⟨Y, hY, by rw [ht]; exact hP, hD⟩, hS.F ht⟩) hS.2.2 hc hs
end q10
end
section
/-! Throws; calls of a nest mate's private statics; switches. -/
abbrev q_sup : List String := ["java/lang/RuntimeException", "java/lang/Exception"]
def q_xk (E : String) (ik ic : Nat) : Prop := Bundle.fit E = true ∧ (∀ n ∈ q_sup, Bundle.fit n = true) ∧ Cond.classLink RX8 ik E ∈ q_W ∧ Cond.initialized E ∈ q_W ∧ (∀ w ∈ (vx_atS RX8 ic E q_sup).filter goodWord, w ∈ q_W) ∧ (∀ w ∈ (vx_atS RX8 ic E q_sup).filter (fun w => !goodWord w), w ∈ q_XW) ∧ (∀ w ∈ Cond.classLink RX8 ik E :: Cond.initialized E :: vx_atS RX8 ic E q_sup, vx_ot w = true)
section q11
variable {α β : Nat → Nat} {D : va_G} {κ : Nat → ClassId} {p : Program} {l : Launch} {e : Env} {R : Room} {s : State} {m : MethodId} {args : Array Value} {below : List Frame} {meth : Method} {c : Code} {cc : ByteArray} {own : String} {F : Nat → Option (Nat × Nat)} {G : Nat → Option Int32} {nL : Nat} {A : Nat → Prop} {Q : State → Prop} {n1 n2 : Nat}
theorem q_XW_on : ∀ w ∈ q_XW, w.onTables = true := by decide +kernel
theorem q_nw {w : Cond} {A : Array Value} {U : State} (h : va_Nw w U) (hw : w ∈ q_XW) : w.before A U = true := by
  exact va_Nw.use (q_XW_on w hw) h
variable {σ' : q_M} {o : q_O} {mc ms pc : Nat} {lv : q_Lv} {rest : List Value}
theorem q_thrown (C : q_Cx α β D κ p s m args meth c cc own F G nL A) {E : String} {Y : q_H} {H : Heap} {locs : List Loc} (hY : q_Yok σ' Y) (hP : va_P D vwCl (q_ws α β κ Y σ') H) (hD : va_D A (q_ws α β κ Y σ')) (hS : va_S A s.heap H locs) (ho : o = .inr E) : ∀ t : State, s.vm.Alike t.vm → H.size ≤ t.heap.size → (∀ q : Nat, q < H.size → t.heap[q]? = H[q]?) → q_XC α β D κ A o σ' E s t := by
  intro t _ hz hq
  refine ⟨ho, ⟨Y, hY, hP.kept (fun k q hk => hq _ (vx_lt hP hk)), hD⟩, Nat.le_trans hS.1 hz, fun q h1 h2 => ?_⟩
  rw [hq q (Nat.lt_of_lt_of_le h1 hS.1)]
  exact hS.2.1 q h1 h2
theorem q_throw (C : q_Cx α β D κ p s m args meth c cc RX8 F G nL A) (hT : ∀ x ∈ c.exceptionTable.toList, False) (hfl : l.flags = flags0) {E text : String} {ik is ic : Nat} (hk : q_xk E ik ic) (hs : (is, text) ∈ q_msg) (d0 : decode cc pc = .ok (.new ik, 3)) (d3 : decode cc (pc + 3) = .ok (.dup, 1)) (d4 : decode cc (pc + 4) = .ok (.ldc is, 2)) (d6 : decode cc (pc + 6) = .ok (.invokespecial ic, 3)) (d9 : decode cc (pc + 9) = .ok (.athrow, 1)) (hrest : (rest.map fun v => v.category).sum ≤ 8) (hRf : 5 < R.frames) (hRl : 90 ≤ R.locals) (hRc : n1 + 1 ≤ R.cells) (hRs : n2 + 6 ≤ R.slots) {σ1 : q_M} (hσ : σ1 = σ') (ho : o = .inr E) (hc : n1 + 1 ≤ mc) (hs2 : n2 + 6 ≤ ms) : q_St α β D κ p l e R s m args below meth c nL A (vx_MQ below (q_Qc α β D κ A o σ') (q_XC α β D κ A o σ') args s mc ms A) n1 n2 σ1 lv pc rest := by
  subst hσ
  have C0 := C
  obtain ⟨hx, hb, hml, hown, hts, hK, hE, hA, hlk, hF, hG⟩ := C
  obtain ⟨k1, k2, k3, k4, k5, k6, k7⟩ := hk
  obtain ⟨sa, hstr⟩ := hE.2.2.2.2.2.2.2.2.2.2.2.2.2.1 (is, text) hs
  intro Y H locs ls hY hP hD hS hl
  exact vx_throwS hx hb (q_nt hfl) hown k1 k2 (hts _ k3) (hts _ k4) hstr (vx_hat (B := q_XW) (fun w h => hts _ (k5 w h)) k6 (fun w h => q_nw (hE.2.2.2.2.2.2.2.2.2.2.2.2.2.2.2.2 w h) h)) k7 hE.2.2.2.2.2.2.2.2.2.2.1 hE.2.2.2.2.2.2.2.2.2.2.2.1 hS (hl.1.trans hml.symm) d0 d3 d4 d6 d9 (fun x hx => (hT x hx).elim) hRf
    (Nat.le_trans (Nat.add_le_add_right (q_sum_cat (α := α) (β := β) hrest) _) hRl) hRc hRs hlk (q_thrown C0 hY hP hD hS ho) hS.2.2 hc hs2
theorem q_throwW (C : q_Cx α β D κ p s m args meth c cc RX8 F G nL A) (hT : ∀ x ∈ c.exceptionTable.toList, False) (hfl : l.flags = flags0) {E text : String} {ik is ic : Nat} (hk : q_xk E ik ic) (hs : (is, text) ∈ q_msg) (d0 : decode cc pc = .ok (.new ik, 3)) (d3 : decode cc (pc + 3) = .ok (.dup, 1)) (d4 : decode cc (pc + 4) = .ok (.ldc_w is, 3)) (d7 : decode cc (pc + 7) = .ok (.invokespecial ic, 3)) (d10 : decode cc (pc + 10) = .ok (.athrow, 1)) (hrest : (rest.map fun v => v.category).sum ≤ 8) (hRf : 5 < R.frames) (hRl : 90 ≤ R.locals) (hRc : n1 + 1 ≤ R.cells) (hRs : n2 + 6 ≤ R.slots) {σ1 : q_M} (hσ : σ1 = σ') (ho : o = .inr E) (hc : n1 + 1 ≤ mc) (hs2 : n2 + 6 ≤ ms) : q_St α β D κ p l e R s m args below meth c nL A (vx_MQ below (q_Qc α β D κ A o σ') (q_XC α β D κ A o σ') args s mc ms A) n1 n2 σ1 lv pc rest := by
  subst hσ
  have C0 := C
  obtain ⟨hx, hb, hml, hown, hts, hK, hE, hA, hlk, hF, hG⟩ := C
  obtain ⟨k1, k2, k3, k4, k5, k6, k7⟩ := hk
  obtain ⟨sa, hstr⟩ := hE.2.2.2.2.2.2.2.2.2.2.2.2.2.1 (is, text) hs
  intro Y H locs ls hY hP hD hS hl
  exact vx_throwSW hx hb (q_nt hfl) hown k1 k2 (hts _ k3) (hts _ k4) hstr (vx_hat (B := q_XW) (fun w h => hts _ (k5 w h)) k6 (fun w h => q_nw (hE.2.2.2.2.2.2.2.2.2.2.2.2.2.2.2.2 w h) h)) k7 hE.2.2.2.2.2.2.2.2.2.2.1 hE.2.2.2.2.2.2.2.2.2.2.2.1 hS (hl.1.trans hml.symm) d0 d3 d4 d7 d10 (fun x hx => (hT x hx).elim) hRf
    (Nat.le_trans (Nat.add_le_add_right (q_sum_cat (α := α) (β := β) hrest) _) hRl) hRc hRs hlk (q_thrown C0 hY hP hD hS ho) hS.2.2 hc hs2
theorem q_C.met {y : MethodName} {maxL : Nat} {ret : Option FieldType} {fr lo : Nat} {vs : List Value} {σ σ1 : q_M} {v : Option Value} (h : q_C α β D κ y cc maxL ret fr lo mc ms vs σ (.inl v) σ1) (hfl : l.flags = flags0) (Y : q_H) (sz : Nat) : Met l y (Cond.code y cc maxL ret :: q_W) ({ frames := fr, cells := mc, slots := ms, locals := lo } : Room) (q_Pc α β D κ vs σ Y sz) (q_Qc α β D κ (q_A α Y sz) (.inl v) σ1) mc ms (q_A α Y sz) := by
  intro p e ha hc hk s m args below hf happ hP hK
  obtain ⟨n, o, h1, h2, h3, h4⟩ := h l hfl Y sz p e ha hc hk s m args below hf happ hP hK
  refine ⟨n, o, h1, h2, h3, ?_⟩
  rcases h4 with ⟨h5, h6⟩ | ⟨q, -, E, ce, L, ⟨hx, -⟩, -⟩
  · exact ⟨h5, h6⟩
  · cases hx
theorem q_callN (C : q_Cx α β D κ p s m args meth c cc own F G nL A) (hfl : l.flags = flags0) {y : MethodName} {cc' : ByteArray} {maxL' : Nat} {ret' : Option FieldType} {fr' lo' mc' ms' n idx : Nat} {host : String} {As st : List Value} {σ σ1 : q_M} (hm : q_mw y cc' maxL' ret' n) (hi : Cond.static y ∈ q_W) (hlnk : Cond.methodLinkNest own idx y host ∈ q_NW) {v : Option Value} (hc : q_C α β D κ y cc' maxL' ret' fr' lo' mc' ms' As σ (.inl v) σ1) (hst : st = As.reverse ++ rest) (hn : As.length = n) (hd : decode cc pc = .ok (.invokestatic idx, 3)) (hrest : (rest.map fun v => v.category).sum ≤ 8) (hR : fr' + 1 ≤ R.frames ∧ 8 + (maxL' + 11) + lo' ≤ R.locals) (hcs : n1 + mc' ≤ R.cells ∧ n2 + ms' ≤ R.slots)
    (kk : q_St α β D κ p l e R s m args below meth c nL A Q (n1 + mc') (n2 + ms') σ1 lv (pc + 3) (v.toList ++ rest)) : q_St α β D κ p l e R s m args below meth c nL A Q (n1) (n2) σ lv pc st := by
  subst hst
  have C0 := C
  obtain ⟨hx, hb, hml, hown, hts, hK, hE, hA, hlk, hF, hG⟩ := C
  obtain ⟨hm1, hm2, hm3, hm4⟩ := hm
  intro Y H locs ls hY hP hD hS hl
  rw [q_map_rev]
  have hr := va_runSN (e := e) (meth := meth) (R := R) (n := n) (rest := rest.map (q_cv α β)) (As := As.map (q_cv α β)) (g := F0 m pc ls ((As.map (q_cv α β)).reverse ++ rest.map (q_cv α β))) (below := below) (locs := locs) (cells := n1) (slots := n2) ⟨hx, hb, hml, hown, hts⟩ (hc.met hfl Y H.size) ⟨va_cnB n hts (q_GI hm1) rfl rfl rfl (hE.2.2.2.2.2.2.2.2.2.2.2.2.2.2.1 _ hlnk) (hts _ hm4) ⟨hm2.1, hm2.2, hm3⟩ hR, hts _ hi, trivial⟩ ⟨q_FB, q_pre C0 hY hP hD hS⟩ rfl (by rw [List.length_map]; exact hn) hl.1 rfl (lv_room (q_sum_cat hrest)) hd hcs
  have hsub := q_A_sub (α := α) (β := β) (κ := κ) hA hD hS
  intro T hT X
  obtain ⟨v9, st₀, t, T', L, h0, X', hL, e1, e2, ⟨⟨v2, hv2, hv3⟩, ⟨Y', hY', hP', hD'⟩, hFr⟩, st⟩ := hr T hT X
  cases hv2
  cases hv3
  obtain ⟨k1, k2, k3⟩ := vx_keep h0 e1 hS (fun q _ h => hsub q h) hsub hL hFr
  have hkk := kk Y' T'.heap (locs ++ L) ls hY' (by rw [e1]; exact hP') (hD'.weaken (fun _ _ _ h => hsub _ h)) k3 hl
  obtain ⟨t2, a1, b1⟩ := hkk T' rfl X'
  exact ⟨t2, st t2 (by cases v <;> exact a1), b1⟩
variable {σ : q_M} {x : Int32}
theorem q_tabIn (C : q_Cx α β D κ p s m args meth c cc own F G nL A) {dflt lo hi : Int} {offs : Array Int} {len : Nat} {off : Int} {tgt : Nat} (hd : decode cc pc = .ok (.tableswitch dflt lo hi offs, len)) (h1 : ¬ x.toInt < lo) (h2 : ¬ hi < x.toInt) (ho : offs[(x.toInt - lo).toNat]? = some off) (ht : (pc : Int) + off = (tgt : Int)) (kk : q_St α β D κ p l e R s m args below meth c nL A Q (n1) (n2) σ lv tgt rest) : q_St α β D κ p l e R s m args below meth c nL A Q (n1) (n2) σ lv pc (.int x :: rest) :=
  fun Y H locs ls hY hP hD hS hl => lv_tableIn C.1 C.2.1 hd h1 h2 ho ht (kk Y H locs ls hY hP hD hS hl)
theorem q_tabOut (C : q_Cx α β D κ p s m args meth c cc own F G nL A) {dflt lo hi : Int} {offs : Array Int} {len : Nat} {tgt : Nat} (hd : decode cc pc = .ok (.tableswitch dflt lo hi offs, len)) (h : x.toInt < lo ∨ hi < x.toInt) (ht : (pc : Int) + dflt = (tgt : Int)) (kk : q_St α β D κ p l e R s m args below meth c nL A Q (n1) (n2) σ lv tgt rest) : q_St α β D κ p l e R s m args below meth c nL A Q (n1) (n2) σ lv pc (.int x :: rest) :=
  fun Y H locs ls hY hP hD hS hl => lv_tableOut C.1 C.2.1 hd h ht (kk Y H locs ls hY hP hD hS hl)
theorem q_lookup (C : q_Cx α β D κ p s m args meth c cc own F G nL A) {dflt : Int} {ps : Array (Int × Int)} {len : Nat} {off : Int} {tgt : Nat} (hd : decode cc pc = .ok (.lookupswitch dflt ps, len)) (hp : (ps.toList.zip (ps.toList.drop 1)).all (fun (a, next) => a.1 < next.1) = true) (ho : Op.lookupswitch.offset ps.toList dflt x.toInt = off) (ht : (pc : Int) + off = (tgt : Int)) (kk : q_St α β D κ p l e R s m args below meth c nL A Q (n1) (n2) σ lv tgt rest) : q_St α β D κ p l e R s m args below meth c nL A Q (n1) (n2) σ lv pc (.int x :: rest) :=
  fun Y H locs ls hY hP hD hS hl => lv_lookup C.1 C.2.1 hd hp ho ht (kk Y H locs ls hY hP hD hS hl)
theorem q_widen {k n : Nat} (h1 : n1 ≤ k) (h2 : n2 ≤ n) {st : List Value} (kk : q_St α β D κ p l e R s m args below meth c nL A Q (k) (n) σ lv pc st) : q_St α β D κ p l e R s m args below meth c nL A Q (n1) (n2) σ lv pc st :=
  fun Y H locs ls hY hP hD hS hl => W.widen h1 h2 (kk Y H locs ls hY hP hD hS hl)
theorem q_lvsub {lv' : q_Lv} {st : List Value} (hs : ∀ q ∈ lv', q ∈ lv) (kk : q_St α β D κ p l e R s m args below meth c nL A Q (n1) (n2) σ lv' pc st) : q_St α β D κ p l e R s m args below meth c nL A Q (n1) (n2) σ lv pc st :=
  fun Y H locs ls hY hP hD hS hl => kk Y H locs ls hY hP hD hS (q_has_sub hl (fun q hq => by
    obtain ⟨z, hz, rfl⟩ := List.mem_map.mp hq
    exact List.mem_map.mpr ⟨z, hs z hz, rfl⟩))
end q11
end
section
/-! What the tables say: methods, references, fields; each method by its list of instructions. -/
set_option maxRecDepth 100000 in
theorem q_t1 (i : Nat) {w : Cond} (h : tables_1_1[i]? = some w) (g : goodWord w = true) : w ∈ q_W := q_W_in (List.mem_append_right (k2_sels lw_privs) (show w ∈ tables_1 from List.mem_append_left _ (List.mem_of_getElem? h))) g
set_option maxRecDepth 100000 in
theorem q_t2 (i : Nat) {w : Cond} (h : tables_1_2[i]? = some w) (g : goodWord w = true) : w ∈ q_W := q_W_in (List.mem_append_right (k2_sels lw_privs) (show w ∈ tables_1 from List.mem_append_right _ (List.mem_append_left _ (List.mem_of_getElem? h)))) g
set_option maxRecDepth 100000 in
theorem q_t3 (i : Nat) {w : Cond} (h : tables_1_3[i]? = some w) (g : goodWord w = true) : w ∈ q_W := q_W_in (List.mem_append_right (k2_sels lw_privs) (show w ∈ tables_1 from List.mem_append_right _ (List.mem_append_right _ (List.mem_append_left _ (List.mem_of_getElem? h))))) g
set_option maxRecDepth 100000 in
theorem q_t4 (i : Nat) {w : Cond} (h : tables_1_4[i]? = some w) (g : goodWord w = true) : w ∈ q_W := q_W_in (List.mem_append_right (k2_sels lw_privs) (show w ∈ tables_1 from List.mem_append_right _ (List.mem_append_right _ (List.mem_append_right _ (List.mem_append_left _ (List.mem_of_getElem? h)))))) g
set_option maxRecDepth 100000 in
theorem q_t5 (i : Nat) {w : Cond} (h : tables_1_5[i]? = some w) (g : goodWord w = true) : w ∈ q_W := q_W_in (List.mem_append_right (k2_sels lw_privs) (show w ∈ tables_1 from List.mem_append_right _ (List.mem_append_right _ (List.mem_append_right _ (List.mem_append_right _ (List.mem_append_left _ (List.mem_of_getElem? h))))))) g
set_option maxRecDepth 100000 in
theorem q_t6 (i : Nat) {w : Cond} (h : tables_1_6[i]? = some w) (g : goodWord w = true) : w ∈ q_W := q_W_in (List.mem_append_right (k2_sels lw_privs) (show w ∈ tables_1 from List.mem_append_right _ (List.mem_append_right _ (List.mem_append_right _ (List.mem_append_right _ (List.mem_append_right _ (List.mem_append_left _ (List.mem_of_getElem? h)))))))) g
set_option maxRecDepth 100000 in
theorem q_t7 (i : Nat) {w : Cond} (h : tables_1_7[i]? = some w) (g : goodWord w = true) : w ∈ q_W := q_W_in (List.mem_append_right (k2_sels lw_privs) (show w ∈ tables_1 from List.mem_append_right _ (List.mem_append_right _ (List.mem_append_right _ (List.mem_append_right _ (List.mem_append_right _ (List.mem_append_right _ (List.mem_append_left _ (List.mem_of_getElem? h))))))))) g
set_option maxRecDepth 100000 in
theorem q_t8 (i : Nat) {w : Cond} (h : tables_1_8[i]? = some w) (g : goodWord w = true) : w ∈ q_W := q_W_in (List.mem_append_right (k2_sels lw_privs) (show w ∈ tables_1 from List.mem_append_right _ (List.mem_append_right _ (List.mem_append_right _ (List.mem_append_right _ (List.mem_append_right _ (List.mem_append_right _ (List.mem_append_right _ (List.mem_append_left _ (List.mem_of_getElem? h)))))))))) g
set_option maxRecDepth 100000 in
theorem q_t9 (i : Nat) {w : Cond} (h : tables_1_9[i]? = some w) (g : goodWord w = true) : w ∈ q_W := q_W_in (List.mem_append_right (k2_sels lw_privs) (show w ∈ tables_1 from List.mem_append_right _ (List.mem_append_right _ (List.mem_append_right _ (List.mem_append_right _ (List.mem_append_right _ (List.mem_append_right _ (List.mem_append_right _ (List.mem_append_right _ (List.mem_of_getElem? h)))))))))) g
set_option maxRecDepth 100000 in
theorem q_s (j : Nat) {q : MethodName × Nat} (h : lw_privs[j]? = some q) (g : goodWord (Cond.selects q.1.cls q.1 q.1) = true) : Cond.selects q.1.cls q.1 q.1 ∈ q_W := q_W_in (List.mem_append_left _ (List.mem_map.mpr ⟨q, List.mem_of_getElem? h, rfl⟩)) g
set_option maxRecDepth 100000 in
theorem q_init_QuillRelayLaw : Cond.initialized "QuillRelayLaw" ∈ q_W := q_t1 0 rfl rfl
set_option maxRecDepth 100000 in
theorem q_init_QuillRelay : Cond.initialized "QuillRelay" ∈ q_W := q_t1 1 rfl rfl
set_option maxRecDepth 100000 in
theorem q_init_QuillRelay_Race : Cond.initialized "QuillRelay$Race" ∈ q_W := q_t1 2 rfl rfl
set_option maxRecDepth 100000 in
theorem q_init_QuillRelay_Team : Cond.initialized "QuillRelay$Team" ∈ q_W := q_t1 3 rfl rfl
set_option maxRecDepth 100000 in
theorem q_init_java_lang_Enum : Cond.initialized "java/lang/Enum" ∈ q_W := q_t1 4 rfl rfl
set_option maxRecDepth 100000 in
theorem q_init_QuillRelay_History : Cond.initialized "QuillRelay$History" ∈ q_W := q_t1 6 rfl rfl
set_option maxRecDepth 100000 in
theorem q_init_QuillRelay_Program : Cond.initialized "QuillRelay$Program" ∈ q_W := q_t1 7 rfl rfl
set_option maxRecDepth 100000 in
theorem q_init_java_lang_AbstractStringBuilder : Cond.initialized "java/lang/AbstractStringBuilder" ∈ q_W := q_t1 8 rfl rfl
set_option maxRecDepth 100000 in
theorem q_init_java_lang_StringBuilder : Cond.initialized "java/lang/StringBuilder" ∈ q_W := q_t1 9 rfl rfl
set_option maxRecDepth 100000 in
theorem q_init_java_lang_String : Cond.initialized "java/lang/String" ∈ q_W := q_t1 10 rfl rfl
set_option maxRecDepth 100000 in
theorem q_init_java_lang_StringUTF16 : Cond.initialized "java/lang/StringUTF16" ∈ q_W := q_t1 11 rfl rfl
set_option maxRecDepth 100000 in
theorem q_init_QuillRelayModel : Cond.initialized "QuillRelayModel" ∈ q_W := q_t1 13 rfl rfl
set_option maxRecDepth 100000 in
theorem q_init_java_lang_Throwable : Cond.initialized "java/lang/Throwable" ∈ q_W := q_t1 15 rfl rfl
set_option maxRecDepth 100000 in
theorem q_init_java_lang_Exception : Cond.initialized "java/lang/Exception" ∈ q_W := q_t1 16 rfl rfl
set_option maxRecDepth 100000 in
theorem q_init_java_lang_RuntimeException : Cond.initialized "java/lang/RuntimeException" ∈ q_W := q_t1 17 rfl rfl
set_option maxRecDepth 100000 in
theorem q_init_java_lang_IndexOutOfBoundsException : Cond.initialized "java/lang/IndexOutOfBoundsException" ∈ q_W := q_t1 18 rfl rfl
set_option maxRecDepth 100000 in
theorem q_init_java_lang_IllegalArgumentException : Cond.initialized "java/lang/IllegalArgumentException" ∈ q_W := q_t1 19 rfl rfl
set_option maxRecDepth 100000 in
theorem q_init_java_lang_IllegalStateException : Cond.initialized "java/lang/IllegalStateException" ∈ q_W := q_t1 20 rfl rfl
set_option maxRecDepth 100000 in
theorem q_init_java_lang_UnsupportedOperationException : Cond.initialized "java/lang/UnsupportedOperationException" ∈ q_W := q_t1 21 rfl rfl
set_option maxRecDepth 100000 in
theorem q_init_java_lang_Math : Cond.initialized "java/lang/Math" ∈ q_W := q_t1 22 rfl rfl
set_option maxRecDepth 100000 in
theorem q_init_java_lang_ArrayIndexOutOfBoundsException : Cond.initialized "java/lang/ArrayIndexOutOfBoundsException" ∈ q_W := q_t1 23 rfl rfl
set_option maxRecDepth 100000 in
theorem q_init_java_lang_ArithmeticException : Cond.initialized "java/lang/ArithmeticException" ∈ q_W := q_t1 25 rfl rfl
set_option maxRecDepth 100000 in
theorem q_init_java_lang_StringIndexOutOfBoundsException : Cond.initialized "java/lang/StringIndexOutOfBoundsException" ∈ q_W := q_t1 26 rfl rfl
set_option maxRecDepth 100000 in
theorem q_init_java_lang_System : Cond.initialized "java/lang/System" ∈ q_W := q_t1 29 rfl rfl
set_option maxRecDepth 100000 in
theorem q_init_java_lang_StringLatin1 : Cond.initialized "java/lang/StringLatin1" ∈ q_W := q_t1 31 rfl rfl
set_option maxRecDepth 100000 in
theorem q_init_java_lang_Number : Cond.initialized "java/lang/Number" ∈ q_W := q_t1 32 rfl rfl
set_option maxRecDepth 100000 in
theorem q_init_java_lang_Integer : Cond.initialized "java/lang/Integer" ∈ q_W := q_t1 33 rfl rfl
def F_X2 : Nat → Option (Nat × Nat)
  | 11 => some (4, 0)
  | 18 => some (4, 1)
  | 26 => some (4, 2)
  | _ => none
def G_X2 : Nat → Option Int32
  | _ => none
def F_X3 : Nat → Option (Nat × Nat)
  | 12 => some (5, 0)
  | 18 => some (5, 1)
  | 28 => some (5, 5)
  | 34 => some (5, 4)
  | 46 => some (5, 3)
  | 71 => some (5, 2)
  | _ => none
def G_X3 : Nat → Option Int32
  | 22 => some 20
  | _ => none
def F_X4 : Nat → Option (Nat × Nat)
  | 11 => some (6, 0)
  | 20 => some (6, 3)
  | 28 => some (6, 1)
  | 32 => some (6, 2)
  | 35 => some (7, 3)
  | 54 => some (7, 11)
  | 57 => some (7, 4)
  | 60 => some (7, 0)
  | 123 => some (7, 5)
  | 130 => some (7, 12)
  | 136 => some (7, 6)
  | 139 => some (7, 7)
  | 145 => some (7, 13)
  | 148 => some (7, 8)
  | 157 => some (7, 9)
  | _ => none
def G_X4 : Nat → Option Int32
  | 39 => some 0
  | 48 => some 2
  | 51 => some 3
  | 75 => some 13
  | 81 => some 10
  | 92 => some 11
  | 95 => some 12
  | 109 => some 1
  | _ => none
def F_X6 : Nat → Option (Nat × Nat)
  | 9 => some (7, 0)
  | 15 => some (7, 1)
  | 19 => some (7, 2)
  | 28 => some (7, 3)
  | 31 => some (7, 4)
  | 38 => some (7, 5)
  | 41 => some (7, 6)
  | 44 => some (7, 7)
  | 47 => some (7, 8)
  | 50 => some (7, 9)
  | 53 => some (7, 10)
  | 56 => some (7, 11)
  | 59 => some (7, 12)
  | 63 => some (7, 13)
  | _ => none
def G_X6 : Nat → Option Int32
  | 22 => some 0
  | 82 => some 3
  | _ => none
def F_X8 : Nat → Option (Nat × Nat)
  | 10 => some (8, 0)
  | 16 => some (8, 1)
  | 19 => some (8, 2)
  | 25 => some (8, 3)
  | 32 => some (8, 4)
  | 39 => some (8, 5)
  | 43 => some (8, 6)
  | 47 => some (8, 7)
  | 51 => some (8, 8)
  | 54 => some (8, 9)
  | 57 => some (8, 10)
  | 94 => some (6, 3)
  | 104 => some (7, 4)
  | 147 => some (7, 3)
  | 160 => some (6, 1)
  | 163 => some (6, 2)
  | 183 => some (7, 5)
  | 186 => some (7, 6)
  | 196 => some (7, 8)
  | 199 => some (7, 9)
  | 218 => some (7, 2)
  | 229 => some (7, 11)
  | 304 => some (5, 0)
  | 319 => some (5, 4)
  | 326 => some (4, 2)
  | 392 => some (5, 1)
  | 395 => some (5, 5)
  | _ => none
def G_X8 : Nat → Option Int32
  | 141 => some 4
  | 189 => some 2
  | 339 => some 11
  | 347 => some 12
  | 352 => some 13
  | 357 => some 14
  | 372 => some 3
  | 382 => some 10
  | _ => none
def F_X9 : Nat → Option (Nat × Nat)
  | 9 => some (9, 0)
  | 13 => some (9, 1)
  | 16 => some (9, 2)
  | 19 => some (9, 3)
  | 22 => some (9, 6)
  | 26 => some (9, 7)
  | 29 => some (9, 12)
  | 32 => some (9, 14)
  | 35 => some (9, 15)
  | 38 => some (9, 5)
  | 45 => some (9, 4)
  | 121 => some (9, 8)
  | 124 => some (9, 9)
  | 167 => some (9, 13)
  | 184 => some (9, 16)
  | 187 => some (9, 17)
  | 237 => some (9, 18)
  | 255 => some (9, 10)
  | 258 => some (9, 11)
  | _ => none
def G_X9 : Nat → Option Int32
  | _ => none
set_option maxRecDepth 100000 in
theorem q_u_X2 : ∀ w ∈ u_ws RX2 TX2 3, w ∈ q_W := fun w h => q_W_in ((by decide +kernel : ∀ w ∈ u_ws RX2 TX2 3, w ∈ lw_tbl) w h) ((by decide +kernel : ∀ w ∈ u_ws RX2 TX2 3, goodWord w = true) w h)
set_option maxRecDepth 100000 in
theorem q_u_X3 : ∀ w ∈ u_ws RX3 TX3 6, w ∈ q_W := fun w h => q_W_in ((by decide +kernel : ∀ w ∈ u_ws RX3 TX3 6, w ∈ lw_tbl) w h) ((by decide +kernel : ∀ w ∈ u_ws RX3 TX3 6, goodWord w = true) w h)
set_option maxRecDepth 100000 in
theorem q_u_X4 : ∀ w ∈ u_ws RX4 TX4 4, w ∈ q_W := fun w h => q_W_in ((by decide +kernel : ∀ w ∈ u_ws RX4 TX4 4, w ∈ lw_tbl) w h) ((by decide +kernel : ∀ w ∈ u_ws RX4 TX4 4, goodWord w = true) w h)
set_option maxRecDepth 100000 in
theorem q_u_X6 : ∀ w ∈ u_ws RX6 TX6 14, w ∈ q_W := fun w h => q_W_in ((by decide +kernel : ∀ w ∈ u_ws RX6 TX6 14, w ∈ lw_tbl) w h) ((by decide +kernel : ∀ w ∈ u_ws RX6 TX6 14, goodWord w = true) w h)
set_option maxRecDepth 100000 in
theorem q_u_X8 : ∀ w ∈ u_ws RX8 TX8 11, w ∈ q_W := fun w h => q_W_in ((by decide +kernel : ∀ w ∈ u_ws RX8 TX8 11, w ∈ lw_tbl) w h) ((by decide +kernel : ∀ w ∈ u_ws RX8 TX8 11, goodWord w = true) w h)
set_option maxRecDepth 100000 in
theorem q_u_X9 : ∀ w ∈ u_ws RX9 TX9 19, w ∈ q_W := fun w h => q_W_in ((by decide +kernel : ∀ w ∈ u_ws RX9 TX9 19, w ∈ lw_tbl) w h) ((by decide +kernel : ∀ w ∈ u_ws RX9 TX9 19, goodWord w = true) w h)
set_option maxRecDepth 100000 in
theorem Fok_X2 : q_Fok RX2 F_X2 := by
  intro i a b h
  unfold F_X2 at h
  split at h
  · cases h; exact ⟨_, _, _, rfl, by decide, rfl, by decide, by decide, q_u_X2, q_t1 146 rfl rfl⟩
  · cases h; exact ⟨_, _, _, rfl, by decide, rfl, by decide, by decide, q_u_X2, q_t1 147 rfl rfl⟩
  · cases h; exact ⟨_, _, _, rfl, by decide, rfl, by decide, by decide, q_u_X2, q_t1 148 rfl rfl⟩
  · cases h
set_option maxRecDepth 100000 in
theorem Gok_X2 : q_Gok RX2 G_X2 := by
  intro i x h
  unfold G_X2 at h
  split at h
  · cases h
set_option maxRecDepth 100000 in
theorem Fok_X3 : q_Fok RX3 F_X3 := by
  intro i a b h
  unfold F_X3 at h
  split at h
  · cases h; exact ⟨_, _, _, rfl, by decide, rfl, by decide, by decide, q_u_X3, q_t1 198 rfl rfl⟩
  · cases h; exact ⟨_, _, _, rfl, by decide, rfl, by decide, by decide, q_u_X3, q_t1 200 rfl rfl⟩
  · cases h; exact ⟨_, _, _, rfl, by decide, rfl, by decide, by decide, q_u_X3, q_t1 206 rfl rfl⟩
  · cases h; exact ⟨_, _, _, rfl, by decide, rfl, by decide, by decide, q_u_X3, q_t1 204 rfl rfl⟩
  · cases h; exact ⟨_, _, _, rfl, by decide, rfl, by decide, by decide, q_u_X3, q_t1 203 rfl rfl⟩
  · cases h; exact ⟨_, _, _, rfl, by decide, rfl, by decide, by decide, q_u_X3, q_t1 202 rfl rfl⟩
  · cases h
set_option maxRecDepth 100000 in
theorem Gok_X3 : q_Gok RX3 G_X3 := by
  intro i x h
  unfold G_X3 at h
  split at h
  · cases h; exact ⟨20, rfl, by decide, q_t1 196 rfl rfl⟩
  · cases h
set_option maxRecDepth 100000 in
theorem Fok_X4 : q_Fok RX4 F_X4 := by
  intro i a b h
  unfold F_X4 at h
  split at h
  · cases h; exact ⟨_, _, _, rfl, by decide, rfl, by decide, by decide, q_u_X4, q_t1 121 rfl rfl⟩
  · cases h; exact ⟨_, _, _, rfl, by decide, rfl, by decide, by decide, q_u_X4, q_t1 126 rfl rfl⟩
  · cases h; exact ⟨_, _, _, rfl, by decide, rfl, by decide, by decide, q_u_X4, q_t1 122 rfl rfl⟩
  · cases h; exact ⟨_, _, _, rfl, by decide, rfl, by decide, by decide, q_u_X4, q_t1 124 rfl rfl⟩
  · cases h; exact ⟨_, _, _, rfl, by decide, rfl, by decide, by decide, q_u_X6, q_t1 64 rfl rfl⟩
  · cases h; exact ⟨_, _, _, rfl, by decide, rfl, by decide, by decide, q_u_X6, q_t1 85 rfl rfl⟩
  · cases h; exact ⟨_, _, _, rfl, by decide, rfl, by decide, by decide, q_u_X6, q_t1 68 rfl rfl⟩
  · cases h; exact ⟨_, _, _, rfl, by decide, rfl, by decide, by decide, q_u_X6, q_t1 59 rfl rfl⟩
  · cases h; exact ⟨_, _, _, rfl, by decide, rfl, by decide, by decide, q_u_X6, q_t1 71 rfl rfl⟩
  · cases h; exact ⟨_, _, _, rfl, by decide, rfl, by decide, by decide, q_u_X6, q_t1 88 rfl rfl⟩
  · cases h; exact ⟨_, _, _, rfl, by decide, rfl, by decide, by decide, q_u_X6, q_t1 74 rfl rfl⟩
  · cases h; exact ⟨_, _, _, rfl, by decide, rfl, by decide, by decide, q_u_X6, q_t1 76 rfl rfl⟩
  · cases h; exact ⟨_, _, _, rfl, by decide, rfl, by decide, by decide, q_u_X6, q_t1 90 rfl rfl⟩
  · cases h; exact ⟨_, _, _, rfl, by decide, rfl, by decide, by decide, q_u_X6, q_t1 79 rfl rfl⟩
  · cases h; exact ⟨_, _, _, rfl, by decide, rfl, by decide, by decide, q_u_X6, q_t1 82 rfl rfl⟩
  · cases h
set_option maxRecDepth 100000 in
theorem Gok_X4 : q_Gok RX4 G_X4 := by
  intro i x h
  unfold G_X4 at h
  split at h
  · cases h; exact ⟨0, rfl, by decide, q_t2 25 rfl rfl⟩
  · cases h; exact ⟨2, rfl, by decide, q_t2 38 rfl rfl⟩
  · cases h; exact ⟨3, rfl, by decide, q_t4 186 rfl rfl⟩
  · cases h; exact ⟨13, rfl, by decide, q_t2 87 rfl rfl⟩
  · cases h; exact ⟨10, rfl, by decide, q_t2 89 rfl rfl⟩
  · cases h; exact ⟨11, rfl, by decide, q_t3 35 rfl rfl⟩
  · cases h; exact ⟨12, rfl, by decide, q_t3 36 rfl rfl⟩
  · cases h; exact ⟨1, rfl, by decide, q_t2 233 rfl rfl⟩
  · cases h
set_option maxRecDepth 100000 in
theorem Fok_X6 : q_Fok RX6 F_X6 := by
  intro i a b h
  unfold F_X6 at h
  split at h
  · cases h; exact ⟨_, _, _, rfl, by decide, rfl, by decide, by decide, q_u_X6, q_t1 58 rfl rfl⟩
  · cases h; exact ⟨_, _, _, rfl, by decide, rfl, by decide, by decide, q_u_X6, q_t1 60 rfl rfl⟩
  · cases h; exact ⟨_, _, _, rfl, by decide, rfl, by decide, by decide, q_u_X6, q_t1 61 rfl rfl⟩
  · cases h; exact ⟨_, _, _, rfl, by decide, rfl, by decide, by decide, q_u_X6, q_t1 63 rfl rfl⟩
  · cases h; exact ⟨_, _, _, rfl, by decide, rfl, by decide, by decide, q_u_X6, q_t1 66 rfl rfl⟩
  · cases h; exact ⟨_, _, _, rfl, by decide, rfl, by decide, by decide, q_u_X6, q_t1 69 rfl rfl⟩
  · cases h; exact ⟨_, _, _, rfl, by decide, rfl, by decide, by decide, q_u_X6, q_t1 72 rfl rfl⟩
  · cases h; exact ⟨_, _, _, rfl, by decide, rfl, by decide, by decide, q_u_X6, q_t1 75 rfl rfl⟩
  · cases h; exact ⟨_, _, _, rfl, by decide, rfl, by decide, by decide, q_u_X6, q_t1 77 rfl rfl⟩
  · cases h; exact ⟨_, _, _, rfl, by decide, rfl, by decide, by decide, q_u_X6, q_t1 80 rfl rfl⟩
  · cases h; exact ⟨_, _, _, rfl, by decide, rfl, by decide, by decide, q_u_X6, q_t1 83 rfl rfl⟩
  · cases h; exact ⟨_, _, _, rfl, by decide, rfl, by decide, by decide, q_u_X6, q_t1 84 rfl rfl⟩
  · cases h; exact ⟨_, _, _, rfl, by decide, rfl, by decide, by decide, q_u_X6, q_t1 87 rfl rfl⟩
  · cases h; exact ⟨_, _, _, rfl, by decide, rfl, by decide, by decide, q_u_X6, q_t1 89 rfl rfl⟩
  · cases h
set_option maxRecDepth 100000 in
theorem Gok_X6 : q_Gok RX6 G_X6 := by
  intro i x h
  unfold G_X6 at h
  split at h
  · cases h; exact ⟨0, rfl, by decide, q_t1 56 rfl rfl⟩
  · cases h; exact ⟨3, rfl, by decide, q_t3 135 rfl rfl⟩
  · cases h
set_option maxRecDepth 100000 in
theorem Fok_X8 : q_Fok RX8 F_X8 := by
  intro i a b h
  unfold F_X8 at h
  split at h
  · cases h; exact ⟨_, _, _, rfl, by decide, rfl, by decide, by decide, q_u_X8, q_t1 223 rfl rfl⟩
  · cases h; exact ⟨_, _, _, rfl, by decide, rfl, by decide, by decide, q_u_X8, q_t1 224 rfl rfl⟩
  · cases h; exact ⟨_, _, _, rfl, by decide, rfl, by decide, by decide, q_u_X8, q_t1 225 rfl rfl⟩
  · cases h; exact ⟨_, _, _, rfl, by decide, rfl, by decide, by decide, q_u_X8, q_t1 226 rfl rfl⟩
  · cases h; exact ⟨_, _, _, rfl, by decide, rfl, by decide, by decide, q_u_X8, q_t1 227 rfl rfl⟩
  · cases h; exact ⟨_, _, _, rfl, by decide, rfl, by decide, by decide, q_u_X8, q_t1 228 rfl rfl⟩
  · cases h; exact ⟨_, _, _, rfl, by decide, rfl, by decide, by decide, q_u_X8, q_t1 229 rfl rfl⟩
  · cases h; exact ⟨_, _, _, rfl, by decide, rfl, by decide, by decide, q_u_X8, q_t1 230 rfl rfl⟩
  · cases h; exact ⟨_, _, _, rfl, by decide, rfl, by decide, by decide, q_u_X8, q_t1 231 rfl rfl⟩
  · cases h; exact ⟨_, _, _, rfl, by decide, rfl, by decide, by decide, q_u_X8, q_t1 232 rfl rfl⟩
  · cases h; exact ⟨_, _, _, rfl, by decide, rfl, by decide, by decide, q_u_X8, q_t1 233 rfl rfl⟩
  · cases h; exact ⟨_, _, _, rfl, by decide, rfl, by decide, by decide, q_u_X4, q_t1 127 rfl rfl⟩
  · cases h; exact ⟨_, _, _, rfl, by decide, rfl, by decide, by decide, q_u_X6, q_t1 67 rfl rfl⟩
  · cases h; exact ⟨_, _, _, rfl, by decide, rfl, by decide, by decide, q_u_X6, q_t1 65 rfl rfl⟩
  · cases h; exact ⟨_, _, _, rfl, by decide, rfl, by decide, by decide, q_u_X4, q_t1 123 rfl rfl⟩
  · cases h; exact ⟨_, _, _, rfl, by decide, rfl, by decide, by decide, q_u_X4, q_t1 125 rfl rfl⟩
  · cases h; exact ⟨_, _, _, rfl, by decide, rfl, by decide, by decide, q_u_X6, q_t1 70 rfl rfl⟩
  · cases h; exact ⟨_, _, _, rfl, by decide, rfl, by decide, by decide, q_u_X6, q_t1 73 rfl rfl⟩
  · cases h; exact ⟨_, _, _, rfl, by decide, rfl, by decide, by decide, q_u_X6, q_t1 78 rfl rfl⟩
  · cases h; exact ⟨_, _, _, rfl, by decide, rfl, by decide, by decide, q_u_X6, q_t1 81 rfl rfl⟩
  · cases h; exact ⟨_, _, _, rfl, by decide, rfl, by decide, by decide, q_u_X6, q_t1 62 rfl rfl⟩
  · cases h; exact ⟨_, _, _, rfl, by decide, rfl, by decide, by decide, q_u_X6, q_t1 86 rfl rfl⟩
  · cases h; exact ⟨_, _, _, rfl, by decide, rfl, by decide, by decide, q_u_X3, q_t1 199 rfl rfl⟩
  · cases h; exact ⟨_, _, _, rfl, by decide, rfl, by decide, by decide, q_u_X3, q_t1 205 rfl rfl⟩
  · cases h; exact ⟨_, _, _, rfl, by decide, rfl, by decide, by decide, q_u_X2, q_t1 149 rfl rfl⟩
  · cases h; exact ⟨_, _, _, rfl, by decide, rfl, by decide, by decide, q_u_X3, q_t1 201 rfl rfl⟩
  · cases h; exact ⟨_, _, _, rfl, by decide, rfl, by decide, by decide, q_u_X3, q_t1 207 rfl rfl⟩
  · cases h
set_option maxRecDepth 100000 in
theorem Gok_X8 : q_Gok RX8 G_X8 := by
  intro i x h
  unfold G_X8 at h
  split at h
  · cases h; exact ⟨4, rfl, by decide, q_t3 196 rfl rfl⟩
  · cases h; exact ⟨2, rfl, by decide, q_t3 153 rfl rfl⟩
  · cases h; exact ⟨11, rfl, by decide, q_t2 94 rfl rfl⟩
  · cases h; exact ⟨12, rfl, by decide, q_t2 168 rfl rfl⟩
  · cases h; exact ⟨13, rfl, by decide, q_t2 186 rfl rfl⟩
  · cases h; exact ⟨14, rfl, by decide, q_t2 203 rfl rfl⟩
  · cases h; exact ⟨3, rfl, by decide, q_t4 119 rfl rfl⟩
  · cases h; exact ⟨10, rfl, by decide, q_t3 158 rfl rfl⟩
  · cases h
set_option maxRecDepth 100000 in
theorem Fok_X9 : q_Fok RX9 F_X9 := by
  intro i a b h
  unfold F_X9 at h
  split at h
  · cases h; exact ⟨_, _, _, rfl, by decide, rfl, by decide, by decide, q_u_X9, q_t6 211 rfl rfl⟩
  · cases h; exact ⟨_, _, _, rfl, by decide, rfl, by decide, by decide, q_u_X9, q_t6 212 rfl rfl⟩
  · cases h; exact ⟨_, _, _, rfl, by decide, rfl, by decide, by decide, q_u_X9, q_t6 213 rfl rfl⟩
  · cases h; exact ⟨_, _, _, rfl, by decide, rfl, by decide, by decide, q_u_X9, q_t6 214 rfl rfl⟩
  · cases h; exact ⟨_, _, _, rfl, by decide, rfl, by decide, by decide, q_u_X9, q_t6 217 rfl rfl⟩
  · cases h; exact ⟨_, _, _, rfl, by decide, rfl, by decide, by decide, q_u_X9, q_t6 218 rfl rfl⟩
  · cases h; exact ⟨_, _, _, rfl, by decide, rfl, by decide, by decide, q_u_X9, q_t6 223 rfl rfl⟩
  · cases h; exact ⟨_, _, _, rfl, by decide, rfl, by decide, by decide, q_u_X9, q_t6 225 rfl rfl⟩
  · cases h; exact ⟨_, _, _, rfl, by decide, rfl, by decide, by decide, q_u_X9, q_t6 226 rfl rfl⟩
  · cases h; exact ⟨_, _, _, rfl, by decide, rfl, by decide, by decide, q_u_X9, q_t6 216 rfl rfl⟩
  · cases h; exact ⟨_, _, _, rfl, by decide, rfl, by decide, by decide, q_u_X9, q_t6 215 rfl rfl⟩
  · cases h; exact ⟨_, _, _, rfl, by decide, rfl, by decide, by decide, q_u_X9, q_t6 219 rfl rfl⟩
  · cases h; exact ⟨_, _, _, rfl, by decide, rfl, by decide, by decide, q_u_X9, q_t6 220 rfl rfl⟩
  · cases h; exact ⟨_, _, _, rfl, by decide, rfl, by decide, by decide, q_u_X9, q_t6 224 rfl rfl⟩
  · cases h; exact ⟨_, _, _, rfl, by decide, rfl, by decide, by decide, q_u_X9, q_t6 227 rfl rfl⟩
  · cases h; exact ⟨_, _, _, rfl, by decide, rfl, by decide, by decide, q_u_X9, q_t6 228 rfl rfl⟩
  · cases h; exact ⟨_, _, _, rfl, by decide, rfl, by decide, by decide, q_u_X9, q_t6 229 rfl rfl⟩
  · cases h; exact ⟨_, _, _, rfl, by decide, rfl, by decide, by decide, q_u_X9, q_t6 221 rfl rfl⟩
  · cases h; exact ⟨_, _, _, rfl, by decide, rfl, by decide, by decide, q_u_X9, q_t6 222 rfl rfl⟩
  · cases h
set_option maxRecDepth 100000 in
theorem Gok_X9 : q_Gok RX9 G_X9 := by
  intro i x h
  unfold G_X9 at h
  split at h
  · cases h
set_option maxRecDepth 100000 in
theorem mw_X2_init : q_mw yX2_init cX2_init 2 (Option.none : Option Jvm.ClassFile.FieldType) 0 := ⟨q_t1 141 rfl rfl, by decide +kernel, by decide +kernel, q_init_QuillRelay_History⟩
set_option maxRecDepth 100000 in
theorem mi_X2_init : Cond.instanceMethod yX2_init ∈ q_W := q_t1 140 rfl rfl
def tb_X2_init : List q_E := [(0, .aload_n 0, 1, 0, 0), (1, .invokespecial 3, 3, 0, 0), (4, .aload_n 0, 1, 0, 0), (5, .bipush 8, 2, 8, 0), (7, .anewarray 9, 3, 0, 0), (10, .putfield 11, 3, 0, 0), (13, .iconst 0, 1, 0, 0), (14, .istore_n 1, 1, 0, 0), (15, .iload_n 1, 1, 0, 0), (16, .aload_n 0, 1, 0, 0), (17, .getfield 11, 3, 0, 0), (20, .arraylength, 1, 0, 31), (21, .if_icmp .ge 22, 3, 0, 43), (24, .aload_n 0, 1, 0, 0), (25, .getfield 11, 3, 0, 0), (28, .iload_n 1, 1, 0, 0), (29, .new 9, 3, 0, 0), (32, .dup, 1, 0, 0), (33, .invokespecial 17, 3, 0, 0), (36, .aastore, 1, 0, 0), (37, .iinc 1 1, 3, 1, 0), (40, .goto (-25), 3, 0, 15), (43, .return_, 1, 0, 0)]
set_option maxRecDepth 100000 in
theorem tk_X2_init : q_tb cX2_init 2 tb_X2_init = true := by decide +kernel
set_option maxRecDepth 100000 in
theorem mw_X2_push : q_mw yX2_push cX2_push 2 (Option.none : Option Jvm.ClassFile.FieldType) 1 := ⟨q_t2 224 rfl rfl, by decide +kernel, by decide +kernel, q_init_QuillRelay_History⟩
set_option maxRecDepth 100000 in
theorem mi_X2_push : Cond.instanceMethod yX2_push ∈ q_W := q_t2 222 rfl rfl
set_option maxRecDepth 100000 in
theorem me_X2_push : Cond.selects yX2_push.cls yX2_push yX2_push ∈ q_W := q_t2 223 rfl rfl
def tb_X2_push : List q_E := [(0, .aload_n 0, 1, 0, 0), (1, .dup, 1, 0, 0), (2, .getfield 18, 3, 0, 0), (5, .iconst 1, 1, 1, 0), (6, .iadd, 1, 0, 0), (7, .putfield 18, 3, 0, 0), (10, .aload_n 0, 1, 0, 0), (11, .getfield 18, 3, 0, 0), (14, .ifCond .lt 15, 3, 0, 29), (17, .aload_n 0, 1, 0, 0), (18, .getfield 18, 3, 0, 0), (21, .aload_n 0, 1, 0, 0), (22, .getfield 11, 3, 0, 0), (25, .arraylength, 1, 0, 31), (26, .if_icmp .lt 8, 3, 0, 34), (29, .aload_n 0, 1, 0, 0), (30, .iconst 0, 1, 0, 0), (31, .putfield 18, 3, 0, 0), (34, .aload_n 0, 1, 0, 0), (35, .getfield 11, 3, 0, 0), (38, .aload_n 0, 1, 0, 0), (39, .getfield 18, 3, 0, 0), (42, .aaload, 1, 0, 31), (43, .aload_n 1, 1, 0, 0), (44, .invokevirtual 22, 3, 0, 0), (47, .aload_n 0, 1, 0, 0), (48, .aload_n 0, 1, 0, 0), (49, .getfield 26, 3, 0, 0), (52, .iconst 1, 1, 1, 0), (53, .iadd, 1, 0, 0), (54, .aload_n 0, 1, 0, 0), (55, .getfield 11, 3, 0, 0), (58, .arraylength, 1, 0, 31), (59, .invokestatic 29, 3, 0, 0), (62, .putfield 26, 3, 0, 0), (65, .return_, 1, 0, 0)]
set_option maxRecDepth 100000 in
theorem tk_X2_push : q_tb cX2_push 2 tb_X2_push = true := by decide +kernel
set_option maxRecDepth 100000 in
theorem mw_X2_popInto : q_mw yX2_popInto cX2_popInto 2 (Option.none : Option Jvm.ClassFile.FieldType) 1 := ⟨q_t6 196 rfl rfl, by decide +kernel, by decide +kernel, q_init_QuillRelay_History⟩
set_option maxRecDepth 100000 in
theorem mi_X2_popInto : Cond.instanceMethod yX2_popInto ∈ q_W := q_t6 194 rfl rfl
set_option maxRecDepth 100000 in
theorem me_X2_popInto : Cond.selects yX2_popInto.cls yX2_popInto yX2_popInto ∈ q_W := q_t6 195 rfl rfl
def tb_X2_popInto : List q_E := [(0, .aload_n 0, 1, 0, 0), (1, .getfield 26, 3, 0, 0), (4, .ifCond .le 72, 3, 0, 76), (7, .aload_n 0, 1, 0, 0), (8, .getfield 18, 3, 0, 0), (11, .ifCond .lt 65, 3, 0, 76), (14, .aload_n 0, 1, 0, 0), (15, .getfield 18, 3, 0, 0), (18, .aload_n 0, 1, 0, 0), (19, .getfield 11, 3, 0, 0), (22, .arraylength, 1, 0, 31), (23, .if_icmp .ge 53, 3, 0, 76), (26, .aload_n 1, 1, 0, 0), (27, .aload_n 0, 1, 0, 0), (28, .getfield 11, 3, 0, 0), (31, .aload_n 0, 1, 0, 0), (32, .getfield 18, 3, 0, 0), (35, .aaload, 1, 0, 31), (36, .invokevirtual 22, 3, 0, 0), (39, .aload_n 0, 1, 0, 0), (40, .aload_n 0, 1, 0, 0), (41, .getfield 18, 3, 0, 0), (44, .ifCond .le 12, 3, 0, 56), (47, .aload_n 0, 1, 0, 0), (48, .getfield 18, 3, 0, 0), (51, .iconst 1, 1, 1, 0), (52, .isub, 1, 0, 0), (53, .goto 10, 3, 0, 63), (56, .aload_n 0, 1, 0, 0), (57, .getfield 11, 3, 0, 0), (60, .arraylength, 1, 0, 31), (61, .iconst 1, 1, 1, 0), (62, .isub, 1, 0, 0), (63, .putfield 18, 3, 0, 0), (66, .aload_n 0, 1, 0, 0), (67, .dup, 1, 0, 0), (68, .getfield 26, 3, 0, 0), (71, .iconst 1, 1, 1, 0), (72, .isub, 1, 0, 0), (73, .putfield 26, 3, 0, 0), (76, .return_, 1, 0, 0)]
set_option maxRecDepth 100000 in
theorem tk_X2_popInto : q_tb cX2_popInto 2 tb_X2_popInto = true := by decide +kernel
set_option maxRecDepth 100000 in
theorem mw_X3_init : q_mw yX3_init cX3_init 1 (Option.none : Option Jvm.ClassFile.FieldType) 0 := ⟨q_t1 161 rfl rfl, by decide +kernel, by decide +kernel, q_init_QuillRelay_Program⟩
set_option maxRecDepth 100000 in
theorem mi_X3_init : Cond.instanceMethod yX3_init ∈ q_W := q_t1 160 rfl rfl
def tb_X3_init : List q_E := [(0, .aload_n 0, 1, 0, 0), (1, .invokespecial 3, 3, 0, 0), (4, .aload_n 0, 1, 0, 0), (5, .new 9, 3, 0, 0), (8, .dup, 1, 0, 0), (9, .invokespecial 11, 3, 0, 0), (12, .putfield 12, 3, 0, 0), (15, .aload_n 0, 1, 0, 0), (16, .iconst 3, 1, 3, 0), (17, .newarray .int, 2, 0, 0), (19, .putfield 18, 3, 0, 0), (22, .aload_n 0, 1, 0, 0), (23, .getstatic 22, 3, 0, 0), (26, .putfield 28, 3, 0, 0), (29, .return_, 1, 0, 0)]
set_option maxRecDepth 100000 in
theorem tk_X3_init : q_tb cX3_init 1 tb_X3_init = true := by decide +kernel
set_option maxRecDepth 100000 in
theorem mw_X3_findError : q_mw yX3_findError cX3_findError 1 (Option.some Jvm.ClassFile.FieldType.int) 0 := ⟨q_t6 88 rfl rfl, by decide +kernel, by decide +kernel, q_init_QuillRelay_Program⟩
set_option maxRecDepth 100000 in
theorem mi_X3_findError : Cond.instanceMethod yX3_findError ∈ q_W := q_t6 86 rfl rfl
set_option maxRecDepth 100000 in
theorem me_X3_findError : Cond.selects yX3_findError.cls yX3_findError yX3_findError ∈ q_W := q_t6 87 rfl rfl
def tb_X3_findError : List q_E := [(0, .aload_n 0, 1, 0, 0), (1, .invokevirtual 31, 3, 0, 0), (4, .aload_n 0, 1, 0, 0), (5, .iconst 0, 1, 0, 0), (6, .putfield 34, 3, 0, 0), (9, .aload_n 0, 1, 0, 0), (10, .getfield 34, 3, 0, 0), (13, .aload_n 0, 1, 0, 0), (14, .getfield 12, 3, 0, 0), (17, .invokevirtual 38, 3, 0, 0), (20, .if_icmp .gt 41, 3, 0, 61), (23, .aload_n 0, 1, 0, 0), (24, .invokevirtual 42, 3, 0, 0), (27, .ifCond .ne 8, 3, 0, 35), (30, .aload_n 0, 1, 0, 0), (31, .getfield 46, 3, 0, 0), (34, .ireturn, 1, 0, 0), (35, .aload_n 0, 1, 0, 0), (36, .dup, 1, 0, 0), (37, .getfield 34, 3, 0, 0), (40, .iconst 1, 1, 1, 0), (41, .iadd, 1, 0, 0), (42, .putfield 34, 3, 0, 0), (45, .aload_n 0, 1, 0, 0), (46, .getfield 46, 3, 0, 0), (49, .aload_n 0, 1, 0, 0), (50, .getfield 12, 3, 0, 0), (53, .invokevirtual 38, 3, 0, 0), (56, .if_icmp .lt (-47), 3, 0, 9), (59, .iconst (-1), 1, (-1), 0), (60, .ireturn, 1, 0, 0), (61, .aload_n 0, 1, 0, 0), (62, .getfield 46, 3, 0, 0), (65, .ireturn, 1, 0, 0)]
set_option maxRecDepth 100000 in
theorem tk_X3_findError : q_tb cX3_findError 1 tb_X3_findError = true := by decide +kernel
set_option maxRecDepth 100000 in
theorem mw_X3_rewind : q_mw yX3_rewind cX3_rewind 1 (Option.none : Option Jvm.ClassFile.FieldType) 0 := ⟨q_t6 92 rfl rfl, by decide +kernel, by decide +kernel, q_init_QuillRelay_Program⟩
set_option maxRecDepth 100000 in
theorem mi_X3_rewind : Cond.instanceMethod yX3_rewind ∈ q_W := q_t6 90 rfl rfl
set_option maxRecDepth 100000 in
theorem me_X3_rewind : Cond.selects yX3_rewind.cls yX3_rewind yX3_rewind ∈ q_W := q_t6 91 rfl rfl
def tb_X3_rewind : List q_E := [(0, .aload_n 0, 1, 0, 0), (1, .iconst 0, 1, 0, 0), (2, .putfield 46, 3, 0, 0), (5, .return_, 1, 0, 0)]
set_option maxRecDepth 100000 in
theorem tk_X3_rewind : q_tb cX3_rewind 1 tb_X3_rewind = true := by decide +kernel
set_option maxRecDepth 100000 in
theorem mw_X3_readNext : q_mw yX3_readNext cX3_readNext 7 (Option.some Jvm.ClassFile.FieldType.boolean) 0 := ⟨q_t6 97 rfl rfl, by decide +kernel, by decide +kernel, q_init_QuillRelay_Program⟩
set_option maxRecDepth 100000 in
theorem mi_X3_readNext : Cond.instanceMethod yX3_readNext ∈ q_W := q_t6 95 rfl rfl
set_option maxRecDepth 100000 in
theorem me_X3_readNext : Cond.selects yX3_readNext.cls yX3_readNext yX3_readNext ∈ q_W := q_t6 96 rfl rfl
def tb_X3_readNext : List q_E := [(0, .aload_n 0, 1, 0, 0), (1, .getfield 46, 3, 0, 0), (4, .ifCond .le 14, 3, 0, 18), (7, .aload_n 0, 1, 0, 0), (8, .bipush 59, 2, 59, 0), (10, .invokevirtual 49, 3, 0, 0), (13, .ifCond .ne 5, 3, 0, 18), (16, .iconst 0, 1, 0, 0), (17, .ireturn, 1, 0, 0), (18, .aload_n 0, 1, 0, 0), (19, .getfield 46, 3, 0, 0), (22, .istore_n 1, 1, 0, 0), (23, .iload_n 1, 1, 0, 0), (24, .istore_n 2, 1, 0, 0), (25, .getstatic 53, 3, 0, 0), (28, .astore_n 3, 1, 0, 0), (29, .aload_n 3, 1, 0, 0), (30, .arraylength, 1, 0, 20), (31, .istore 4, 2, 0, 0), (33, .iconst 0, 1, 0, 0), (34, .istore 5, 2, 0, 0), (36, .iload 5, 2, 0, 0), (38, .iload 4, 2, 0, 0), (40, .if_icmp .ge 45, 3, 0, 85), (43, .aload_n 3, 1, 0, 0), (44, .iload 5, 2, 0, 0), (46, .aaload, 1, 0, 20), (47, .astore 6, 2, 0, 0), (49, .aload_n 0, 1, 0, 0), (50, .aload 6, 2, 0, 0), (52, .getfield 57, 3, 0, 0), (55, .iload_n 1, 1, 0, 0), (56, .invokevirtual 61, 3, 0, 0), (59, .ifCond .eq 11, 3, 0, 70), (62, .aload_n 0, 1, 0, 0), (63, .aload 6, 2, 0, 0), (65, .putfield 28, 3, 0, 0), (68, .iconst 1, 1, 1, 0), (69, .ireturn, 1, 0, 0), (70, .iload_n 2, 1, 0, 0), (71, .aload_n 0, 1, 0, 0), (72, .getfield 46, 3, 0, 0), (75, .invokestatic 65, 3, 0, 0), (78, .istore_n 2, 1, 0, 0), (79, .iinc 5 1, 3, 1, 0), (82, .goto (-46), 3, 0, 36), (85, .aload_n 0, 1, 0, 0), (86, .iload_n 2, 1, 0, 0), (87, .putfield 46, 3, 0, 0), (90, .iconst 0, 1, 0, 0), (91, .ireturn, 1, 0, 0)]
set_option maxRecDepth 100000 in
theorem tk_X3_readNext : q_tb cX3_readNext 7 tb_X3_readNext = true := by decide +kernel
set_option maxRecDepth 100000 in
theorem mw_X3_readPattern : q_mw yX3_readPattern cX3_readPattern 4 (Option.some Jvm.ClassFile.FieldType.boolean) 2 := ⟨q_t6 108 rfl rfl, by decide +kernel, by decide +kernel, q_init_QuillRelay_Program⟩
set_option maxRecDepth 100000 in
theorem mi_X3_readPattern : Cond.instanceMethod yX3_readPattern ∈ q_W := q_t6 107 rfl rfl
set_option maxRecDepth 100000 in
theorem me_X3_readPattern : Cond.selects yX3_readPattern.cls yX3_readPattern yX3_readPattern ∈ q_W := q_s 12 rfl rfl
def tb_X3_readPattern : List q_E := [(0, .aload_n 0, 1, 0, 0), (1, .iload_n 2, 1, 0, 0), (2, .putfield 46, 3, 0, 0), (5, .aload_n 0, 1, 0, 0), (6, .iconst 0, 1, 0, 0), (7, .putfield 71, 3, 0, 0), (10, .iconst 0, 1, 0, 0), (11, .istore_n 3, 1, 0, 0), (12, .iload_n 3, 1, 0, 0), (13, .aload_n 1, 1, 0, 0), (14, .invokevirtual 74, 3, 0, 0), (17, .if_icmp .ge 23, 3, 0, 40), (20, .aload_n 0, 1, 0, 0), (21, .aload_n 1, 1, 0, 0), (22, .iload_n 3, 1, 0, 0), (23, .invokevirtual 77, 3, 0, 0), (26, .invokevirtual 81, 3, 0, 0), (29, .ifCond .ne 5, 3, 0, 34), (32, .iconst 0, 1, 0, 0), (33, .ireturn, 1, 0, 0), (34, .iinc 3 1, 3, 1, 0), (37, .goto (-25), 3, 0, 12), (40, .iconst 1, 1, 1, 0), (41, .ireturn, 1, 0, 0)]
set_option maxRecDepth 100000 in
theorem tk_X3_readPattern : q_tb cX3_readPattern 4 tb_X3_readPattern = true := by decide +kernel
set_option maxRecDepth 100000 in
theorem mw_X3_readSign : q_mw yX3_readSign cX3_readSign 2 (Option.some Jvm.ClassFile.FieldType.boolean) 1 := ⟨q_t6 128 rfl rfl, by decide +kernel, by decide +kernel, q_init_QuillRelay_Program⟩
set_option maxRecDepth 100000 in
theorem mi_X3_readSign : Cond.instanceMethod yX3_readSign ∈ q_W := q_t6 127 rfl rfl
set_option maxRecDepth 100000 in
theorem me_X3_readSign : Cond.selects yX3_readSign.cls yX3_readSign yX3_readSign ∈ q_W := q_s 13 rfl rfl
def tb_X3_readSign : List q_E := [(0, .iload_n 1, 1, 0, 0), (1, .bipush 68, 2, 68, 0), (3, .if_icmp .ne 9, 3, 0, 12), (6, .aload_n 0, 1, 0, 0), (7, .iconst 1, 1, 1, 0), (8, .invokevirtual 84, 3, 0, 0), (11, .ireturn, 1, 0, 0), (12, .iload_n 1, 1, 0, 0), (13, .bipush 78, 2, 78, 0), (15, .if_icmp .ne 9, 3, 0, 24), (18, .aload_n 0, 1, 0, 0), (19, .iconst 3, 1, 3, 0), (20, .invokevirtual 84, 3, 0, 0), (23, .ireturn, 1, 0, 0), (24, .iload_n 1, 1, 0, 0), (25, .bipush 75, 2, 75, 0), (27, .if_icmp .ne 8, 3, 0, 35), (30, .aload_n 0, 1, 0, 0), (31, .invokevirtual 88, 3, 0, 0), (34, .ireturn, 1, 0, 0), (35, .aload_n 0, 1, 0, 0), (36, .iload_n 1, 1, 0, 0), (37, .invokevirtual 49, 3, 0, 0), (40, .ireturn, 1, 0, 0)]
set_option maxRecDepth 100000 in
theorem tk_X3_readSign : q_tb cX3_readSign 2 tb_X3_readSign = true := by decide +kernel
set_option maxRecDepth 100000 in
theorem mw_X3_readCharacter : q_mw yX3_readCharacter cX3_readCharacter 2 (Option.some Jvm.ClassFile.FieldType.boolean) 1 := ⟨q_t6 101 rfl rfl, by decide +kernel, by decide +kernel, q_init_QuillRelay_Program⟩
set_option maxRecDepth 100000 in
theorem mi_X3_readCharacter : Cond.instanceMethod yX3_readCharacter ∈ q_W := q_t6 100 rfl rfl
set_option maxRecDepth 100000 in
theorem me_X3_readCharacter : Cond.selects yX3_readCharacter.cls yX3_readCharacter yX3_readCharacter ∈ q_W := q_s 11 rfl rfl
def tb_X3_readCharacter : List q_E := [(0, .aload_n 0, 1, 0, 0), (1, .getfield 46, 3, 0, 0), (4, .aload_n 0, 1, 0, 0), (5, .getfield 12, 3, 0, 0), (8, .invokevirtual 38, 3, 0, 0), (11, .if_icmp .ge 30, 3, 0, 41), (14, .aload_n 0, 1, 0, 0), (15, .getfield 12, 3, 0, 0), (18, .aload_n 0, 1, 0, 0), (19, .getfield 46, 3, 0, 0), (22, .invokevirtual 91, 3, 0, 0), (25, .iload_n 1, 1, 0, 0), (26, .if_icmp .ne 15, 3, 0, 41), (29, .aload_n 0, 1, 0, 0), (30, .dup, 1, 0, 0), (31, .getfield 46, 3, 0, 0), (34, .iconst 1, 1, 1, 0), (35, .iadd, 1, 0, 0), (36, .putfield 46, 3, 0, 0), (39, .iconst 1, 1, 1, 0), (40, .ireturn, 1, 0, 0), (41, .iconst 0, 1, 0, 0), (42, .ireturn, 1, 0, 0)]
set_option maxRecDepth 100000 in
theorem tk_X3_readCharacter : q_tb cX3_readCharacter 2 tb_X3_readCharacter = true := by decide +kernel
set_option maxRecDepth 100000 in
theorem mw_X3_readDigits : q_mw yX3_readDigits cX3_readDigits 4 (Option.some Jvm.ClassFile.FieldType.boolean) 1 := ⟨q_t6 132 rfl rfl, by decide +kernel, by decide +kernel, q_init_QuillRelay_Program⟩
set_option maxRecDepth 100000 in
theorem mi_X3_readDigits : Cond.instanceMethod yX3_readDigits ∈ q_W := q_t6 131 rfl rfl
set_option maxRecDepth 100000 in
theorem me_X3_readDigits : Cond.selects yX3_readDigits.cls yX3_readDigits yX3_readDigits ∈ q_W := q_s 14 rfl rfl
def tb_X3_readDigits : List q_E := [(0, .aload_n 0, 1, 0, 0), (1, .getfield 46, 3, 0, 0), (4, .istore_n 2, 1, 0, 0), (5, .iconst 0, 1, 0, 0), (6, .istore_n 3, 1, 0, 0), (7, .aload_n 0, 1, 0, 0), (8, .getfield 46, 3, 0, 0), (11, .iload_n 2, 1, 0, 0), (12, .isub, 1, 0, 0), (13, .iload_n 1, 1, 0, 0), (14, .if_icmp .ge 67, 3, 0, 81), (17, .aload_n 0, 1, 0, 0), (18, .getfield 46, 3, 0, 0), (21, .aload_n 0, 1, 0, 0), (22, .getfield 12, 3, 0, 0), (25, .invokevirtual 38, 3, 0, 0), (28, .if_icmp .ge 53, 3, 0, 81), (31, .aload_n 0, 1, 0, 0), (32, .getfield 12, 3, 0, 0), (35, .aload_n 0, 1, 0, 0), (36, .getfield 46, 3, 0, 0), (39, .invokevirtual 91, 3, 0, 0), (42, .invokestatic 92, 3, 0, 0), (45, .ifCond .eq 36, 3, 0, 81), (48, .bipush 10, 2, 10, 0), (50, .iload_n 3, 1, 0, 0), (51, .imul, 1, 0, 0), (52, .aload_n 0, 1, 0, 0), (53, .getfield 12, 3, 0, 0), (56, .aload_n 0, 1, 0, 0), (57, .getfield 46, 3, 0, 0), (60, .invokevirtual 91, 3, 0, 0), (63, .bipush 48, 2, 48, 0), (65, .isub, 1, 0, 0), (66, .iadd, 1, 0, 0), (67, .istore_n 3, 1, 0, 0), (68, .aload_n 0, 1, 0, 0), (69, .dup, 1, 0, 0), (70, .getfield 46, 3, 0, 0), (73, .iconst 1, 1, 1, 0), (74, .iadd, 1, 0, 0), (75, .putfield 46, 3, 0, 0), (78, .goto (-71), 3, 0, 7), (81, .aload_n 0, 1, 0, 0), (82, .iload_n 3, 1, 0, 0), (83, .invokevirtual 95, 3, 0, 0), (86, .aload_n 0, 1, 0, 0), (87, .getfield 46, 3, 0, 0), (90, .iload_n 2, 1, 0, 0), (91, .if_icmp .le 7, 3, 0, 98), (94, .iconst 1, 1, 1, 0), (95, .goto 4, 3, 0, 99), (98, .iconst 0, 1, 0, 0), (99, .ireturn, 1, 0, 0)]
set_option maxRecDepth 100000 in
theorem tk_X3_readDigits : q_tb cX3_readDigits 4 tb_X3_readDigits = true := by decide +kernel
set_option maxRecDepth 100000 in
theorem mw_X3_isDigit : q_mw yX3_isDigit cX3_isDigit 1 (Option.some Jvm.ClassFile.FieldType.boolean) 1 := ⟨q_t6 135 rfl rfl, by decide +kernel, by decide +kernel, q_init_QuillRelay_Program⟩
set_option maxRecDepth 100000 in
theorem ms_X3_isDigit : Cond.static yX3_isDigit ∈ q_W := q_t6 134 rfl rfl
def tb_X3_isDigit : List q_E := [(0, .iload_n 0, 1, 0, 0), (1, .bipush 48, 2, 48, 0), (3, .if_icmp .lt 13, 3, 0, 16), (6, .iload_n 0, 1, 0, 0), (7, .bipush 57, 2, 57, 0), (9, .if_icmp .gt 7, 3, 0, 16), (12, .iconst 1, 1, 1, 0), (13, .goto 4, 3, 0, 17), (16, .iconst 0, 1, 0, 0), (17, .ireturn, 1, 0, 0)]
set_option maxRecDepth 100000 in
theorem tk_X3_isDigit : q_tb cX3_isDigit 1 tb_X3_isDigit = true := by decide +kernel
set_option maxRecDepth 100000 in
theorem mw_X3_readKind : q_mw yX3_readKind cX3_readKind 1 (Option.some Jvm.ClassFile.FieldType.boolean) 0 := ⟨q_t6 143 rfl rfl, by decide +kernel, by decide +kernel, q_init_QuillRelay_Program⟩
set_option maxRecDepth 100000 in
theorem mi_X3_readKind : Cond.instanceMethod yX3_readKind ∈ q_W := q_t6 142 rfl rfl
set_option maxRecDepth 100000 in
theorem me_X3_readKind : Cond.selects yX3_readKind.cls yX3_readKind yX3_readKind ∈ q_W := q_s 16 rfl rfl
def tb_X3_readKind : List q_E := [(0, .aload_n 0, 1, 0, 0), (1, .bipush 108, 2, 108, 0), (3, .invokevirtual 49, 3, 0, 0), (6, .ifCond .eq 10, 3, 0, 16), (9, .aload_n 0, 1, 0, 0), (10, .iconst 0, 1, 0, 0), (11, .invokevirtual 95, 3, 0, 0), (14, .iconst 1, 1, 1, 0), (15, .ireturn, 1, 0, 0), (16, .aload_n 0, 1, 0, 0), (17, .iconst 1, 1, 1, 0), (18, .invokevirtual 95, 3, 0, 0), (21, .aload_n 0, 1, 0, 0), (22, .bipush 100, 2, 100, 0), (24, .invokevirtual 49, 3, 0, 0), (27, .ireturn, 1, 0, 0)]
set_option maxRecDepth 100000 in
theorem tk_X3_readKind : q_tb cX3_readKind 1 tb_X3_readKind = true := by decide +kernel
set_option maxRecDepth 100000 in
theorem mw_X3_addArgument : q_mw yX3_addArgument cX3_addArgument 2 (Option.none : Option Jvm.ClassFile.FieldType) 1 := ⟨q_t6 139 rfl rfl, by decide +kernel, by decide +kernel, q_init_QuillRelay_Program⟩
set_option maxRecDepth 100000 in
theorem mi_X3_addArgument : Cond.instanceMethod yX3_addArgument ∈ q_W := q_t6 138 rfl rfl
set_option maxRecDepth 100000 in
theorem me_X3_addArgument : Cond.selects yX3_addArgument.cls yX3_addArgument yX3_addArgument ∈ q_W := q_s 15 rfl rfl
def tb_X3_addArgument : List q_E := [(0, .aload_n 0, 1, 0, 0), (1, .getfield 71, 3, 0, 0), (4, .ifCond .lt 35, 3, 0, 39), (7, .aload_n 0, 1, 0, 0), (8, .getfield 71, 3, 0, 0), (11, .aload_n 0, 1, 0, 0), (12, .getfield 18, 3, 0, 0), (15, .arraylength, 1, 0, 20), (16, .if_icmp .ge 23, 3, 0, 39), (19, .aload_n 0, 1, 0, 0), (20, .getfield 18, 3, 0, 0), (23, .aload_n 0, 1, 0, 0), (24, .getfield 71, 3, 0, 0), (27, .iload_n 1, 1, 0, 0), (28, .iastore, 1, 0, 0), (29, .aload_n 0, 1, 0, 0), (30, .dup, 1, 0, 0), (31, .getfield 71, 3, 0, 0), (34, .iconst 1, 1, 1, 0), (35, .iadd, 1, 0, 0), (36, .putfield 71, 3, 0, 0), (39, .return_, 1, 0, 0)]
set_option maxRecDepth 100000 in
theorem tk_X3_addArgument : q_tb cX3_addArgument 2 tb_X3_addArgument = true := by decide +kernel
set_option maxRecDepth 100000 in
theorem mw_X4_init : q_mw yX4_init cX4_init 2 (Option.none : Option Jvm.ClassFile.FieldType) 0 := ⟨q_t1 47 rfl rfl, by decide +kernel, by decide +kernel, q_init_QuillRelay_Race⟩
set_option maxRecDepth 100000 in
theorem mi_X4_init : Cond.instanceMethod yX4_init ∈ q_W := q_t1 46 rfl rfl
def tb_X4_init : List q_E := [(0, .aload_n 0, 1, 0, 0), (1, .invokespecial 3, 3, 0, 0), (4, .aload_n 0, 1, 0, 0), (5, .bipush 6, 2, 6, 0), (7, .anewarray 9, 3, 0, 0), (10, .putfield 11, 3, 0, 0), (13, .iconst 0, 1, 0, 0), (14, .istore_n 1, 1, 0, 0), (15, .iload_n 1, 1, 0, 0), (16, .aload_n 0, 1, 0, 0), (17, .getfield 11, 3, 0, 0), (20, .arraylength, 1, 0, 30), (21, .if_icmp .ge 23, 3, 0, 44), (24, .aload_n 0, 1, 0, 0), (25, .getfield 11, 3, 0, 0), (28, .iload_n 1, 1, 0, 0), (29, .new 9, 3, 0, 0), (32, .dup, 1, 0, 0), (33, .iload_n 1, 1, 0, 0), (34, .invokespecial 17, 3, 0, 0), (37, .aastore, 1, 0, 0), (38, .iinc 1 1, 3, 1, 0), (41, .goto (-26), 3, 0, 15), (44, .aload_n 0, 1, 0, 0), (45, .sipush 1000, 3, 1000, 0), (48, .putfield 20, 3, 0, 0), (51, .return_, 1, 0, 0)]
set_option maxRecDepth 100000 in
theorem tk_X4_init : q_tb cX4_init 2 tb_X4_init = true := by decide +kernel
set_option maxRecDepth 100000 in
theorem mw_X4_copyFrom : q_mw yX4_copyFrom cX4_copyFrom 3 (Option.none : Option Jvm.ClassFile.FieldType) 1 := ⟨q_t2 63 rfl rfl, by decide +kernel, by decide +kernel, q_init_QuillRelay_Race⟩
set_option maxRecDepth 100000 in
theorem mi_X4_copyFrom : Cond.instanceMethod yX4_copyFrom ∈ q_W := q_t2 61 rfl rfl
set_option maxRecDepth 100000 in
theorem me_X4_copyFrom : Cond.selects yX4_copyFrom.cls yX4_copyFrom yX4_copyFrom ∈ q_W := q_t2 62 rfl rfl
def tb_X4_copyFrom : List q_E := [(0, .iconst 0, 1, 0, 0), (1, .istore_n 2, 1, 0, 0), (2, .iload_n 2, 1, 0, 0), (3, .aload_n 0, 1, 0, 0), (4, .getfield 11, 3, 0, 0), (7, .arraylength, 1, 0, 30), (8, .if_icmp .ge 33, 3, 0, 41), (11, .iload_n 2, 1, 0, 0), (12, .aload_n 1, 1, 0, 0), (13, .getfield 11, 3, 0, 0), (16, .arraylength, 1, 0, 30), (17, .if_icmp .ge 24, 3, 0, 41), (20, .aload_n 0, 1, 0, 0), (21, .getfield 11, 3, 0, 0), (24, .iload_n 2, 1, 0, 0), (25, .aaload, 1, 0, 30), (26, .aload_n 1, 1, 0, 0), (27, .getfield 11, 3, 0, 0), (30, .iload_n 2, 1, 0, 0), (31, .aaload, 1, 0, 30), (32, .invokevirtual 24, 3, 0, 0), (35, .iinc 2 1, 3, 1, 0), (38, .goto (-36), 3, 0, 2), (41, .aload_n 0, 1, 0, 0), (42, .aload_n 1, 1, 0, 0), (43, .getfield 28, 3, 0, 0), (46, .putfield 28, 3, 0, 0), (49, .aload_n 0, 1, 0, 0), (50, .aload_n 1, 1, 0, 0), (51, .getfield 32, 3, 0, 0), (54, .putfield 32, 3, 0, 0), (57, .aload_n 0, 1, 0, 0), (58, .aload_n 1, 1, 0, 0), (59, .getfield 20, 3, 0, 0), (62, .putfield 20, 3, 0, 0), (65, .return_, 1, 0, 0)]
set_option maxRecDepth 100000 in
theorem tk_X4_copyFrom : q_tb cX4_copyFrom 3 tb_X4_copyFrom = true := by decide +kernel
set_option maxRecDepth 100000 in
theorem mw_X4_find : q_mw yX4_find cX4_find 3 (Option.some (Jvm.ClassFile.FieldType.object "QuillRelay$Team")) 1 := ⟨q_t3 31 rfl rfl, by decide +kernel, by decide +kernel, q_init_QuillRelay_Race⟩
set_option maxRecDepth 100000 in
theorem mi_X4_find : Cond.instanceMethod yX4_find ∈ q_W := q_t3 29 rfl rfl
set_option maxRecDepth 100000 in
theorem me_X4_find : Cond.selects yX4_find.cls yX4_find yX4_find ∈ q_W := q_t3 30 rfl rfl
def tb_X4_find : List q_E := [(0, .iload_n 1, 1, 0, 0), (1, .ifCond .lt 12, 3, 0, 13), (4, .iload_n 1, 1, 0, 0), (5, .aload_n 0, 1, 0, 0), (6, .getfield 11, 3, 0, 0), (9, .arraylength, 1, 0, 30), (10, .if_icmp .lt 5, 3, 0, 15), (13, .aconst_null, 1, 0, 0), (14, .areturn, 1, 0, 0), (15, .aload_n 0, 1, 0, 0), (16, .getfield 11, 3, 0, 0), (19, .iload_n 1, 1, 0, 0), (20, .aaload, 1, 0, 30), (21, .astore_n 2, 1, 0, 0), (22, .aload_n 2, 1, 0, 0), (23, .getfield 35, 3, 0, 0), (26, .getstatic 39, 3, 0, 0), (29, .if_acmp .ne 7, 3, 0, 36), (32, .aconst_null, 1, 0, 0), (33, .goto 4, 3, 0, 37), (36, .aload_n 2, 1, 0, 0), (37, .areturn, 1, 0, 0)]
set_option maxRecDepth 100000 in
theorem tk_X4_find : q_tb cX4_find 3 tb_X4_find = true := by decide +kernel
set_option maxRecDepth 100000 in
theorem mw_X4_countEntered : q_mw yX4_countEntered cX4_countEntered 1 (Option.some Jvm.ClassFile.FieldType.int) 0 := ⟨q_t2 24 rfl rfl, by decide +kernel, by decide +kernel, q_init_QuillRelay_Race⟩
set_option maxRecDepth 100000 in
theorem mi_X4_countEntered : Cond.instanceMethod yX4_countEntered ∈ q_W := q_t2 22 rfl rfl
set_option maxRecDepth 100000 in
theorem me_X4_countEntered : Cond.selects yX4_countEntered.cls yX4_countEntered yX4_countEntered ∈ q_W := q_t2 23 rfl rfl
def tb_X4_countEntered : List q_E := [(0, .aload_n 0, 1, 0, 0), (1, .getfield 11, 3, 0, 0), (4, .arraylength, 1, 0, 30), (5, .aload_n 0, 1, 0, 0), (6, .getstatic 39, 3, 0, 0), (9, .invokevirtual 44, 3, 0, 0), (12, .isub, 1, 0, 0), (13, .ireturn, 1, 0, 0)]
set_option maxRecDepth 100000 in
theorem tk_X4_countEntered : q_tb cX4_countEntered 1 tb_X4_countEntered = true := by decide +kernel
set_option maxRecDepth 100000 in
theorem mw_X4_countRunning : q_mw yX4_countRunning cX4_countRunning 1 (Option.some Jvm.ClassFile.FieldType.int) 0 := ⟨q_t2 37 rfl rfl, by decide +kernel, by decide +kernel, q_init_QuillRelay_Race⟩
set_option maxRecDepth 100000 in
theorem mi_X4_countRunning : Cond.instanceMethod yX4_countRunning ∈ q_W := q_t2 35 rfl rfl
set_option maxRecDepth 100000 in
theorem me_X4_countRunning : Cond.selects yX4_countRunning.cls yX4_countRunning yX4_countRunning ∈ q_W := q_t2 36 rfl rfl
def tb_X4_countRunning : List q_E := [(0, .aload_n 0, 1, 0, 0), (1, .getstatic 48, 3, 0, 0), (4, .invokevirtual 44, 3, 0, 0), (7, .ireturn, 1, 0, 0)]
set_option maxRecDepth 100000 in
theorem tk_X4_countRunning : q_tb cX4_countRunning 1 tb_X4_countRunning = true := by decide +kernel
set_option maxRecDepth 100000 in
theorem mw_X4_countFinished : q_mw yX4_countFinished cX4_countFinished 1 (Option.some Jvm.ClassFile.FieldType.int) 0 := ⟨q_t4 185 rfl rfl, by decide +kernel, by decide +kernel, q_init_QuillRelay_Race⟩
set_option maxRecDepth 100000 in
theorem mi_X4_countFinished : Cond.instanceMethod yX4_countFinished ∈ q_W := q_t4 183 rfl rfl
set_option maxRecDepth 100000 in
theorem me_X4_countFinished : Cond.selects yX4_countFinished.cls yX4_countFinished yX4_countFinished ∈ q_W := q_t4 184 rfl rfl
def tb_X4_countFinished : List q_E := [(0, .aload_n 0, 1, 0, 0), (1, .getstatic 51, 3, 0, 0), (4, .invokevirtual 44, 3, 0, 0), (7, .ireturn, 1, 0, 0)]
set_option maxRecDepth 100000 in
theorem tk_X4_countFinished : q_tb cX4_countFinished 1 tb_X4_countFinished = true := by decide +kernel
set_option maxRecDepth 100000 in
theorem mw_X4_countIn : q_mw yX4_countIn cX4_countIn 7 (Option.some Jvm.ClassFile.FieldType.int) 1 := ⟨q_t2 29 rfl rfl, by decide +kernel, by decide +kernel, q_init_QuillRelay_Race⟩
set_option maxRecDepth 100000 in
theorem mi_X4_countIn : Cond.instanceMethod yX4_countIn ∈ q_W := q_t2 28 rfl rfl
set_option maxRecDepth 100000 in
theorem me_X4_countIn : Cond.selects yX4_countIn.cls yX4_countIn yX4_countIn ∈ q_W := q_s 0 rfl rfl
def tb_X4_countIn : List q_E := [(0, .iconst 0, 1, 0, 0), (1, .istore_n 2, 1, 0, 0), (2, .aload_n 0, 1, 0, 0), (3, .getfield 11, 3, 0, 0), (6, .astore_n 3, 1, 0, 0), (7, .aload_n 3, 1, 0, 0), (8, .arraylength, 1, 0, 30), (9, .istore 4, 2, 0, 0), (11, .iconst 0, 1, 0, 0), (12, .istore 5, 2, 0, 0), (14, .iload 5, 2, 0, 0), (16, .iload 4, 2, 0, 0), (18, .if_icmp .ge 27, 3, 0, 45), (21, .aload_n 3, 1, 0, 0), (22, .iload 5, 2, 0, 0), (24, .aaload, 1, 0, 30), (25, .astore 6, 2, 0, 0), (27, .aload 6, 2, 0, 0), (29, .getfield 35, 3, 0, 0), (32, .aload_n 1, 1, 0, 0), (33, .if_acmp .ne 6, 3, 0, 39), (36, .iinc 2 1, 3, 1, 0), (39, .iinc 5 1, 3, 1, 0), (42, .goto (-28), 3, 0, 14), (45, .iload_n 2, 1, 0, 0), (46, .ireturn, 1, 0, 0)]
set_option maxRecDepth 100000 in
theorem tk_X4_countIn : q_tb cX4_countIn 7 tb_X4_countIn = true := by decide +kernel
set_option maxRecDepth 100000 in
theorem mw_X4_sumOfTimes : q_mw yX4_sumOfTimes cX4_sumOfTimes 6 (Option.some Jvm.ClassFile.FieldType.int) 0 := ⟨q_t4 193 rfl rfl, by decide +kernel, by decide +kernel, q_init_QuillRelay_Race⟩
set_option maxRecDepth 100000 in
theorem mi_X4_sumOfTimes : Cond.instanceMethod yX4_sumOfTimes ∈ q_W := q_t4 191 rfl rfl
set_option maxRecDepth 100000 in
theorem me_X4_sumOfTimes : Cond.selects yX4_sumOfTimes.cls yX4_sumOfTimes yX4_sumOfTimes ∈ q_W := q_t4 192 rfl rfl
def tb_X4_sumOfTimes : List q_E := [(0, .iconst 0, 1, 0, 0), (1, .istore_n 1, 1, 0, 0), (2, .aload_n 0, 1, 0, 0), (3, .getfield 11, 3, 0, 0), (6, .astore_n 2, 1, 0, 0), (7, .aload_n 2, 1, 0, 0), (8, .arraylength, 1, 0, 30), (9, .istore_n 3, 1, 0, 0), (10, .iconst 0, 1, 0, 0), (11, .istore 4, 2, 0, 0), (13, .iload 4, 2, 0, 0), (15, .iload_n 3, 1, 0, 0), (16, .if_icmp .ge 34, 3, 0, 50), (19, .aload_n 2, 1, 0, 0), (20, .iload 4, 2, 0, 0), (22, .aaload, 1, 0, 30), (23, .astore 5, 2, 0, 0), (25, .aload 5, 2, 0, 0), (27, .getfield 35, 3, 0, 0), (30, .getstatic 51, 3, 0, 0), (33, .if_acmp .ne 11, 3, 0, 44), (36, .iload_n 1, 1, 0, 0), (37, .aload 5, 2, 0, 0), (39, .getfield 54, 3, 0, 0), (42, .iadd, 1, 0, 0), (43, .istore_n 1, 1, 0, 0), (44, .iinc 4 1, 3, 1, 0), (47, .goto (-34), 3, 0, 13), (50, .iload_n 1, 1, 0, 0), (51, .ireturn, 1, 0, 0)]
set_option maxRecDepth 100000 in
theorem tk_X4_sumOfTimes : q_tb cX4_sumOfTimes 6 tb_X4_sumOfTimes = true := by decide +kernel
set_option maxRecDepth 100000 in
theorem mw_X4_numberInLane : q_mw yX4_numberInLane cX4_numberInLane 6 (Option.some Jvm.ClassFile.FieldType.int) 1 := ⟨q_t4 2 rfl rfl, by decide +kernel, by decide +kernel, q_init_QuillRelay_Race⟩
set_option maxRecDepth 100000 in
theorem mi_X4_numberInLane : Cond.instanceMethod yX4_numberInLane ∈ q_W := q_t4 0 rfl rfl
set_option maxRecDepth 100000 in
theorem me_X4_numberInLane : Cond.selects yX4_numberInLane.cls yX4_numberInLane yX4_numberInLane ∈ q_W := q_t4 1 rfl rfl
def tb_X4_numberInLane : List q_E := [(0, .aload_n 0, 1, 0, 0), (1, .getfield 11, 3, 0, 0), (4, .astore_n 2, 1, 0, 0), (5, .aload_n 2, 1, 0, 0), (6, .arraylength, 1, 0, 30), (7, .istore_n 3, 1, 0, 0), (8, .iconst 0, 1, 0, 0), (9, .istore 4, 2, 0, 0), (11, .iload 4, 2, 0, 0), (13, .iload_n 3, 1, 0, 0), (14, .if_icmp .ge 41, 3, 0, 55), (17, .aload_n 2, 1, 0, 0), (18, .iload 4, 2, 0, 0), (20, .aaload, 1, 0, 30), (21, .astore 5, 2, 0, 0), (23, .aload 5, 2, 0, 0), (25, .getfield 35, 3, 0, 0), (28, .getstatic 39, 3, 0, 0), (31, .if_acmp .eq 18, 3, 0, 49), (34, .aload 5, 2, 0, 0), (36, .getfield 57, 3, 0, 0), (39, .iload_n 1, 1, 0, 0), (40, .if_icmp .ne 9, 3, 0, 49), (43, .aload 5, 2, 0, 0), (45, .getfield 60, 3, 0, 0), (48, .ireturn, 1, 0, 0), (49, .iinc 4 1, 3, 1, 0), (52, .goto (-41), 3, 0, 11), (55, .iconst (-1), 1, (-1), 0), (56, .ireturn, 1, 0, 0)]
set_option maxRecDepth 100000 in
theorem tk_X4_numberInLane : q_tb cX4_numberInLane 6 tb_X4_numberInLane = true := by decide +kernel
set_option maxRecDepth 100000 in
theorem mw_X4_numberAtRank : q_mw yX4_numberAtRank cX4_numberAtRank 6 (Option.some Jvm.ClassFile.FieldType.int) 1 := ⟨q_t4 142 rfl rfl, by decide +kernel, by decide +kernel, q_init_QuillRelay_Race⟩
set_option maxRecDepth 100000 in
theorem mi_X4_numberAtRank : Cond.instanceMethod yX4_numberAtRank ∈ q_W := q_t4 140 rfl rfl
set_option maxRecDepth 100000 in
theorem me_X4_numberAtRank : Cond.selects yX4_numberAtRank.cls yX4_numberAtRank yX4_numberAtRank ∈ q_W := q_t4 141 rfl rfl
def tb_X4_numberAtRank : List q_E := [(0, .aload_n 0, 1, 0, 0), (1, .getfield 11, 3, 0, 0), (4, .astore_n 2, 1, 0, 0), (5, .aload_n 2, 1, 0, 0), (6, .arraylength, 1, 0, 30), (7, .istore_n 3, 1, 0, 0), (8, .iconst 0, 1, 0, 0), (9, .istore 4, 2, 0, 0), (11, .iload 4, 2, 0, 0), (13, .iload_n 3, 1, 0, 0), (14, .if_icmp .ge 42, 3, 0, 56), (17, .aload_n 2, 1, 0, 0), (18, .iload 4, 2, 0, 0), (20, .aaload, 1, 0, 30), (21, .astore 5, 2, 0, 0), (23, .aload 5, 2, 0, 0), (25, .getfield 35, 3, 0, 0), (28, .getstatic 39, 3, 0, 0), (31, .if_acmp .eq 19, 3, 0, 50), (34, .aload_n 0, 1, 0, 0), (35, .aload 5, 2, 0, 0), (37, .invokevirtual 63, 3, 0, 0), (40, .iload_n 1, 1, 0, 0), (41, .if_icmp .ne 9, 3, 0, 50), (44, .aload 5, 2, 0, 0), (46, .getfield 60, 3, 0, 0), (49, .ireturn, 1, 0, 0), (50, .iinc 4 1, 3, 1, 0), (53, .goto (-42), 3, 0, 11), (56, .iconst (-1), 1, (-1), 0), (57, .ireturn, 1, 0, 0)]
set_option maxRecDepth 100000 in
theorem tk_X4_numberAtRank : q_tb cX4_numberAtRank 6 tb_X4_numberAtRank = true := by decide +kernel
set_option maxRecDepth 100000 in
theorem mw_X4_countAhead : q_mw yX4_countAhead cX4_countAhead 7 (Option.some Jvm.ClassFile.FieldType.int) 1 := ⟨q_t4 146 rfl rfl, by decide +kernel, by decide +kernel, q_init_QuillRelay_Race⟩
set_option maxRecDepth 100000 in
theorem mi_X4_countAhead : Cond.instanceMethod yX4_countAhead ∈ q_W := q_t4 144 rfl rfl
set_option maxRecDepth 100000 in
theorem me_X4_countAhead : Cond.selects yX4_countAhead.cls yX4_countAhead yX4_countAhead ∈ q_W := q_t4 145 rfl rfl
def tb_X4_countAhead : List q_E := [(0, .iconst 0, 1, 0, 0), (1, .istore_n 2, 1, 0, 0), (2, .aload_n 0, 1, 0, 0), (3, .getfield 11, 3, 0, 0), (6, .astore_n 3, 1, 0, 0), (7, .aload_n 3, 1, 0, 0), (8, .arraylength, 1, 0, 30), (9, .istore 4, 2, 0, 0), (11, .iconst 0, 1, 0, 0), (12, .istore 5, 2, 0, 0), (14, .iload 5, 2, 0, 0), (16, .iload 4, 2, 0, 0), (18, .if_icmp .ge 38, 3, 0, 56), (21, .aload_n 3, 1, 0, 0), (22, .iload 5, 2, 0, 0), (24, .aaload, 1, 0, 30), (25, .astore 6, 2, 0, 0), (27, .aload 6, 2, 0, 0), (29, .getfield 35, 3, 0, 0), (32, .getstatic 39, 3, 0, 0), (35, .if_acmp .eq 15, 3, 0, 50), (38, .aload 6, 2, 0, 0), (40, .aload_n 1, 1, 0, 0), (41, .invokevirtual 67, 3, 0, 0), (44, .ifCond .eq 6, 3, 0, 50), (47, .iinc 2 1, 3, 1, 0), (50, .iinc 5 1, 3, 1, 0), (53, .goto (-39), 3, 0, 14), (56, .iload_n 2, 1, 0, 0), (57, .ireturn, 1, 0, 0)]
set_option maxRecDepth 100000 in
theorem tk_X4_countAhead : q_tb cX4_countAhead 7 tb_X4_countAhead = true := by decide +kernel
set_option maxRecDepth 100000 in
theorem mw_X4_faultOfEntering : q_mw yX4_faultOfEntering cX4_faultOfEntering 1 (Option.some (Jvm.ClassFile.FieldType.object "QuillRelay$Fault")) 0 := ⟨q_t2 85 rfl rfl, by decide +kernel, by decide +kernel, q_init_QuillRelay_Race⟩
set_option maxRecDepth 100000 in
theorem mi_X4_faultOfEntering : Cond.instanceMethod yX4_faultOfEntering ∈ q_W := q_t2 83 rfl rfl
set_option maxRecDepth 100000 in
theorem me_X4_faultOfEntering : Cond.selects yX4_faultOfEntering.cls yX4_faultOfEntering yX4_faultOfEntering ∈ q_W := q_t2 84 rfl rfl
def tb_X4_faultOfEntering : List q_E := [(0, .aload_n 0, 1, 0, 0), (1, .getfield 28, 3, 0, 0), (4, .ifCond .ne 15, 3, 0, 19), (7, .aload_n 0, 1, 0, 0), (8, .invokevirtual 71, 3, 0, 0), (11, .aload_n 0, 1, 0, 0), (12, .getfield 11, 3, 0, 0), (15, .arraylength, 1, 0, 30), (16, .if_icmp .lt 9, 3, 0, 25), (19, .getstatic 75, 3, 0, 0), (22, .goto 6, 3, 0, 28), (25, .getstatic 81, 3, 0, 0), (28, .areturn, 1, 0, 0)]
set_option maxRecDepth 100000 in
theorem tk_X4_faultOfEntering : q_tb cX4_faultOfEntering 1 tb_X4_faultOfEntering = true := by decide +kernel
set_option maxRecDepth 100000 in
theorem mw_X4_faultOfSpeed : q_mw yX4_faultOfSpeed cX4_faultOfSpeed 4 (Option.some (Jvm.ClassFile.FieldType.object "QuillRelay$Fault")) 3 := ⟨q_t3 27 rfl rfl, by decide +kernel, by decide +kernel, q_init_QuillRelay_Race⟩
set_option maxRecDepth 100000 in
theorem mi_X4_faultOfSpeed : Cond.instanceMethod yX4_faultOfSpeed ∈ q_W := q_t3 25 rfl rfl
set_option maxRecDepth 100000 in
theorem me_X4_faultOfSpeed : Cond.selects yX4_faultOfSpeed.cls yX4_faultOfSpeed yX4_faultOfSpeed ∈ q_W := q_t3 26 rfl rfl
def tb_X4_faultOfSpeed : List q_E := [(0, .aload_n 0, 1, 0, 0), (1, .iload_n 1, 1, 0, 0), (2, .invokevirtual 84, 3, 0, 0), (5, .ifnull 10, 3, 0, 15), (8, .iload_n 2, 1, 0, 0), (9, .invokestatic 88, 3, 0, 0), (12, .ifCond .ne 7, 3, 0, 19), (15, .getstatic 92, 3, 0, 0), (18, .areturn, 1, 0, 0), (19, .iload_n 3, 1, 0, 0), (20, .bipush 20, 2, 20, 0), (22, .if_icmp .lt 9, 3, 0, 31), (25, .iload_n 3, 1, 0, 0), (26, .bipush 99, 2, 99, 0), (28, .if_icmp .le 7, 3, 0, 35), (31, .getstatic 95, 3, 0, 0), (34, .areturn, 1, 0, 0), (35, .aload_n 0, 1, 0, 0), (36, .getfield 28, 3, 0, 0), (39, .ifCond .eq 9, 3, 0, 48), (42, .getstatic 75, 3, 0, 0), (45, .goto 6, 3, 0, 51), (48, .getstatic 81, 3, 0, 0), (51, .areturn, 1, 0, 0)]
set_option maxRecDepth 100000 in
theorem tk_X4_faultOfSpeed : q_tb cX4_faultOfSpeed 4 tb_X4_faultOfSpeed = true := by decide +kernel
set_option maxRecDepth 100000 in
theorem mw_X4_faultOfLength : q_mw yX4_faultOfLength cX4_faultOfLength 2 (Option.some (Jvm.ClassFile.FieldType.object "QuillRelay$Fault")) 1 := ⟨q_t3 61 rfl rfl, by decide +kernel, by decide +kernel, q_init_QuillRelay_Race⟩
set_option maxRecDepth 100000 in
theorem mi_X4_faultOfLength : Cond.instanceMethod yX4_faultOfLength ∈ q_W := q_t3 59 rfl rfl
set_option maxRecDepth 100000 in
theorem me_X4_faultOfLength : Cond.selects yX4_faultOfLength.cls yX4_faultOfLength yX4_faultOfLength ∈ q_W := q_t3 60 rfl rfl
def tb_X4_faultOfLength : List q_E := [(0, .iload_n 1, 1, 0, 0), (1, .sipush 400, 3, 400, 0), (4, .if_icmp .lt 10, 3, 0, 14), (7, .iload_n 1, 1, 0, 0), (8, .sipush 4000, 3, 4000, 0), (11, .if_icmp .le 7, 3, 0, 18), (14, .getstatic 95, 3, 0, 0), (17, .areturn, 1, 0, 0), (18, .aload_n 0, 1, 0, 0), (19, .getfield 28, 3, 0, 0), (22, .ifCond .eq 9, 3, 0, 31), (25, .getstatic 75, 3, 0, 0), (28, .goto 6, 3, 0, 34), (31, .getstatic 81, 3, 0, 0), (34, .areturn, 1, 0, 0)]
set_option maxRecDepth 100000 in
theorem tk_X4_faultOfLength : q_tb cX4_faultOfLength 2 tb_X4_faultOfLength = true := by decide +kernel
set_option maxRecDepth 100000 in
theorem mw_X4_faultOfDrawing : q_mw yX4_faultOfDrawing cX4_faultOfDrawing 2 (Option.some (Jvm.ClassFile.FieldType.object "QuillRelay$Fault")) 1 := ⟨q_t3 72 rfl rfl, by decide +kernel, by decide +kernel, q_init_QuillRelay_Race⟩
set_option maxRecDepth 100000 in
theorem mi_X4_faultOfDrawing : Cond.instanceMethod yX4_faultOfDrawing ∈ q_W := q_t3 70 rfl rfl
set_option maxRecDepth 100000 in
theorem me_X4_faultOfDrawing : Cond.selects yX4_faultOfDrawing.cls yX4_faultOfDrawing yX4_faultOfDrawing ∈ q_W := q_t3 71 rfl rfl
def tb_X4_faultOfDrawing : List q_E := [(0, .iload_n 1, 1, 0, 0), (1, .ifCond .lt 10, 3, 0, 11), (4, .iload_n 1, 1, 0, 0), (5, .sipush 999, 3, 999, 0), (8, .if_icmp .le 7, 3, 0, 15), (11, .getstatic 95, 3, 0, 0), (14, .areturn, 1, 0, 0), (15, .aload_n 0, 1, 0, 0), (16, .invokevirtual 98, 3, 0, 0), (19, .areturn, 1, 0, 0)]
set_option maxRecDepth 100000 in
theorem tk_X4_faultOfDrawing : q_tb cX4_faultOfDrawing 2 tb_X4_faultOfDrawing = true := by decide +kernel
set_option maxRecDepth 100000 in
theorem mw_X4_faultOfStarting : q_mw yX4_faultOfStarting cX4_faultOfStarting 1 (Option.some (Jvm.ClassFile.FieldType.object "QuillRelay$Fault")) 0 := ⟨q_t3 76 rfl rfl, by decide +kernel, by decide +kernel, q_init_QuillRelay_Race⟩
set_option maxRecDepth 100000 in
theorem mi_X4_faultOfStarting : Cond.instanceMethod yX4_faultOfStarting ∈ q_W := q_t3 74 rfl rfl
set_option maxRecDepth 100000 in
theorem me_X4_faultOfStarting : Cond.selects yX4_faultOfStarting.cls yX4_faultOfStarting yX4_faultOfStarting ∈ q_W := q_t3 75 rfl rfl
def tb_X4_faultOfStarting : List q_E := [(0, .aload_n 0, 1, 0, 0), (1, .getfield 28, 3, 0, 0), (4, .ifCond .ne 10, 3, 0, 14), (7, .aload_n 0, 1, 0, 0), (8, .invokevirtual 71, 3, 0, 0), (11, .ifCond .ne 9, 3, 0, 20), (14, .getstatic 75, 3, 0, 0), (17, .goto 6, 3, 0, 23), (20, .getstatic 81, 3, 0, 0), (23, .areturn, 1, 0, 0)]
set_option maxRecDepth 100000 in
theorem tk_X4_faultOfStarting : q_tb cX4_faultOfStarting 1 tb_X4_faultOfStarting = true := by decide +kernel
set_option maxRecDepth 100000 in
theorem mw_X4_faultOfRunning : q_mw yX4_faultOfRunning cX4_faultOfRunning 2 (Option.some (Jvm.ClassFile.FieldType.object "QuillRelay$Fault")) 1 := ⟨q_t3 111 rfl rfl, by decide +kernel, by decide +kernel, q_init_QuillRelay_Race⟩
set_option maxRecDepth 100000 in
theorem mi_X4_faultOfRunning : Cond.instanceMethod yX4_faultOfRunning ∈ q_W := q_t3 109 rfl rfl
set_option maxRecDepth 100000 in
theorem me_X4_faultOfRunning : Cond.selects yX4_faultOfRunning.cls yX4_faultOfRunning yX4_faultOfRunning ∈ q_W := q_t3 110 rfl rfl
def tb_X4_faultOfRunning : List q_E := [(0, .iload_n 1, 1, 0, 0), (1, .iconst 1, 1, 1, 0), (2, .if_icmp .lt 10, 3, 0, 12), (5, .iload_n 1, 1, 0, 0), (6, .sipush 200, 3, 200, 0), (9, .if_icmp .le 7, 3, 0, 16), (12, .getstatic 95, 3, 0, 0), (15, .areturn, 1, 0, 0), (16, .aload_n 0, 1, 0, 0), (17, .getfield 28, 3, 0, 0), (20, .ifCond .eq 9, 3, 0, 29), (23, .getstatic 81, 3, 0, 0), (26, .goto 6, 3, 0, 32), (29, .getstatic 75, 3, 0, 0), (32, .areturn, 1, 0, 0)]
set_option maxRecDepth 100000 in
theorem tk_X4_faultOfRunning : q_tb cX4_faultOfRunning 2 tb_X4_faultOfRunning = true := by decide +kernel
set_option maxRecDepth 100000 in
theorem mw_X4_faultOfDropping : q_mw yX4_faultOfDropping cX4_faultOfDropping 3 (Option.some (Jvm.ClassFile.FieldType.object "QuillRelay$Fault")) 2 := ⟨q_t3 175 rfl rfl, by decide +kernel, by decide +kernel, q_init_QuillRelay_Race⟩
set_option maxRecDepth 100000 in
theorem mi_X4_faultOfDropping : Cond.instanceMethod yX4_faultOfDropping ∈ q_W := q_t3 173 rfl rfl
set_option maxRecDepth 100000 in
theorem me_X4_faultOfDropping : Cond.selects yX4_faultOfDropping.cls yX4_faultOfDropping yX4_faultOfDropping ∈ q_W := q_t3 174 rfl rfl
def tb_X4_faultOfDropping : List q_E := [(0, .aload_n 0, 1, 0, 0), (1, .iload_n 1, 1, 0, 0), (2, .invokevirtual 84, 3, 0, 0), (5, .ifnonnull 7, 3, 0, 12), (8, .getstatic 92, 3, 0, 0), (11, .areturn, 1, 0, 0), (12, .iload_n 2, 1, 0, 0), (13, .iconst 1, 1, 1, 0), (14, .if_icmp .lt 9, 3, 0, 23), (17, .iload_n 2, 1, 0, 0), (18, .bipush 20, 2, 20, 0), (20, .if_icmp .le 7, 3, 0, 27), (23, .getstatic 95, 3, 0, 0), (26, .areturn, 1, 0, 0), (27, .aload_n 0, 1, 0, 0), (28, .iload_n 1, 1, 0, 0), (29, .invokevirtual 102, 3, 0, 0), (32, .areturn, 1, 0, 0)]
set_option maxRecDepth 100000 in
theorem tk_X4_faultOfDropping : q_tb cX4_faultOfDropping 3 tb_X4_faultOfDropping = true := by decide +kernel
set_option maxRecDepth 100000 in
theorem mw_X4_faultOfWithdrawing : q_mw yX4_faultOfWithdrawing cX4_faultOfWithdrawing 3 (Option.some (Jvm.ClassFile.FieldType.object "QuillRelay$Fault")) 1 := ⟨q_t3 179 rfl rfl, by decide +kernel, by decide +kernel, q_init_QuillRelay_Race⟩
set_option maxRecDepth 100000 in
theorem mi_X4_faultOfWithdrawing : Cond.instanceMethod yX4_faultOfWithdrawing ∈ q_W := q_t3 177 rfl rfl
set_option maxRecDepth 100000 in
theorem me_X4_faultOfWithdrawing : Cond.selects yX4_faultOfWithdrawing.cls yX4_faultOfWithdrawing yX4_faultOfWithdrawing ∈ q_W := q_t3 178 rfl rfl
def tb_X4_faultOfWithdrawing : List q_E := [(0, .aload_n 0, 1, 0, 0), (1, .iload_n 1, 1, 0, 0), (2, .invokevirtual 84, 3, 0, 0), (5, .astore_n 2, 1, 0, 0), (6, .aload_n 2, 1, 0, 0), (7, .ifnonnull 7, 3, 0, 14), (10, .getstatic 92, 3, 0, 0), (13, .areturn, 1, 0, 0), (14, .aload_n 2, 1, 0, 0), (15, .getfield 35, 3, 0, 0), (18, .getstatic 48, 3, 0, 0), (21, .if_acmp .ne 9, 3, 0, 30), (24, .getstatic 81, 3, 0, 0), (27, .goto 6, 3, 0, 33), (30, .getstatic 75, 3, 0, 0), (33, .areturn, 1, 0, 0)]
set_option maxRecDepth 100000 in
theorem tk_X4_faultOfWithdrawing : q_tb cX4_faultOfWithdrawing 3 tb_X4_faultOfWithdrawing = true := by decide +kernel
set_option maxRecDepth 100000 in
theorem mw_X4_faultOfProtesting : q_mw yX4_faultOfProtesting cX4_faultOfProtesting 4 (Option.some (Jvm.ClassFile.FieldType.object "QuillRelay$Fault")) 3 := ⟨q_t3 208 rfl rfl, by decide +kernel, by decide +kernel, q_init_QuillRelay_Race⟩
set_option maxRecDepth 100000 in
theorem mi_X4_faultOfProtesting : Cond.instanceMethod yX4_faultOfProtesting ∈ q_W := q_t3 206 rfl rfl
set_option maxRecDepth 100000 in
theorem me_X4_faultOfProtesting : Cond.selects yX4_faultOfProtesting.cls yX4_faultOfProtesting yX4_faultOfProtesting ∈ q_W := q_t3 207 rfl rfl
def tb_X4_faultOfProtesting : List q_E := [(0, .aload_n 0, 1, 0, 0), (1, .iload_n 1, 1, 0, 0), (2, .invokevirtual 84, 3, 0, 0), (5, .ifnull 11, 3, 0, 16), (8, .aload_n 0, 1, 0, 0), (9, .iload_n 2, 1, 0, 0), (10, .invokevirtual 84, 3, 0, 0), (13, .ifnonnull 7, 3, 0, 20), (16, .getstatic 92, 3, 0, 0), (19, .areturn, 1, 0, 0), (20, .iload_n 1, 1, 0, 0), (21, .iload_n 2, 1, 0, 0), (22, .if_icmp .eq 10, 3, 0, 32), (25, .iload_n 3, 1, 0, 0), (26, .invokestatic 106, 3, 0, 0), (29, .ifCond .ne 7, 3, 0, 36), (32, .getstatic 95, 3, 0, 0), (35, .areturn, 1, 0, 0), (36, .aload_n 0, 1, 0, 0), (37, .getfield 28, 3, 0, 0), (40, .ifCond .eq 9, 3, 0, 49), (43, .getstatic 81, 3, 0, 0), (46, .goto 6, 3, 0, 52), (49, .getstatic 75, 3, 0, 0), (52, .areturn, 1, 0, 0)]
set_option maxRecDepth 100000 in
theorem tk_X4_faultOfProtesting : q_tb cX4_faultOfProtesting 4 tb_X4_faultOfProtesting = true := by decide +kernel
set_option maxRecDepth 100000 in
theorem mw_X4_enterTeam : q_mw yX4_enterTeam cX4_enterTeam 5 (Option.some Jvm.ClassFile.FieldType.int) 0 := ⟨q_t2 232 rfl rfl, by decide +kernel, by decide +kernel, q_init_QuillRelay_Race⟩
set_option maxRecDepth 100000 in
theorem mi_X4_enterTeam : Cond.instanceMethod yX4_enterTeam ∈ q_W := q_t2 230 rfl rfl
set_option maxRecDepth 100000 in
theorem me_X4_enterTeam : Cond.selects yX4_enterTeam.cls yX4_enterTeam yX4_enterTeam ∈ q_W := q_t2 231 rfl rfl
def tb_X4_enterTeam : List q_E := [(0, .aload_n 0, 1, 0, 0), (1, .getfield 11, 3, 0, 0), (4, .astore_n 1, 1, 0, 0), (5, .aload_n 1, 1, 0, 0), (6, .arraylength, 1, 0, 30), (7, .istore_n 2, 1, 0, 0), (8, .iconst 0, 1, 0, 0), (9, .istore_n 3, 1, 0, 0), (10, .iload_n 3, 1, 0, 0), (11, .iload_n 2, 1, 0, 0), (12, .if_icmp .ge 39, 3, 0, 51), (15, .aload_n 1, 1, 0, 0), (16, .iload_n 3, 1, 0, 0), (17, .aaload, 1, 0, 30), (18, .astore 4, 2, 0, 0), (20, .aload 4, 2, 0, 0), (22, .getfield 35, 3, 0, 0), (25, .getstatic 39, 3, 0, 0), (28, .if_acmp .ne 17, 3, 0, 45), (31, .aload 4, 2, 0, 0), (33, .getstatic 109, 3, 0, 0), (36, .putfield 35, 3, 0, 0), (39, .aload 4, 2, 0, 0), (41, .getfield 60, 3, 0, 0), (44, .ireturn, 1, 0, 0), (45, .iinc 3 1, 3, 1, 0), (48, .goto (-38), 3, 0, 10), (51, .iconst (-1), 1, (-1), 0), (52, .ireturn, 1, 0, 0)]
set_option maxRecDepth 100000 in
theorem tk_X4_enterTeam : q_tb cX4_enterTeam 5 tb_X4_enterTeam = true := by decide +kernel
set_option maxRecDepth 100000 in
theorem mw_X4_shuffleLanes : q_mw yX4_shuffleLanes cX4_shuffleLanes 9 (Option.none : Option Jvm.ClassFile.FieldType) 1 := ⟨q_t3 80 rfl rfl, by decide +kernel, by decide +kernel, q_init_QuillRelay_Race⟩
set_option maxRecDepth 100000 in
theorem mi_X4_shuffleLanes : Cond.instanceMethod yX4_shuffleLanes ∈ q_W := q_t3 78 rfl rfl
set_option maxRecDepth 100000 in
theorem me_X4_shuffleLanes : Cond.selects yX4_shuffleLanes.cls yX4_shuffleLanes yX4_shuffleLanes ∈ q_W := q_t3 79 rfl rfl
def tb_X4_shuffleLanes : List q_E := [(0, .aload_n 0, 1, 0, 0), (1, .invokevirtual 71, 3, 0, 0), (4, .istore_n 2, 1, 0, 0), (5, .iload_n 2, 1, 0, 0), (6, .istore_n 3, 1, 0, 0), (7, .iload_n 1, 1, 0, 0), (8, .istore 4, 2, 0, 0), (10, .aload_n 0, 1, 0, 0), (11, .getfield 11, 3, 0, 0), (14, .astore 5, 2, 0, 0), (16, .aload 5, 2, 0, 0), (18, .arraylength, 1, 0, 30), (19, .istore 6, 2, 0, 0), (21, .iconst 0, 1, 0, 0), (22, .istore 7, 2, 0, 0), (24, .iload 7, 2, 0, 0), (26, .iload 6, 2, 0, 0), (28, .if_icmp .ge 54, 3, 0, 82), (31, .aload 5, 2, 0, 0), (33, .iload 7, 2, 0, 0), (35, .aaload, 1, 0, 30), (36, .astore 8, 2, 0, 0), (38, .iload_n 3, 1, 0, 0), (39, .ifCond .le 37, 3, 0, 76), (42, .iconst 5, 1, 5, 0), (43, .iload 4, 2, 0, 0), (45, .imul, 1, 0, 0), (46, .iconst 3, 1, 3, 0), (47, .iadd, 1, 0, 0), (48, .sipush 1000, 3, 1000, 0), (51, .irem, 1, 0, 0), (52, .istore 4, 2, 0, 0), (54, .aload 8, 2, 0, 0), (56, .aload_n 0, 1, 0, 0), (57, .iload_n 2, 1, 0, 0), (58, .aload 8, 2, 0, 0), (60, .getfield 60, 3, 0, 0), (63, .iload 4, 2, 0, 0), (65, .iload_n 3, 1, 0, 0), (66, .irem, 1, 0, 0), (67, .invokevirtual 112, 3, 0, 0), (70, .putfield 57, 3, 0, 0), (73, .iinc 3 (-1), 3, (-1), 0), (76, .iinc 7 1, 3, 1, 0), (79, .goto (-55), 3, 0, 24), (82, .return_, 1, 0, 0)]
set_option maxRecDepth 100000 in
theorem tk_X4_shuffleLanes : q_tb cX4_shuffleLanes 9 tb_X4_shuffleLanes = true := by decide +kernel
set_option maxRecDepth 100000 in
theorem mw_X4_freeLane : q_mw yX4_freeLane cX4_freeLane 6 (Option.some Jvm.ClassFile.FieldType.int) 3 := ⟨q_t3 84 rfl rfl, by decide +kernel, by decide +kernel, q_init_QuillRelay_Race⟩
set_option maxRecDepth 100000 in
theorem mi_X4_freeLane : Cond.instanceMethod yX4_freeLane ∈ q_W := q_t3 83 rfl rfl
set_option maxRecDepth 100000 in
theorem me_X4_freeLane : Cond.selects yX4_freeLane.cls yX4_freeLane yX4_freeLane ∈ q_W := q_s 3 rfl rfl
def tb_X4_freeLane : List q_E := [(0, .iconst 0, 1, 0, 0), (1, .istore 4, 2, 0, 0), (3, .iconst 1, 1, 1, 0), (4, .istore 5, 2, 0, 0), (6, .iload 5, 2, 0, 0), (8, .iload_n 1, 1, 0, 0), (9, .if_icmp .gt 31, 3, 0, 40), (12, .aload_n 0, 1, 0, 0), (13, .iload 5, 2, 0, 0), (15, .iload_n 2, 1, 0, 0), (16, .invokevirtual 116, 3, 0, 0), (19, .ifCond .ne 15, 3, 0, 34), (22, .iload 4, 2, 0, 0), (24, .iload_n 3, 1, 0, 0), (25, .if_icmp .ne 6, 3, 0, 31), (28, .iload 5, 2, 0, 0), (30, .ireturn, 1, 0, 0), (31, .iinc 4 1, 3, 1, 0), (34, .iinc 5 1, 3, 1, 0), (37, .goto (-31), 3, 0, 6), (40, .iload_n 1, 1, 0, 0), (41, .ireturn, 1, 0, 0)]
set_option maxRecDepth 100000 in
theorem tk_X4_freeLane : q_tb cX4_freeLane 6 tb_X4_freeLane = true := by decide +kernel
set_option maxRecDepth 100000 in
theorem mw_X4_isTaken : q_mw yX4_isTaken cX4_isTaken 7 (Option.some Jvm.ClassFile.FieldType.boolean) 2 := ⟨q_t3 88 rfl rfl, by decide +kernel, by decide +kernel, q_init_QuillRelay_Race⟩
set_option maxRecDepth 100000 in
theorem mi_X4_isTaken : Cond.instanceMethod yX4_isTaken ∈ q_W := q_t3 87 rfl rfl
set_option maxRecDepth 100000 in
theorem me_X4_isTaken : Cond.selects yX4_isTaken.cls yX4_isTaken yX4_isTaken ∈ q_W := q_s 4 rfl rfl
def tb_X4_isTaken : List q_E := [(0, .aload_n 0, 1, 0, 0), (1, .getfield 11, 3, 0, 0), (4, .astore_n 3, 1, 0, 0), (5, .aload_n 3, 1, 0, 0), (6, .arraylength, 1, 0, 30), (7, .istore 4, 2, 0, 0), (9, .iconst 0, 1, 0, 0), (10, .istore 5, 2, 0, 0), (12, .iload 5, 2, 0, 0), (14, .iload 4, 2, 0, 0), (16, .if_icmp .ge 35, 3, 0, 51), (19, .aload_n 3, 1, 0, 0), (20, .iload 5, 2, 0, 0), (22, .aaload, 1, 0, 30), (23, .astore 6, 2, 0, 0), (25, .aload 6, 2, 0, 0), (27, .getfield 60, 3, 0, 0), (30, .iload_n 2, 1, 0, 0), (31, .if_icmp .ge 14, 3, 0, 45), (34, .aload 6, 2, 0, 0), (36, .getfield 57, 3, 0, 0), (39, .iload_n 1, 1, 0, 0), (40, .if_icmp .ne 5, 3, 0, 45), (43, .iconst 1, 1, 1, 0), (44, .ireturn, 1, 0, 0), (45, .iinc 5 1, 3, 1, 0), (48, .goto (-36), 3, 0, 12), (51, .iconst 0, 1, 0, 0), (52, .ireturn, 1, 0, 0)]
set_option maxRecDepth 100000 in
theorem tk_X4_isTaken : q_tb cX4_isTaken 7 tb_X4_isTaken = true := by decide +kernel
set_option maxRecDepth 100000 in
theorem mw_X4_begin : q_mw yX4_begin cX4_begin 5 (Option.none : Option Jvm.ClassFile.FieldType) 0 := ⟨q_t3 100 rfl rfl, by decide +kernel, by decide +kernel, q_init_QuillRelay_Race⟩
set_option maxRecDepth 100000 in
theorem mi_X4_begin : Cond.instanceMethod yX4_begin ∈ q_W := q_t3 98 rfl rfl
set_option maxRecDepth 100000 in
theorem me_X4_begin : Cond.selects yX4_begin.cls yX4_begin yX4_begin ∈ q_W := q_t3 99 rfl rfl
def tb_X4_begin : List q_E := [(0, .aload_n 0, 1, 0, 0), (1, .iconst 1, 1, 1, 0), (2, .putfield 28, 3, 0, 0), (5, .aload_n 0, 1, 0, 0), (6, .getfield 11, 3, 0, 0), (9, .astore_n 1, 1, 0, 0), (10, .aload_n 1, 1, 0, 0), (11, .arraylength, 1, 0, 30), (12, .istore_n 2, 1, 0, 0), (13, .iconst 0, 1, 0, 0), (14, .istore_n 3, 1, 0, 0), (15, .iload_n 3, 1, 0, 0), (16, .iload_n 2, 1, 0, 0), (17, .if_icmp .ge 33, 3, 0, 50), (20, .aload_n 1, 1, 0, 0), (21, .iload_n 3, 1, 0, 0), (22, .aaload, 1, 0, 30), (23, .astore 4, 2, 0, 0), (25, .aload 4, 2, 0, 0), (27, .getfield 35, 3, 0, 0), (30, .getstatic 109, 3, 0, 0), (33, .if_acmp .ne 11, 3, 0, 44), (36, .aload 4, 2, 0, 0), (38, .getstatic 48, 3, 0, 0), (41, .putfield 35, 3, 0, 0), (44, .iinc 3 1, 3, 1, 0), (47, .goto (-32), 3, 0, 15), (50, .return_, 1, 0, 0)]
set_option maxRecDepth 100000 in
theorem tk_X4_begin : q_tb cX4_begin 5 tb_X4_begin = true := by decide +kernel
set_option maxRecDepth 100000 in
theorem mw_X4_letSecondsPass : q_mw yX4_letSecondsPass cX4_letSecondsPass 8 (Option.some Jvm.ClassFile.FieldType.int) 1 := ⟨q_t3 115 rfl rfl, by decide +kernel, by decide +kernel, q_init_QuillRelay_Race⟩
set_option maxRecDepth 100000 in
theorem mi_X4_letSecondsPass : Cond.instanceMethod yX4_letSecondsPass ∈ q_W := q_t3 113 rfl rfl
set_option maxRecDepth 100000 in
theorem me_X4_letSecondsPass : Cond.selects yX4_letSecondsPass.cls yX4_letSecondsPass yX4_letSecondsPass ∈ q_W := q_t3 114 rfl rfl
def tb_X4_letSecondsPass : List q_E := [(0, .iconst 0, 1, 0, 0), (1, .istore_n 2, 1, 0, 0), (2, .iconst 0, 1, 0, 0), (3, .istore_n 3, 1, 0, 0), (4, .iload_n 3, 1, 0, 0), (5, .iload_n 1, 1, 0, 0), (6, .if_icmp .ge 83, 3, 0, 89), (9, .aload_n 0, 1, 0, 0), (10, .dup, 1, 0, 0), (11, .getfield 32, 3, 0, 0), (14, .iconst 1, 1, 1, 0), (15, .iadd, 1, 0, 0), (16, .putfield 32, 3, 0, 0), (19, .aload_n 0, 1, 0, 0), (20, .getfield 11, 3, 0, 0), (23, .astore 4, 2, 0, 0), (25, .aload 4, 2, 0, 0), (27, .arraylength, 1, 0, 30), (28, .istore 5, 2, 0, 0), (30, .iconst 0, 1, 0, 0), (31, .istore 6, 2, 0, 0), (33, .iload 6, 2, 0, 0), (35, .iload 5, 2, 0, 0), (37, .if_icmp .ge 46, 3, 0, 83), (40, .aload 4, 2, 0, 0), (42, .iload 6, 2, 0, 0), (44, .aaload, 1, 0, 30), (45, .astore 7, 2, 0, 0), (47, .aload 7, 2, 0, 0), (49, .getfield 35, 3, 0, 0), (52, .getstatic 48, 3, 0, 0), (55, .if_acmp .ne 22, 3, 0, 77), (58, .aload 7, 2, 0, 0), (60, .aload_n 0, 1, 0, 0), (61, .getfield 20, 3, 0, 0), (64, .aload_n 0, 1, 0, 0), (65, .getfield 32, 3, 0, 0), (68, .invokevirtual 120, 3, 0, 0), (71, .ifCond .eq 6, 3, 0, 77), (74, .iinc 2 1, 3, 1, 0), (77, .iinc 6 1, 3, 1, 0), (80, .goto (-47), 3, 0, 33), (83, .iinc 3 1, 3, 1, 0), (86, .goto (-82), 3, 0, 4), (89, .iload_n 2, 1, 0, 0), (90, .ireturn, 1, 0, 0)]
set_option maxRecDepth 100000 in
theorem tk_X4_letSecondsPass : q_tb cX4_letSecondsPass 8 tb_X4_letSecondsPass = true := by decide +kernel
set_option maxRecDepth 100000 in
theorem mw_X4_handOver : q_mw yX4_handOver cX4_handOver 3 (Option.some Jvm.ClassFile.FieldType.int) 1 := ⟨q_t3 162 rfl rfl, by decide +kernel, by decide +kernel, q_init_QuillRelay_Race⟩
set_option maxRecDepth 100000 in
theorem mi_X4_handOver : Cond.instanceMethod yX4_handOver ∈ q_W := q_t3 160 rfl rfl
set_option maxRecDepth 100000 in
theorem me_X4_handOver : Cond.selects yX4_handOver.cls yX4_handOver yX4_handOver ∈ q_W := q_t3 161 rfl rfl
def tb_X4_handOver : List q_E := [(0, .aload_n 1, 1, 0, 0), (1, .getfield 123, 3, 0, 0), (4, .aload_n 1, 1, 0, 0), (5, .aload_n 0, 1, 0, 0), (6, .getfield 20, 3, 0, 0), (9, .invokevirtual 126, 3, 0, 0), (12, .bipush 100, 2, 100, 0), (14, .iadd, 1, 0, 0), (15, .if_icmp .le 8, 3, 0, 23), (18, .aload_n 1, 1, 0, 0), (19, .iconst 1, 1, 1, 0), (20, .putfield 130, 3, 0, 0), (23, .aload_n 1, 1, 0, 0), (24, .aload_n 0, 1, 0, 0), (25, .getfield 32, 3, 0, 0), (28, .invokevirtual 133, 3, 0, 0), (31, .istore_n 2, 1, 0, 0), (32, .aload_n 1, 1, 0, 0), (33, .dup, 1, 0, 0), (34, .getfield 136, 3, 0, 0), (37, .iconst 1, 1, 1, 0), (38, .iadd, 1, 0, 0), (39, .putfield 136, 3, 0, 0), (42, .aload_n 1, 1, 0, 0), (43, .iconst 0, 1, 0, 0), (44, .putfield 139, 3, 0, 0), (47, .iload_n 2, 1, 0, 0), (48, .ireturn, 1, 0, 0)]
set_option maxRecDepth 100000 in
theorem tk_X4_handOver : q_tb cX4_handOver 3 tb_X4_handOver = true := by decide +kernel
set_option maxRecDepth 100000 in
theorem mw_X4_dropQuill : q_mw yX4_dropQuill cX4_dropQuill 3 (Option.some Jvm.ClassFile.FieldType.int) 2 := ⟨q_t3 183 rfl rfl, by decide +kernel, by decide +kernel, q_init_QuillRelay_Race⟩
set_option maxRecDepth 100000 in
theorem mi_X4_dropQuill : Cond.instanceMethod yX4_dropQuill ∈ q_W := q_t3 181 rfl rfl
set_option maxRecDepth 100000 in
theorem me_X4_dropQuill : Cond.selects yX4_dropQuill.cls yX4_dropQuill yX4_dropQuill ∈ q_W := q_t3 182 rfl rfl
def tb_X4_dropQuill : List q_E := [(0, .aload_n 1, 1, 0, 0), (1, .aload_n 0, 1, 0, 0), (2, .getfield 20, 3, 0, 0), (5, .invokevirtual 142, 3, 0, 0), (8, .ifCond .eq 8, 3, 0, 16), (11, .aload_n 1, 1, 0, 0), (12, .iconst 1, 1, 1, 0), (13, .putfield 145, 3, 0, 0), (16, .aload_n 1, 1, 0, 0), (17, .dup, 1, 0, 0), (18, .getfield 148, 3, 0, 0), (21, .iload_n 2, 1, 0, 0), (22, .iadd, 1, 0, 0), (23, .putfield 148, 3, 0, 0), (26, .aload_n 1, 1, 0, 0), (27, .getfield 148, 3, 0, 0), (30, .ireturn, 1, 0, 0)]
set_option maxRecDepth 100000 in
theorem tk_X4_dropQuill : q_tb cX4_dropQuill 3 tb_X4_dropQuill = true := by decide +kernel
set_option maxRecDepth 100000 in
theorem mw_X4_judge : q_mw yX4_judge cX4_judge 4 (Option.some Jvm.ClassFile.FieldType.boolean) 3 := ⟨q_t3 215 rfl rfl, by decide +kernel, by decide +kernel, q_init_QuillRelay_Race⟩
set_option maxRecDepth 100000 in
theorem mi_X4_judge : Cond.instanceMethod yX4_judge ∈ q_W := q_t3 213 rfl rfl
set_option maxRecDepth 100000 in
theorem me_X4_judge : Cond.selects yX4_judge.cls yX4_judge yX4_judge ∈ q_W := q_t3 214 rfl rfl
def tb_X4_judge : List q_E := [(0, .aload_n 2, 1, 0, 0), (1, .iload_n 3, 1, 0, 0), (2, .invokevirtual 151, 3, 0, 0), (5, .ifCond .eq 21, 3, 0, 26), (8, .aload_n 2, 1, 0, 0), (9, .iload_n 3, 1, 0, 0), (10, .invokevirtual 154, 3, 0, 0), (13, .aload_n 2, 1, 0, 0), (14, .dup, 1, 0, 0), (15, .getfield 157, 3, 0, 0), (18, .bipush 10, 2, 10, 0), (20, .iadd, 1, 0, 0), (21, .putfield 157, 3, 0, 0), (24, .iconst 1, 1, 1, 0), (25, .ireturn, 1, 0, 0), (26, .aload_n 1, 1, 0, 0), (27, .dup, 1, 0, 0), (28, .getfield 157, 3, 0, 0), (31, .iconst 5, 1, 5, 0), (32, .iadd, 1, 0, 0), (33, .putfield 157, 3, 0, 0), (36, .iconst 0, 1, 0, 0), (37, .ireturn, 1, 0, 0)]
set_option maxRecDepth 100000 in
theorem tk_X4_judge : q_tb cX4_judge 4 tb_X4_judge = true := by decide +kernel
set_option maxRecDepth 100000 in
theorem mw_X6_init : q_mw yX6_init cX6_init 3 (Option.none : Option Jvm.ClassFile.FieldType) 1 := ⟨q_t1 54 rfl rfl, by decide +kernel, by decide +kernel, q_init_QuillRelay_Team⟩
set_option maxRecDepth 100000 in
theorem mi_X6_init : Cond.instanceMethod yX6_init ∈ q_W := q_t1 53 rfl rfl
def tb_X6_init : List q_E := [(0, .aload_n 0, 1, 0, 0), (1, .invokespecial 3, 3, 0, 0), (4, .aload_n 0, 1, 0, 0), (5, .iload_n 1, 1, 0, 0), (6, .putfield 9, 3, 0, 0), (9, .aload_n 0, 1, 0, 0), (10, .iconst 4, 1, 4, 0), (11, .newarray .int, 2, 0, 0), (13, .putfield 15, 3, 0, 0), (16, .aload_n 0, 1, 0, 0), (17, .iconst 4, 1, 4, 0), (18, .newarray .int, 2, 0, 0), (20, .putfield 19, 3, 0, 0), (23, .iconst 0, 1, 0, 0), (24, .istore_n 2, 1, 0, 0), (25, .iload_n 2, 1, 0, 0), (26, .aload_n 0, 1, 0, 0), (27, .getfield 15, 3, 0, 0), (30, .arraylength, 1, 0, 20), (31, .if_icmp .ge 17, 3, 0, 48), (34, .aload_n 0, 1, 0, 0), (35, .getfield 15, 3, 0, 0), (38, .iload_n 2, 1, 0, 0), (39, .bipush 60, 2, 60, 0), (41, .iastore, 1, 0, 0), (42, .iinc 2 1, 3, 1, 0), (45, .goto (-20), 3, 0, 25), (48, .aload_n 0, 1, 0, 0), (49, .getstatic 22, 3, 0, 0), (52, .putfield 28, 3, 0, 0), (55, .aload_n 0, 1, 0, 0), (56, .iload_n 1, 1, 0, 0), (57, .iconst 1, 1, 1, 0), (58, .iadd, 1, 0, 0), (59, .putfield 31, 3, 0, 0), (62, .return_, 1, 0, 0)]
set_option maxRecDepth 100000 in
theorem tk_X6_init : q_tb cX6_init 3 tb_X6_init = true := by decide +kernel
set_option maxRecDepth 100000 in
theorem mw_X6_copyFrom : q_mw yX6_copyFrom cX6_copyFrom 2 (Option.none : Option Jvm.ClassFile.FieldType) 1 := ⟨q_t2 67 rfl rfl, by decide +kernel, by decide +kernel, q_init_QuillRelay_Team⟩
set_option maxRecDepth 100000 in
theorem mi_X6_copyFrom : Cond.instanceMethod yX6_copyFrom ∈ q_W := q_t2 65 rfl rfl
set_option maxRecDepth 100000 in
theorem me_X6_copyFrom : Cond.selects yX6_copyFrom.cls yX6_copyFrom yX6_copyFrom ∈ q_W := q_t2 66 rfl rfl
def tb_X6_copyFrom : List q_E := [(0, .aload_n 1, 1, 0, 0), (1, .getfield 15, 3, 0, 0), (4, .aload_n 0, 1, 0, 0), (5, .getfield 15, 3, 0, 0), (8, .invokestatic 34, 3, 0, 0), (11, .aload_n 1, 1, 0, 0), (12, .getfield 19, 3, 0, 0), (15, .aload_n 0, 1, 0, 0), (16, .getfield 19, 3, 0, 0), (19, .invokestatic 34, 3, 0, 0), (22, .aload_n 0, 1, 0, 0), (23, .aload_n 1, 1, 0, 0), (24, .getfield 28, 3, 0, 0), (27, .putfield 28, 3, 0, 0), (30, .aload_n 0, 1, 0, 0), (31, .aload_n 1, 1, 0, 0), (32, .getfield 31, 3, 0, 0), (35, .putfield 31, 3, 0, 0), (38, .aload_n 0, 1, 0, 0), (39, .aload_n 1, 1, 0, 0), (40, .getfield 38, 3, 0, 0), (43, .putfield 38, 3, 0, 0), (46, .aload_n 0, 1, 0, 0), (47, .aload_n 1, 1, 0, 0), (48, .getfield 41, 3, 0, 0), (51, .putfield 41, 3, 0, 0), (54, .aload_n 0, 1, 0, 0), (55, .aload_n 1, 1, 0, 0), (56, .getfield 44, 3, 0, 0), (59, .putfield 44, 3, 0, 0), (62, .aload_n 0, 1, 0, 0), (63, .aload_n 1, 1, 0, 0), (64, .getfield 47, 3, 0, 0), (67, .putfield 47, 3, 0, 0), (70, .aload_n 0, 1, 0, 0), (71, .aload_n 1, 1, 0, 0), (72, .getfield 50, 3, 0, 0), (75, .putfield 50, 3, 0, 0), (78, .aload_n 0, 1, 0, 0), (79, .aload_n 1, 1, 0, 0), (80, .getfield 53, 3, 0, 0), (83, .putfield 53, 3, 0, 0), (86, .aload_n 0, 1, 0, 0), (87, .aload_n 1, 1, 0, 0), (88, .getfield 56, 3, 0, 0), (91, .putfield 56, 3, 0, 0), (94, .aload_n 0, 1, 0, 0), (95, .aload_n 1, 1, 0, 0), (96, .getfield 59, 3, 0, 0), (99, .putfield 59, 3, 0, 0), (102, .aload_n 0, 1, 0, 0), (103, .aload_n 1, 1, 0, 0), (104, .getfield 63, 3, 0, 0), (107, .putfield 63, 3, 0, 0), (110, .return_, 1, 0, 0)]
set_option maxRecDepth 100000 in
theorem tk_X6_copyFrom : q_tb cX6_copyFrom 2 tb_X6_copyFrom = true := by decide +kernel
set_option maxRecDepth 100000 in
theorem mw_X6_speedOn : q_mw yX6_speedOn cX6_speedOn 2 (Option.some Jvm.ClassFile.FieldType.int) 1 := ⟨q_t4 35 rfl rfl, by decide +kernel, by decide +kernel, q_init_QuillRelay_Team⟩
set_option maxRecDepth 100000 in
theorem mi_X6_speedOn : Cond.instanceMethod yX6_speedOn ∈ q_W := q_t4 33 rfl rfl
set_option maxRecDepth 100000 in
theorem me_X6_speedOn : Cond.selects yX6_speedOn.cls yX6_speedOn yX6_speedOn ∈ q_W := q_t4 34 rfl rfl
def tb_X6_speedOn : List q_E := [(0, .aload_n 0, 1, 0, 0), (1, .getfield 15, 3, 0, 0), (4, .iload_n 1, 1, 0, 0), (5, .invokestatic 66, 3, 0, 0), (8, .ireturn, 1, 0, 0)]
set_option maxRecDepth 100000 in
theorem tk_X6_speedOn : q_tb cX6_speedOn 2 tb_X6_speedOn = true := by decide +kernel
set_option maxRecDepth 100000 in
theorem mw_X6_changeSpeed : q_mw yX6_changeSpeed cX6_changeSpeed 4 (Option.some Jvm.ClassFile.FieldType.int) 2 := ⟨q_t3 46 rfl rfl, by decide +kernel, by decide +kernel, q_init_QuillRelay_Team⟩
set_option maxRecDepth 100000 in
theorem mi_X6_changeSpeed : Cond.instanceMethod yX6_changeSpeed ∈ q_W := q_t3 44 rfl rfl
set_option maxRecDepth 100000 in
theorem me_X6_changeSpeed : Cond.selects yX6_changeSpeed.cls yX6_changeSpeed yX6_changeSpeed ∈ q_W := q_t3 45 rfl rfl
def tb_X6_changeSpeed : List q_E := [(0, .aload_n 0, 1, 0, 0), (1, .getfield 15, 3, 0, 0), (4, .iload_n 1, 1, 0, 0), (5, .invokestatic 66, 3, 0, 0), (8, .istore_n 3, 1, 0, 0), (9, .aload_n 0, 1, 0, 0), (10, .getfield 15, 3, 0, 0), (13, .iload_n 1, 1, 0, 0), (14, .iload_n 2, 1, 0, 0), (15, .invokestatic 70, 3, 0, 0), (18, .iload_n 3, 1, 0, 0), (19, .ireturn, 1, 0, 0)]
set_option maxRecDepth 100000 in
theorem tk_X6_changeSpeed : q_tb cX6_changeSpeed 4 tb_X6_changeSpeed = true := by decide +kernel
set_option maxRecDepth 100000 in
theorem mw_X6_legEnd : q_mw yX6_legEnd cX6_legEnd 2 (Option.some Jvm.ClassFile.FieldType.int) 1 := ⟨q_t3 127 rfl rfl, by decide +kernel, by decide +kernel, q_init_QuillRelay_Team⟩
set_option maxRecDepth 100000 in
theorem mi_X6_legEnd : Cond.instanceMethod yX6_legEnd ∈ q_W := q_t3 125 rfl rfl
set_option maxRecDepth 100000 in
theorem me_X6_legEnd : Cond.selects yX6_legEnd.cls yX6_legEnd yX6_legEnd ∈ q_W := q_t3 126 rfl rfl
def tb_X6_legEnd : List q_E := [(0, .aload_n 0, 1, 0, 0), (1, .getfield 41, 3, 0, 0), (4, .iconst 1, 1, 1, 0), (5, .iadd, 1, 0, 0), (6, .iload_n 1, 1, 0, 0), (7, .imul, 1, 0, 0), (8, .ireturn, 1, 0, 0)]
set_option maxRecDepth 100000 in
theorem tk_X6_legEnd : q_tb cX6_legEnd 2 tb_X6_legEnd = true := by decide +kernel
set_option maxRecDepth 100000 in
theorem mw_X6_inZone : q_mw yX6_inZone cX6_inZone 2 (Option.some Jvm.ClassFile.FieldType.boolean) 1 := ⟨q_t3 187 rfl rfl, by decide +kernel, by decide +kernel, q_init_QuillRelay_Team⟩
set_option maxRecDepth 100000 in
theorem mi_X6_inZone : Cond.instanceMethod yX6_inZone ∈ q_W := q_t3 185 rfl rfl
set_option maxRecDepth 100000 in
theorem me_X6_inZone : Cond.selects yX6_inZone.cls yX6_inZone yX6_inZone ∈ q_W := q_t3 186 rfl rfl
def tb_X6_inZone : List q_E := [(0, .aload_n 0, 1, 0, 0), (1, .getfield 41, 3, 0, 0), (4, .iconst 3, 1, 3, 0), (5, .if_icmp .ge 37, 3, 0, 42), (8, .aload_n 0, 1, 0, 0), (9, .getfield 38, 3, 0, 0), (12, .aload_n 0, 1, 0, 0), (13, .iload_n 1, 1, 0, 0), (14, .invokevirtual 74, 3, 0, 0), (17, .bipush 100, 2, 100, 0), (19, .isub, 1, 0, 0), (20, .if_icmp .lt 22, 3, 0, 42), (23, .aload_n 0, 1, 0, 0), (24, .getfield 38, 3, 0, 0), (27, .aload_n 0, 1, 0, 0), (28, .iload_n 1, 1, 0, 0), (29, .invokevirtual 74, 3, 0, 0), (32, .bipush 100, 2, 100, 0), (34, .iadd, 1, 0, 0), (35, .if_icmp .gt 7, 3, 0, 42), (38, .iconst 1, 1, 1, 0), (39, .goto 4, 3, 0, 43), (42, .iconst 0, 1, 0, 0), (43, .ireturn, 1, 0, 0)]
set_option maxRecDepth 100000 in
theorem tk_X6_inZone : q_tb cX6_inZone 2 tb_X6_inZone = true := by decide +kernel
set_option maxRecDepth 100000 in
theorem mw_X6_reasonToRefuse : q_mw yX6_reasonToRefuse cX6_reasonToRefuse 2 (Option.some Jvm.ClassFile.FieldType.int) 1 := ⟨q_t3 157 rfl rfl, by decide +kernel, by decide +kernel, q_init_QuillRelay_Team⟩
set_option maxRecDepth 100000 in
theorem mi_X6_reasonToRefuse : Cond.instanceMethod yX6_reasonToRefuse ∈ q_W := q_t3 155 rfl rfl
set_option maxRecDepth 100000 in
theorem me_X6_reasonToRefuse : Cond.selects yX6_reasonToRefuse.cls yX6_reasonToRefuse yX6_reasonToRefuse ∈ q_W := q_t3 156 rfl rfl
def tb_X6_reasonToRefuse : List q_E := [(0, .aload_n 0, 1, 0, 0), (1, .getfield 47, 3, 0, 0), (4, .ifCond .le 5, 3, 0, 9), (7, .iconst 1, 1, 1, 0), (8, .ireturn, 1, 0, 0), (9, .aload_n 0, 1, 0, 0), (10, .getfield 41, 3, 0, 0), (13, .iconst 3, 1, 3, 0), (14, .if_icmp .lt 5, 3, 0, 19), (17, .iconst 2, 1, 2, 0), (18, .ireturn, 1, 0, 0), (19, .aload_n 0, 1, 0, 0), (20, .getfield 38, 3, 0, 0), (23, .aload_n 0, 1, 0, 0), (24, .iload_n 1, 1, 0, 0), (25, .invokevirtual 74, 3, 0, 0), (28, .bipush 100, 2, 100, 0), (30, .isub, 1, 0, 0), (31, .if_icmp .ge 7, 3, 0, 38), (34, .iconst 3, 1, 3, 0), (35, .goto 4, 3, 0, 39), (38, .iconst 0, 1, 0, 0), (39, .ireturn, 1, 0, 0)]
set_option maxRecDepth 100000 in
theorem tk_X6_reasonToRefuse : q_tb cX6_reasonToRefuse 2 tb_X6_reasonToRefuse = true := by decide +kernel
set_option maxRecDepth 100000 in
theorem mw_X6_moveOneSecond : q_mw yX6_moveOneSecond cX6_moveOneSecond 3 (Option.some Jvm.ClassFile.FieldType.boolean) 2 := ⟨q_t3 119 rfl rfl, by decide +kernel, by decide +kernel, q_init_QuillRelay_Team⟩
set_option maxRecDepth 100000 in
theorem mi_X6_moveOneSecond : Cond.instanceMethod yX6_moveOneSecond ∈ q_W := q_t3 117 rfl rfl
set_option maxRecDepth 100000 in
theorem me_X6_moveOneSecond : Cond.selects yX6_moveOneSecond.cls yX6_moveOneSecond yX6_moveOneSecond ∈ q_W := q_t3 118 rfl rfl
def tb_X6_moveOneSecond : List q_E := [(0, .aload_n 0, 1, 0, 0), (1, .getfield 47, 3, 0, 0), (4, .ifCond .le 15, 3, 0, 19), (7, .aload_n 0, 1, 0, 0), (8, .dup, 1, 0, 0), (9, .getfield 47, 3, 0, 0), (12, .iconst 1, 1, 1, 0), (13, .isub, 1, 0, 0), (14, .putfield 47, 3, 0, 0), (17, .iconst 0, 1, 0, 0), (18, .ireturn, 1, 0, 0), (19, .aload_n 0, 1, 0, 0), (20, .iload_n 1, 1, 0, 0), (21, .invokevirtual 78, 3, 0, 0), (24, .aload_n 0, 1, 0, 0), (25, .getfield 41, 3, 0, 0), (28, .iconst 3, 1, 3, 0), (29, .if_icmp .lt 13, 3, 0, 42), (32, .aload_n 0, 1, 0, 0), (33, .getfield 38, 3, 0, 0), (36, .iconst 4, 1, 4, 0), (37, .iload_n 1, 1, 0, 0), (38, .imul, 1, 0, 0), (39, .if_icmp .ge 5, 3, 0, 44), (42, .iconst 0, 1, 0, 0), (43, .ireturn, 1, 0, 0), (44, .aload_n 0, 1, 0, 0), (45, .getstatic 82, 3, 0, 0), (48, .putfield 28, 3, 0, 0), (51, .aload_n 0, 1, 0, 0), (52, .iload_n 2, 1, 0, 0), (53, .putfield 56, 3, 0, 0), (56, .aload_n 0, 1, 0, 0), (57, .iload_n 2, 1, 0, 0), (58, .invokevirtual 85, 3, 0, 0), (61, .pop, 1, 0, 0), (62, .iconst 1, 1, 1, 0), (63, .ireturn, 1, 0, 0)]
set_option maxRecDepth 100000 in
theorem tk_X6_moveOneSecond : q_tb cX6_moveOneSecond 3 tb_X6_moveOneSecond = true := by decide +kernel
set_option maxRecDepth 100000 in
theorem mw_X6_runOneSecond : q_mw yX6_runOneSecond cX6_runOneSecond 4 (Option.none : Option Jvm.ClassFile.FieldType) 1 := ⟨q_t3 123 rfl rfl, by decide +kernel, by decide +kernel, q_init_QuillRelay_Team⟩
set_option maxRecDepth 100000 in
theorem mi_X6_runOneSecond : Cond.instanceMethod yX6_runOneSecond ∈ q_W := q_t3 122 rfl rfl
set_option maxRecDepth 100000 in
theorem me_X6_runOneSecond : Cond.selects yX6_runOneSecond.cls yX6_runOneSecond yX6_runOneSecond ∈ q_W := q_s 5 rfl rfl
def tb_X6_runOneSecond : List q_E := [(0, .aload_n 0, 1, 0, 0), (1, .iload_n 1, 1, 0, 0), (2, .invokevirtual 74, 3, 0, 0), (5, .sipush 300, 3, 300, 0), (8, .iadd, 1, 0, 0), (9, .istore_n 2, 1, 0, 0), (10, .aload_n 0, 1, 0, 0), (11, .getfield 38, 3, 0, 0), (14, .aload_n 0, 1, 0, 0), (15, .getfield 15, 3, 0, 0), (18, .aload_n 0, 1, 0, 0), (19, .getfield 41, 3, 0, 0), (22, .invokestatic 66, 3, 0, 0), (25, .aload_n 0, 1, 0, 0), (26, .getfield 44, 3, 0, 0), (29, .invokestatic 88, 3, 0, 0), (32, .iadd, 1, 0, 0), (33, .istore_n 3, 1, 0, 0), (34, .aload_n 0, 1, 0, 0), (35, .getfield 41, 3, 0, 0), (38, .iconst 3, 1, 3, 0), (39, .if_icmp .ge 12, 3, 0, 51), (42, .aload_n 0, 1, 0, 0), (43, .getfield 38, 3, 0, 0), (46, .iload_n 2, 1, 0, 0), (47, .if_icmp .lt 4, 3, 0, 51), (50, .return_, 1, 0, 0), (51, .aload_n 0, 1, 0, 0), (52, .aload_n 0, 1, 0, 0), (53, .getfield 41, 3, 0, 0), (56, .iconst 3, 1, 3, 0), (57, .if_icmp .ge 11, 3, 0, 68), (60, .iload_n 2, 1, 0, 0), (61, .iload_n 3, 1, 0, 0), (62, .invokestatic 92, 3, 0, 0), (65, .goto 4, 3, 0, 69), (68, .iload_n 3, 1, 0, 0), (69, .putfield 38, 3, 0, 0), (72, .aload_n 0, 1, 0, 0), (73, .dup, 1, 0, 0), (74, .getfield 44, 3, 0, 0), (77, .iconst 1, 1, 1, 0), (78, .iadd, 1, 0, 0), (79, .putfield 44, 3, 0, 0), (82, .return_, 1, 0, 0)]
set_option maxRecDepth 100000 in
theorem tk_X6_runOneSecond : q_tb cX6_runOneSecond 4 tb_X6_runOneSecond = true := by decide +kernel
set_option maxRecDepth 100000 in
theorem mw_X6_endLeg : q_mw yX6_endLeg cX6_endLeg 3 (Option.some Jvm.ClassFile.FieldType.int) 1 := ⟨q_t3 140 rfl rfl, by decide +kernel, by decide +kernel, q_init_QuillRelay_Team⟩
set_option maxRecDepth 100000 in
theorem mi_X6_endLeg : Cond.instanceMethod yX6_endLeg ∈ q_W := q_t3 138 rfl rfl
set_option maxRecDepth 100000 in
theorem me_X6_endLeg : Cond.selects yX6_endLeg.cls yX6_endLeg yX6_endLeg ∈ q_W := q_t3 139 rfl rfl
def tb_X6_endLeg : List q_E := [(0, .iload_n 1, 1, 0, 0), (1, .aload_n 0, 1, 0, 0), (2, .getfield 53, 3, 0, 0), (5, .isub, 1, 0, 0), (6, .istore_n 2, 1, 0, 0), (7, .aload_n 0, 1, 0, 0), (8, .getfield 19, 3, 0, 0), (11, .aload_n 0, 1, 0, 0), (12, .getfield 41, 3, 0, 0), (15, .iload_n 2, 1, 0, 0), (16, .invokestatic 70, 3, 0, 0), (19, .aload_n 0, 1, 0, 0), (20, .iload_n 1, 1, 0, 0), (21, .putfield 53, 3, 0, 0), (24, .iload_n 2, 1, 0, 0), (25, .ireturn, 1, 0, 0)]
set_option maxRecDepth 100000 in
theorem tk_X6_endLeg : q_tb cX6_endLeg 3 tb_X6_endLeg = true := by decide +kernel
set_option maxRecDepth 100000 in
theorem mw_X6_hasEnded : q_mw yX6_hasEnded cX6_hasEnded 2 (Option.some Jvm.ClassFile.FieldType.boolean) 1 := ⟨q_t4 99 rfl rfl, by decide +kernel, by decide +kernel, q_init_QuillRelay_Team⟩
set_option maxRecDepth 100000 in
theorem mi_X6_hasEnded : Cond.instanceMethod yX6_hasEnded ∈ q_W := q_t4 97 rfl rfl
set_option maxRecDepth 100000 in
theorem me_X6_hasEnded : Cond.selects yX6_hasEnded.cls yX6_hasEnded yX6_hasEnded ∈ q_W := q_t4 98 rfl rfl
def tb_X6_hasEnded : List q_E := [(0, .iload_n 1, 1, 0, 0), (1, .aload_n 0, 1, 0, 0), (2, .getfield 41, 3, 0, 0), (5, .if_icmp .lt 13, 3, 0, 18), (8, .aload_n 0, 1, 0, 0), (9, .getfield 28, 3, 0, 0), (12, .getstatic 82, 3, 0, 0), (15, .if_acmp .ne 7, 3, 0, 22), (18, .iconst 1, 1, 1, 0), (19, .goto 4, 3, 0, 23), (22, .iconst 0, 1, 0, 0), (23, .ireturn, 1, 0, 0)]
set_option maxRecDepth 100000 in
theorem tk_X6_hasEnded : q_tb cX6_hasEnded 2 tb_X6_hasEnded = true := by decide +kernel
set_option maxRecDepth 100000 in
theorem mw_X6_secondsUntilZone : q_mw yX6_secondsUntilZone cX6_secondsUntilZone 5 (Option.some Jvm.ClassFile.FieldType.int) 1 := ⟨q_t4 226 rfl rfl, by decide +kernel, by decide +kernel, q_init_QuillRelay_Team⟩
set_option maxRecDepth 100000 in
theorem mi_X6_secondsUntilZone : Cond.instanceMethod yX6_secondsUntilZone ∈ q_W := q_t4 224 rfl rfl
set_option maxRecDepth 100000 in
theorem me_X6_secondsUntilZone : Cond.selects yX6_secondsUntilZone.cls yX6_secondsUntilZone yX6_secondsUntilZone ∈ q_W := q_t4 225 rfl rfl
def tb_X6_secondsUntilZone : List q_E := [(0, .aload_n 0, 1, 0, 0), (1, .iload_n 1, 1, 0, 0), (2, .invokevirtual 74, 3, 0, 0), (5, .bipush 100, 2, 100, 0), (7, .isub, 1, 0, 0), (8, .istore_n 2, 1, 0, 0), (9, .aload_n 0, 1, 0, 0), (10, .getfield 38, 3, 0, 0), (13, .iload_n 2, 1, 0, 0), (14, .if_icmp .lt 5, 3, 0, 19), (17, .iconst 0, 1, 0, 0), (18, .ireturn, 1, 0, 0), (19, .aload_n 0, 1, 0, 0), (20, .getfield 38, 3, 0, 0), (23, .istore_n 3, 1, 0, 0), (24, .iconst 0, 1, 0, 0), (25, .istore 4, 2, 0, 0), (27, .iload_n 3, 1, 0, 0), (28, .iload_n 2, 1, 0, 0), (29, .if_icmp .ge 40, 3, 0, 69), (32, .iload 4, 2, 0, 0), (34, .ldc 97, 2, 0, 0), (36, .if_icmp .ge 33, 3, 0, 69), (39, .iload_n 3, 1, 0, 0), (40, .aload_n 0, 1, 0, 0), (41, .getfield 15, 3, 0, 0), (44, .aload_n 0, 1, 0, 0), (45, .getfield 41, 3, 0, 0), (48, .invokestatic 66, 3, 0, 0), (51, .aload_n 0, 1, 0, 0), (52, .getfield 44, 3, 0, 0), (55, .iload 4, 2, 0, 0), (57, .iadd, 1, 0, 0), (58, .invokestatic 88, 3, 0, 0), (61, .iadd, 1, 0, 0), (62, .istore_n 3, 1, 0, 0), (63, .iinc 4 1, 3, 1, 0), (66, .goto (-39), 3, 0, 27), (69, .aload_n 0, 1, 0, 0), (70, .getfield 47, 3, 0, 0), (73, .iload 4, 2, 0, 0), (75, .iadd, 1, 0, 0), (76, .ireturn, 1, 0, 0)]
set_option maxRecDepth 100000 in
theorem tk_X6_secondsUntilZone : q_tb cX6_secondsUntilZone 5 tb_X6_secondsUntilZone = true := by decide +kernel
set_option maxRecDepth 100000 in
theorem mw_X6_committed : q_mw yX6_committed cX6_committed 2 (Option.some Jvm.ClassFile.FieldType.boolean) 1 := ⟨q_t3 219 rfl rfl, by decide +kernel, by decide +kernel, q_init_QuillRelay_Team⟩
set_option maxRecDepth 100000 in
theorem mi_X6_committed : Cond.instanceMethod yX6_committed ∈ q_W := q_t3 217 rfl rfl
set_option maxRecDepth 100000 in
theorem me_X6_committed : Cond.selects yX6_committed.cls yX6_committed yX6_committed ∈ q_W := q_t3 218 rfl rfl
def tb_X6_committed : List q_E := [(0, .iload_n 1, 1, 0, 0), (1, .ifCond .ne 10, 3, 0, 11), (4, .aload_n 0, 1, 0, 0), (5, .getfield 59, 3, 0, 0), (8, .goto 7, 3, 0, 15), (11, .aload_n 0, 1, 0, 0), (12, .getfield 63, 3, 0, 0), (15, .ireturn, 1, 0, 0)]
set_option maxRecDepth 100000 in
theorem tk_X6_committed : q_tb cX6_committed 2 tb_X6_committed = true := by decide +kernel
set_option maxRecDepth 100000 in
theorem mw_X6_removeFoul : q_mw yX6_removeFoul cX6_removeFoul 2 (Option.none : Option Jvm.ClassFile.FieldType) 1 := ⟨q_t3 223 rfl rfl, by decide +kernel, by decide +kernel, q_init_QuillRelay_Team⟩
set_option maxRecDepth 100000 in
theorem mi_X6_removeFoul : Cond.instanceMethod yX6_removeFoul ∈ q_W := q_t3 221 rfl rfl
set_option maxRecDepth 100000 in
theorem me_X6_removeFoul : Cond.selects yX6_removeFoul.cls yX6_removeFoul yX6_removeFoul ∈ q_W := q_t3 222 rfl rfl
def tb_X6_removeFoul : List q_E := [(0, .iload_n 1, 1, 0, 0), (1, .ifCond .ne 11, 3, 0, 12), (4, .aload_n 0, 1, 0, 0), (5, .iconst 0, 1, 0, 0), (6, .putfield 59, 3, 0, 0), (9, .goto 8, 3, 0, 17), (12, .aload_n 0, 1, 0, 0), (13, .iconst 0, 1, 0, 0), (14, .putfield 63, 3, 0, 0), (17, .return_, 1, 0, 0)]
set_option maxRecDepth 100000 in
theorem tk_X6_removeFoul : q_tb cX6_removeFoul 2 tb_X6_removeFoul = true := by decide +kernel
set_option maxRecDepth 100000 in
theorem mw_X6_result : q_mw yX6_result cX6_result 1 (Option.some Jvm.ClassFile.FieldType.int) 0 := ⟨q_t4 131 rfl rfl, by decide +kernel, by decide +kernel, q_init_QuillRelay_Team⟩
set_option maxRecDepth 100000 in
theorem mi_X6_result : Cond.instanceMethod yX6_result ∈ q_W := q_t4 129 rfl rfl
set_option maxRecDepth 100000 in
theorem me_X6_result : Cond.selects yX6_result.cls yX6_result yX6_result ∈ q_W := q_t4 130 rfl rfl
def tb_X6_result : List q_E := [(0, .aload_n 0, 1, 0, 0), (1, .getfield 56, 3, 0, 0), (4, .aload_n 0, 1, 0, 0), (5, .getfield 50, 3, 0, 0), (8, .iadd, 1, 0, 0), (9, .ireturn, 1, 0, 0)]
set_option maxRecDepth 100000 in
theorem tk_X6_result : q_tb cX6_result 1 tb_X6_result = true := by decide +kernel
set_option maxRecDepth 100000 in
theorem mw_X6_isAheadOf : q_mw yX6_isAheadOf cX6_isAheadOf 3 (Option.some Jvm.ClassFile.FieldType.boolean) 1 := ⟨q_t4 150 rfl rfl, by decide +kernel, by decide +kernel, q_init_QuillRelay_Team⟩
set_option maxRecDepth 100000 in
theorem mi_X6_isAheadOf : Cond.instanceMethod yX6_isAheadOf ∈ q_W := q_t4 148 rfl rfl
set_option maxRecDepth 100000 in
theorem me_X6_isAheadOf : Cond.selects yX6_isAheadOf.cls yX6_isAheadOf yX6_isAheadOf ∈ q_W := q_t4 149 rfl rfl
def tb_X6_isAheadOf : List q_E := [(0, .aload_n 0, 1, 0, 0), (1, .getfield 28, 3, 0, 0), (4, .getfield 98, 3, 0, 0), (7, .aload_n 1, 1, 0, 0), (8, .getfield 28, 3, 0, 0), (11, .getfield 98, 3, 0, 0), (14, .if_icmp .eq 26, 3, 0, 40), (17, .aload_n 0, 1, 0, 0), (18, .getfield 28, 3, 0, 0), (21, .getfield 98, 3, 0, 0), (24, .aload_n 1, 1, 0, 0), (25, .getfield 28, 3, 0, 0), (28, .getfield 98, 3, 0, 0), (31, .if_icmp .ge 7, 3, 0, 38), (34, .iconst 1, 1, 1, 0), (35, .goto 4, 3, 0, 39), (38, .iconst 0, 1, 0, 0), (39, .ireturn, 1, 0, 0), (40, .aload_n 0, 1, 0, 0), (41, .getfield 28, 3, 0, 0), (44, .getstatic 82, 3, 0, 0), (47, .if_acmp .ne 15, 3, 0, 62), (50, .aload_n 1, 1, 0, 0), (51, .invokevirtual 101, 3, 0, 0), (54, .aload_n 0, 1, 0, 0), (55, .invokevirtual 101, 3, 0, 0), (58, .isub, 1, 0, 0), (59, .goto 12, 3, 0, 71), (62, .aload_n 0, 1, 0, 0), (63, .getfield 38, 3, 0, 0), (66, .aload_n 1, 1, 0, 0), (67, .getfield 38, 3, 0, 0), (70, .isub, 1, 0, 0), (71, .istore_n 2, 1, 0, 0), (72, .iload_n 2, 1, 0, 0), (73, .ifCond .eq 15, 3, 0, 88), (76, .iload_n 2, 1, 0, 0), (77, .ifCond .le 7, 3, 0, 84), (80, .iconst 1, 1, 1, 0), (81, .goto 23, 3, 0, 104), (84, .iconst 0, 1, 0, 0), (85, .goto 19, 3, 0, 104), (88, .aload_n 0, 1, 0, 0), (89, .getfield 31, 3, 0, 0), (92, .aload_n 1, 1, 0, 0), (93, .getfield 31, 3, 0, 0), (96, .if_icmp .ge 7, 3, 0, 103), (99, .iconst 1, 1, 1, 0), (100, .goto 4, 3, 0, 104), (103, .iconst 0, 1, 0, 0), (104, .ireturn, 1, 0, 0)]
set_option maxRecDepth 100000 in
theorem tk_X6_isAheadOf : q_tb cX6_isAheadOf 3 tb_X6_isAheadOf = true := by decide +kernel
set_option maxRecDepth 100000 in
theorem mw_X8_init : q_mw yX8_init cX8_init 1 (Option.none : Option Jvm.ClassFile.FieldType) 0 := ⟨q_t1 39 rfl rfl, by decide +kernel, by decide +kernel, q_init_QuillRelay⟩
set_option maxRecDepth 100000 in
theorem mi_X8_init : Cond.instanceMethod yX8_init ∈ q_W := q_t1 38 rfl rfl
def tb_X8_init : List q_E := [(0, .aload_n 0, 1, 0, 0), (1, .invokespecial 1, 3, 0, 0), (4, .aload_n 0, 1, 0, 0), (5, .new 7, 3, 0, 0), (8, .dup, 1, 0, 0), (9, .invokespecial 9, 3, 0, 0), (12, .putfield 10, 3, 0, 0), (15, .aload_n 0, 1, 0, 0), (16, .new 7, 3, 0, 0), (19, .dup, 1, 0, 0), (20, .invokespecial 9, 3, 0, 0), (23, .putfield 16, 3, 0, 0), (26, .aload_n 0, 1, 0, 0), (27, .new 7, 3, 0, 0), (30, .dup, 1, 0, 0), (31, .invokespecial 9, 3, 0, 0), (34, .putfield 19, 3, 0, 0), (37, .aload_n 0, 1, 0, 0), (38, .new 22, 3, 0, 0), (41, .dup, 1, 0, 0), (42, .invokespecial 24, 3, 0, 0), (45, .putfield 25, 3, 0, 0), (48, .aload_n 0, 1, 0, 0), (49, .new 29, 3, 0, 0), (52, .dup, 1, 0, 0), (53, .invokespecial 31, 3, 0, 0), (56, .putfield 32, 3, 0, 0), (59, .aload_n 0, 1, 0, 0), (60, .new 36, 3, 0, 0), (63, .dup, 1, 0, 0), (64, .invokespecial 38, 3, 0, 0), (67, .putfield 39, 3, 0, 0), (70, .aload_n 0, 1, 0, 0), (71, .iconst 0, 1, 0, 0), (72, .putfield 43, 3, 0, 0), (75, .aload_n 0, 1, 0, 0), (76, .iconst 0, 1, 0, 0), (77, .putfield 47, 3, 0, 0), (80, .aload_n 0, 1, 0, 0), (81, .iconst (-1), 1, (-1), 0), (82, .putfield 51, 3, 0, 0), (85, .aload_n 0, 1, 0, 0), (86, .iconst (-1), 1, (-1), 0), (87, .putfield 54, 3, 0, 0), (90, .aload_n 0, 1, 0, 0), (91, .iconst (-1), 1, (-1), 0), (92, .putfield 57, 3, 0, 0), (95, .return_, 1, 0, 0)]
set_option maxRecDepth 100000 in
theorem tk_X8_init : q_tb cX8_init 1 tb_X8_init = true := by decide +kernel
set_option maxRecDepth 100000 in
theorem mw_X8_addTeam : q_mw yX8_addTeam cX8_addTeam 1 (Option.some Jvm.ClassFile.FieldType.int) 0 := ⟨q_t2 81 rfl rfl, by decide +kernel, by decide +kernel, q_init_QuillRelay⟩
set_option maxRecDepth 100000 in
theorem mi_X8_addTeam : Cond.instanceMethod yX8_addTeam ∈ q_W := q_t2 79 rfl rfl
set_option maxRecDepth 100000 in
theorem me_X8_addTeam : Cond.selects yX8_addTeam.cls yX8_addTeam yX8_addTeam ∈ q_W := q_t2 80 rfl rfl
def tb_X8_addTeam : List q_E := [(0, .aload_n 0, 1, 0, 0), (1, .getfield 10, 3, 0, 0), (4, .invokevirtual 60, 3, 0, 0), (7, .invokestatic 64, 3, 0, 0), (10, .aload_n 0, 1, 0, 0), (11, .getfield 25, 3, 0, 0), (14, .aload_n 0, 1, 0, 0), (15, .getfield 10, 3, 0, 0), (18, .invokevirtual 68, 3, 0, 0), (21, .aload_n 0, 1, 0, 0), (22, .getfield 10, 3, 0, 0), (25, .invokevirtual 72, 3, 0, 0), (28, .ireturn, 1, 0, 0)]
set_option maxRecDepth 100000 in
theorem tk_X8_addTeam : q_tb cX8_addTeam 1 tb_X8_addTeam = true := by decide +kernel
set_option maxRecDepth 100000 in
theorem mw_X8_setSpeed : q_mw yX8_setSpeed cX8_setSpeed 4 (Option.some Jvm.ClassFile.FieldType.int) 3 := ⟨q_t3 23 rfl rfl, by decide +kernel, by decide +kernel, q_init_QuillRelay⟩
set_option maxRecDepth 100000 in
theorem mi_X8_setSpeed : Cond.instanceMethod yX8_setSpeed ∈ q_W := q_t3 21 rfl rfl
set_option maxRecDepth 100000 in
theorem me_X8_setSpeed : Cond.selects yX8_setSpeed.cls yX8_setSpeed yX8_setSpeed ∈ q_W := q_t3 22 rfl rfl
def tb_X8_setSpeed : List q_E := [(0, .aload_n 0, 1, 0, 0), (1, .getfield 10, 3, 0, 0), (4, .iload_n 1, 1, 0, 0), (5, .iload_n 2, 1, 0, 0), (6, .iload_n 3, 1, 0, 0), (7, .invokevirtual 76, 3, 0, 0), (10, .invokestatic 64, 3, 0, 0), (13, .aload_n 0, 1, 0, 0), (14, .getfield 25, 3, 0, 0), (17, .aload_n 0, 1, 0, 0), (18, .getfield 10, 3, 0, 0), (21, .invokevirtual 68, 3, 0, 0), (24, .aload_n 0, 1, 0, 0), (25, .iload_n 1, 1, 0, 0), (26, .invokevirtual 80, 3, 0, 0), (29, .iload_n 2, 1, 0, 0), (30, .iload_n 3, 1, 0, 0), (31, .invokevirtual 84, 3, 0, 0), (34, .ireturn, 1, 0, 0)]
set_option maxRecDepth 100000 in
theorem tk_X8_setSpeed : q_tb cX8_setSpeed 4 tb_X8_setSpeed = true := by decide +kernel
set_option maxRecDepth 100000 in
theorem mw_X8_setLength : q_mw yX8_setLength cX8_setLength 3 (Option.some Jvm.ClassFile.FieldType.int) 1 := ⟨q_t3 57 rfl rfl, by decide +kernel, by decide +kernel, q_init_QuillRelay⟩
set_option maxRecDepth 100000 in
theorem mi_X8_setLength : Cond.instanceMethod yX8_setLength ∈ q_W := q_t3 55 rfl rfl
set_option maxRecDepth 100000 in
theorem me_X8_setLength : Cond.selects yX8_setLength.cls yX8_setLength yX8_setLength ∈ q_W := q_t3 56 rfl rfl
def tb_X8_setLength : List q_E := [(0, .aload_n 0, 1, 0, 0), (1, .getfield 10, 3, 0, 0), (4, .iload_n 1, 1, 0, 0), (5, .invokevirtual 90, 3, 0, 0), (8, .invokestatic 64, 3, 0, 0), (11, .aload_n 0, 1, 0, 0), (12, .getfield 25, 3, 0, 0), (15, .aload_n 0, 1, 0, 0), (16, .getfield 10, 3, 0, 0), (19, .invokevirtual 68, 3, 0, 0), (22, .aload_n 0, 1, 0, 0), (23, .getfield 10, 3, 0, 0), (26, .getfield 94, 3, 0, 0), (29, .istore_n 2, 1, 0, 0), (30, .aload_n 0, 1, 0, 0), (31, .getfield 10, 3, 0, 0), (34, .iload_n 1, 1, 0, 0), (35, .putfield 94, 3, 0, 0), (38, .iload_n 2, 1, 0, 0), (39, .ireturn, 1, 0, 0)]
set_option maxRecDepth 100000 in
theorem tk_X8_setLength : q_tb cX8_setLength 3 tb_X8_setLength = true := by decide +kernel
set_option maxRecDepth 100000 in
theorem mw_X8_drawLanes : q_mw yX8_drawLanes cX8_drawLanes 2 (Option.some Jvm.ClassFile.FieldType.int) 1 := ⟨q_t3 68 rfl rfl, by decide +kernel, by decide +kernel, q_init_QuillRelay⟩
set_option maxRecDepth 100000 in
theorem mi_X8_drawLanes : Cond.instanceMethod yX8_drawLanes ∈ q_W := q_t3 66 rfl rfl
set_option maxRecDepth 100000 in
theorem me_X8_drawLanes : Cond.selects yX8_drawLanes.cls yX8_drawLanes yX8_drawLanes ∈ q_W := q_t3 67 rfl rfl
def tb_X8_drawLanes : List q_E := [(0, .aload_n 0, 1, 0, 0), (1, .getfield 10, 3, 0, 0), (4, .iload_n 1, 1, 0, 0), (5, .invokevirtual 97, 3, 0, 0), (8, .invokestatic 64, 3, 0, 0), (11, .aload_n 0, 1, 0, 0), (12, .getfield 25, 3, 0, 0), (15, .aload_n 0, 1, 0, 0), (16, .getfield 10, 3, 0, 0), (19, .invokevirtual 68, 3, 0, 0), (22, .aload_n 0, 1, 0, 0), (23, .getfield 10, 3, 0, 0), (26, .iload_n 1, 1, 0, 0), (27, .invokevirtual 100, 3, 0, 0), (30, .aload_n 0, 1, 0, 0), (31, .iconst 0, 1, 0, 0), (32, .invokevirtual 80, 3, 0, 0), (35, .getfield 104, 3, 0, 0), (38, .ireturn, 1, 0, 0)]
set_option maxRecDepth 100000 in
theorem tk_X8_drawLanes : q_tb cX8_drawLanes 2 tb_X8_drawLanes = true := by decide +kernel
set_option maxRecDepth 100000 in
theorem mw_X8_start : q_mw yX8_start cX8_start 1 (Option.some Jvm.ClassFile.FieldType.int) 0 := ⟨q_t3 95 rfl rfl, by decide +kernel, by decide +kernel, q_init_QuillRelay⟩
set_option maxRecDepth 100000 in
theorem mi_X8_start : Cond.instanceMethod yX8_start ∈ q_W := q_t3 93 rfl rfl
set_option maxRecDepth 100000 in
theorem me_X8_start : Cond.selects yX8_start.cls yX8_start yX8_start ∈ q_W := q_t3 94 rfl rfl
def tb_X8_start : List q_E := [(0, .aload_n 0, 1, 0, 0), (1, .getfield 10, 3, 0, 0), (4, .invokevirtual 107, 3, 0, 0), (7, .invokestatic 64, 3, 0, 0), (10, .aload_n 0, 1, 0, 0), (11, .getfield 25, 3, 0, 0), (14, .aload_n 0, 1, 0, 0), (15, .getfield 10, 3, 0, 0), (18, .invokevirtual 68, 3, 0, 0), (21, .aload_n 0, 1, 0, 0), (22, .getfield 10, 3, 0, 0), (25, .invokevirtual 110, 3, 0, 0), (28, .aload_n 0, 1, 0, 0), (29, .getfield 10, 3, 0, 0), (32, .invokevirtual 113, 3, 0, 0), (35, .ireturn, 1, 0, 0)]
set_option maxRecDepth 100000 in
theorem tk_X8_start : q_tb cX8_start 1 tb_X8_start = true := by decide +kernel
set_option maxRecDepth 100000 in
theorem mw_X8_run : q_mw yX8_run cX8_run 2 (Option.some Jvm.ClassFile.FieldType.int) 1 := ⟨q_t3 107 rfl rfl, by decide +kernel, by decide +kernel, q_init_QuillRelay⟩
set_option maxRecDepth 100000 in
theorem mi_X8_run : Cond.instanceMethod yX8_run ∈ q_W := q_t3 105 rfl rfl
set_option maxRecDepth 100000 in
theorem me_X8_run : Cond.selects yX8_run.cls yX8_run yX8_run ∈ q_W := q_t3 106 rfl rfl
def tb_X8_run : List q_E := [(0, .aload_n 0, 1, 0, 0), (1, .getfield 10, 3, 0, 0), (4, .iload_n 1, 1, 0, 0), (5, .invokevirtual 116, 3, 0, 0), (8, .invokestatic 64, 3, 0, 0), (11, .aload_n 0, 1, 0, 0), (12, .getfield 25, 3, 0, 0), (15, .aload_n 0, 1, 0, 0), (16, .getfield 10, 3, 0, 0), (19, .invokevirtual 68, 3, 0, 0), (22, .aload_n 0, 1, 0, 0), (23, .getfield 10, 3, 0, 0), (26, .iload_n 1, 1, 0, 0), (27, .invokevirtual 119, 3, 0, 0), (30, .ireturn, 1, 0, 0)]
set_option maxRecDepth 100000 in
theorem tk_X8_run : q_tb cX8_run 2 tb_X8_run = true := by decide +kernel
set_option maxRecDepth 100000 in
theorem mw_X8_pass : q_mw yX8_pass cX8_pass 2 (Option.some Jvm.ClassFile.FieldType.int) 1 := ⟨q_t3 148 rfl rfl, by decide +kernel, by decide +kernel, q_init_QuillRelay⟩
set_option maxRecDepth 100000 in
theorem mi_X8_pass : Cond.instanceMethod yX8_pass ∈ q_W := q_t3 146 rfl rfl
set_option maxRecDepth 100000 in
theorem me_X8_pass : Cond.selects yX8_pass.cls yX8_pass yX8_pass ∈ q_W := q_t3 147 rfl rfl
def tb_X8_pass : List q_E := [(0, .aload_n 0, 1, 0, 0), (1, .iload_n 1, 1, 0, 0), (2, .invokevirtual 123, 3, 0, 0), (5, .invokestatic 64, 3, 0, 0), (8, .aload_n 0, 1, 0, 0), (9, .getfield 25, 3, 0, 0), (12, .aload_n 0, 1, 0, 0), (13, .getfield 10, 3, 0, 0), (16, .invokevirtual 68, 3, 0, 0), (19, .aload_n 0, 1, 0, 0), (20, .getfield 10, 3, 0, 0), (23, .aload_n 0, 1, 0, 0), (24, .iload_n 1, 1, 0, 0), (25, .invokevirtual 80, 3, 0, 0), (28, .invokevirtual 126, 3, 0, 0), (31, .ireturn, 1, 0, 0)]
set_option maxRecDepth 100000 in
theorem tk_X8_pass : q_tb cX8_pass 2 tb_X8_pass = true := by decide +kernel
set_option maxRecDepth 100000 in
theorem mw_X8_drop : q_mw yX8_drop cX8_drop 3 (Option.some Jvm.ClassFile.FieldType.int) 2 := ⟨q_t3 171 rfl rfl, by decide +kernel, by decide +kernel, q_init_QuillRelay⟩
set_option maxRecDepth 100000 in
theorem mi_X8_drop : Cond.instanceMethod yX8_drop ∈ q_W := q_t3 169 rfl rfl
set_option maxRecDepth 100000 in
theorem me_X8_drop : Cond.selects yX8_drop.cls yX8_drop yX8_drop ∈ q_W := q_t3 170 rfl rfl
def tb_X8_drop : List q_E := [(0, .aload_n 0, 1, 0, 0), (1, .getfield 10, 3, 0, 0), (4, .iload_n 1, 1, 0, 0), (5, .iload_n 2, 1, 0, 0), (6, .invokevirtual 130, 3, 0, 0), (9, .invokestatic 64, 3, 0, 0), (12, .aload_n 0, 1, 0, 0), (13, .getfield 25, 3, 0, 0), (16, .aload_n 0, 1, 0, 0), (17, .getfield 10, 3, 0, 0), (20, .invokevirtual 68, 3, 0, 0), (23, .aload_n 0, 1, 0, 0), (24, .getfield 10, 3, 0, 0), (27, .aload_n 0, 1, 0, 0), (28, .iload_n 1, 1, 0, 0), (29, .invokevirtual 80, 3, 0, 0), (32, .iload_n 2, 1, 0, 0), (33, .invokevirtual 134, 3, 0, 0), (36, .ireturn, 1, 0, 0)]
set_option maxRecDepth 100000 in
theorem tk_X8_drop : q_tb cX8_drop 3 tb_X8_drop = true := by decide +kernel
set_option maxRecDepth 100000 in
theorem mw_X8_withdraw : q_mw yX8_withdraw cX8_withdraw 2 (Option.some Jvm.ClassFile.FieldType.int) 1 := ⟨q_t3 194 rfl rfl, by decide +kernel, by decide +kernel, q_init_QuillRelay⟩
set_option maxRecDepth 100000 in
theorem mi_X8_withdraw : Cond.instanceMethod yX8_withdraw ∈ q_W := q_t3 192 rfl rfl
set_option maxRecDepth 100000 in
theorem me_X8_withdraw : Cond.selects yX8_withdraw.cls yX8_withdraw yX8_withdraw ∈ q_W := q_t3 193 rfl rfl
def tb_X8_withdraw : List q_E := [(0, .aload_n 0, 1, 0, 0), (1, .getfield 10, 3, 0, 0), (4, .iload_n 1, 1, 0, 0), (5, .invokevirtual 138, 3, 0, 0), (8, .invokestatic 64, 3, 0, 0), (11, .aload_n 0, 1, 0, 0), (12, .getfield 25, 3, 0, 0), (15, .aload_n 0, 1, 0, 0), (16, .getfield 10, 3, 0, 0), (19, .invokevirtual 68, 3, 0, 0), (22, .aload_n 0, 1, 0, 0), (23, .iload_n 1, 1, 0, 0), (24, .invokevirtual 80, 3, 0, 0), (27, .getstatic 141, 3, 0, 0), (30, .putfield 147, 3, 0, 0), (33, .aload_n 0, 1, 0, 0), (34, .getfield 10, 3, 0, 0), (37, .invokevirtual 150, 3, 0, 0), (40, .ireturn, 1, 0, 0)]
set_option maxRecDepth 100000 in
theorem tk_X8_withdraw : q_tb cX8_withdraw 2 tb_X8_withdraw = true := by decide +kernel
set_option maxRecDepth 100000 in
theorem mw_X8_protest : q_mw yX8_protest cX8_protest 4 (Option.some Jvm.ClassFile.FieldType.boolean) 3 := ⟨q_t3 204 rfl rfl, by decide +kernel, by decide +kernel, q_init_QuillRelay⟩
set_option maxRecDepth 100000 in
theorem mi_X8_protest : Cond.instanceMethod yX8_protest ∈ q_W := q_t3 202 rfl rfl
set_option maxRecDepth 100000 in
theorem me_X8_protest : Cond.selects yX8_protest.cls yX8_protest yX8_protest ∈ q_W := q_t3 203 rfl rfl
def tb_X8_protest : List q_E := [(0, .aload_n 0, 1, 0, 0), (1, .getfield 10, 3, 0, 0), (4, .iload_n 1, 1, 0, 0), (5, .iload_n 2, 1, 0, 0), (6, .iload_n 3, 1, 0, 0), (7, .invokevirtual 153, 3, 0, 0), (10, .invokestatic 64, 3, 0, 0), (13, .aload_n 0, 1, 0, 0), (14, .getfield 25, 3, 0, 0), (17, .aload_n 0, 1, 0, 0), (18, .getfield 10, 3, 0, 0), (21, .invokevirtual 68, 3, 0, 0), (24, .aload_n 0, 1, 0, 0), (25, .getfield 10, 3, 0, 0), (28, .aload_n 0, 1, 0, 0), (29, .iload_n 1, 1, 0, 0), (30, .invokevirtual 80, 3, 0, 0), (33, .aload_n 0, 1, 0, 0), (34, .iload_n 2, 1, 0, 0), (35, .invokevirtual 80, 3, 0, 0), (38, .iload_n 3, 1, 0, 0), (39, .invokevirtual 156, 3, 0, 0), (42, .ireturn, 1, 0, 0)]
set_option maxRecDepth 100000 in
theorem tk_X8_protest : q_tb cX8_protest 4 tb_X8_protest = true := by decide +kernel
set_option maxRecDepth 100000 in
theorem mw_X8_teamCount : q_mw yX8_teamCount cX8_teamCount 1 (Option.some Jvm.ClassFile.FieldType.int) 0 := ⟨q_t2 20 rfl rfl, by decide +kernel, by decide +kernel, q_init_QuillRelay⟩
set_option maxRecDepth 100000 in
theorem mi_X8_teamCount : Cond.instanceMethod yX8_teamCount ∈ q_W := q_t2 18 rfl rfl
set_option maxRecDepth 100000 in
theorem me_X8_teamCount : Cond.selects yX8_teamCount.cls yX8_teamCount yX8_teamCount ∈ q_W := q_t2 19 rfl rfl
def tb_X8_teamCount : List q_E := [(0, .aload_n 0, 1, 0, 0), (1, .getfield 10, 3, 0, 0), (4, .invokevirtual 113, 3, 0, 0), (7, .ireturn, 1, 0, 0)]
set_option maxRecDepth 100000 in
theorem tk_X8_teamCount : q_tb cX8_teamCount 1 tb_X8_teamCount = true := by decide +kernel
set_option maxRecDepth 100000 in
theorem mw_X8_runningCount : q_mw yX8_runningCount cX8_runningCount 1 (Option.some Jvm.ClassFile.FieldType.int) 0 := ⟨q_t2 33 rfl rfl, by decide +kernel, by decide +kernel, q_init_QuillRelay⟩
set_option maxRecDepth 100000 in
theorem mi_X8_runningCount : Cond.instanceMethod yX8_runningCount ∈ q_W := q_t2 31 rfl rfl
set_option maxRecDepth 100000 in
theorem me_X8_runningCount : Cond.selects yX8_runningCount.cls yX8_runningCount yX8_runningCount ∈ q_W := q_t2 32 rfl rfl
def tb_X8_runningCount : List q_E := [(0, .aload_n 0, 1, 0, 0), (1, .getfield 10, 3, 0, 0), (4, .invokevirtual 150, 3, 0, 0), (7, .ireturn, 1, 0, 0)]
set_option maxRecDepth 100000 in
theorem tk_X8_runningCount : q_tb cX8_runningCount 1 tb_X8_runningCount = true := by decide +kernel
set_option maxRecDepth 100000 in
theorem mw_X8_isStarted : q_mw yX8_isStarted cX8_isStarted 1 (Option.some Jvm.ClassFile.FieldType.boolean) 0 := ⟨q_t2 43 rfl rfl, by decide +kernel, by decide +kernel, q_init_QuillRelay⟩
set_option maxRecDepth 100000 in
theorem mi_X8_isStarted : Cond.instanceMethod yX8_isStarted ∈ q_W := q_t2 41 rfl rfl
set_option maxRecDepth 100000 in
theorem me_X8_isStarted : Cond.selects yX8_isStarted.cls yX8_isStarted yX8_isStarted ∈ q_W := q_t2 42 rfl rfl
def tb_X8_isStarted : List q_E := [(0, .aload_n 0, 1, 0, 0), (1, .getfield 10, 3, 0, 0), (4, .getfield 160, 3, 0, 0), (7, .ireturn, 1, 0, 0)]
set_option maxRecDepth 100000 in
theorem tk_X8_isStarted : q_tb cX8_isStarted 1 tb_X8_isStarted = true := by decide +kernel
set_option maxRecDepth 100000 in
theorem mw_X8_isFinished : q_mw yX8_isFinished cX8_isFinished 1 (Option.some Jvm.ClassFile.FieldType.boolean) 0 := ⟨q_t2 47 rfl rfl, by decide +kernel, by decide +kernel, q_init_QuillRelay⟩
set_option maxRecDepth 100000 in
theorem mi_X8_isFinished : Cond.instanceMethod yX8_isFinished ∈ q_W := q_t2 45 rfl rfl
set_option maxRecDepth 100000 in
theorem me_X8_isFinished : Cond.selects yX8_isFinished.cls yX8_isFinished yX8_isFinished ∈ q_W := q_t2 46 rfl rfl
def tb_X8_isFinished : List q_E := [(0, .aload_n 0, 1, 0, 0), (1, .getfield 10, 3, 0, 0), (4, .getfield 160, 3, 0, 0), (7, .ifCond .eq 17, 3, 0, 24), (10, .aload_n 0, 1, 0, 0), (11, .getfield 10, 3, 0, 0), (14, .invokevirtual 150, 3, 0, 0), (17, .ifCond .ne 7, 3, 0, 24), (20, .iconst 1, 1, 1, 0), (21, .goto 4, 3, 0, 25), (24, .iconst 0, 1, 0, 0), (25, .ireturn, 1, 0, 0)]
set_option maxRecDepth 100000 in
theorem tk_X8_isFinished : q_tb cX8_isFinished 1 tb_X8_isFinished = true := by decide +kernel
set_option maxRecDepth 100000 in
theorem mw_X8_clock : q_mw yX8_clock cX8_clock 1 (Option.some Jvm.ClassFile.FieldType.int) 0 := ⟨q_t2 51 rfl rfl, by decide +kernel, by decide +kernel, q_init_QuillRelay⟩
set_option maxRecDepth 100000 in
theorem mi_X8_clock : Cond.instanceMethod yX8_clock ∈ q_W := q_t2 49 rfl rfl
set_option maxRecDepth 100000 in
theorem me_X8_clock : Cond.selects yX8_clock.cls yX8_clock yX8_clock ∈ q_W := q_t2 50 rfl rfl
def tb_X8_clock : List q_E := [(0, .aload_n 0, 1, 0, 0), (1, .getfield 10, 3, 0, 0), (4, .getfield 163, 3, 0, 0), (7, .ireturn, 1, 0, 0)]
set_option maxRecDepth 100000 in
theorem tk_X8_clock : q_tb cX8_clock 1 tb_X8_clock = true := by decide +kernel
set_option maxRecDepth 100000 in
theorem mw_X8_length : q_mw yX8_length cX8_length 1 (Option.some Jvm.ClassFile.FieldType.int) 0 := ⟨q_t2 55 rfl rfl, by decide +kernel, by decide +kernel, q_init_QuillRelay⟩
set_option maxRecDepth 100000 in
theorem mi_X8_length : Cond.instanceMethod yX8_length ∈ q_W := q_t2 53 rfl rfl
set_option maxRecDepth 100000 in
theorem me_X8_length : Cond.selects yX8_length.cls yX8_length yX8_length ∈ q_W := q_t2 54 rfl rfl
def tb_X8_length : List q_E := [(0, .aload_n 0, 1, 0, 0), (1, .getfield 10, 3, 0, 0), (4, .getfield 94, 3, 0, 0), (7, .ireturn, 1, 0, 0)]
set_option maxRecDepth 100000 in
theorem tk_X8_length : q_tb cX8_length 1 tb_X8_length = true := by decide +kernel
set_option maxRecDepth 100000 in
theorem mw_X8_laneOf : q_mw yX8_laneOf cX8_laneOf 2 (Option.some Jvm.ClassFile.FieldType.int) 1 := ⟨q_t3 230 rfl rfl, by decide +kernel, by decide +kernel, q_init_QuillRelay⟩
set_option maxRecDepth 100000 in
theorem mi_X8_laneOf : Cond.instanceMethod yX8_laneOf ∈ q_W := q_t3 228 rfl rfl
set_option maxRecDepth 100000 in
theorem me_X8_laneOf : Cond.selects yX8_laneOf.cls yX8_laneOf yX8_laneOf ∈ q_W := q_t3 229 rfl rfl
def tb_X8_laneOf : List q_E := [(0, .aload_n 0, 1, 0, 0), (1, .iload_n 1, 1, 0, 0), (2, .invokevirtual 80, 3, 0, 0), (5, .getfield 104, 3, 0, 0), (8, .ireturn, 1, 0, 0)]
set_option maxRecDepth 100000 in
theorem tk_X8_laneOf : q_tb cX8_laneOf 2 tb_X8_laneOf = true := by decide +kernel
set_option maxRecDepth 100000 in
theorem mw_X8_teamInLane : q_mw yX8_teamInLane cX8_teamInLane 3 (Option.some Jvm.ClassFile.FieldType.int) 1 := ⟨q_t3 238 rfl rfl, by decide +kernel, by decide +kernel, q_init_QuillRelay⟩
set_option maxRecDepth 100000 in
theorem mi_X8_teamInLane : Cond.instanceMethod yX8_teamInLane ∈ q_W := q_t3 236 rfl rfl
set_option maxRecDepth 100000 in
theorem me_X8_teamInLane : Cond.selects yX8_teamInLane.cls yX8_teamInLane yX8_teamInLane ∈ q_W := q_t3 237 rfl rfl
def tb_X8_teamInLane : List q_E := [(0, .aload_n 0, 1, 0, 0), (1, .getfield 10, 3, 0, 0), (4, .iload_n 1, 1, 0, 0), (5, .invokevirtual 166, 3, 0, 0), (8, .istore_n 2, 1, 0, 0), (9, .iload_n 2, 1, 0, 0), (10, .iconst (-1), 1, (-1), 0), (11, .if_icmp .ne 13, 3, 0, 24), (14, .new 169, 3, 0, 0), (17, .dup, 1, 0, 0), (18, .ldc 171, 2, 0, 0), (20, .invokespecial 173, 3, 0, 0), (23, .athrow, 1, 0, 0), (24, .iload_n 2, 1, 0, 0), (25, .ireturn, 1, 0, 0)]
set_option maxRecDepth 100000 in
theorem tk_X8_teamInLane : q_tb cX8_teamInLane 3 tb_X8_teamInLane = true := by decide +kernel
set_option maxRecDepth 100000 in
theorem mw_X8_speedOf : q_mw yX8_speedOf cX8_speedOf 3 (Option.some Jvm.ClassFile.FieldType.int) 2 := ⟨q_t4 25 rfl rfl, by decide +kernel, by decide +kernel, q_init_QuillRelay⟩
set_option maxRecDepth 100000 in
theorem mi_X8_speedOf : Cond.instanceMethod yX8_speedOf ∈ q_W := q_t4 23 rfl rfl
set_option maxRecDepth 100000 in
theorem me_X8_speedOf : Cond.selects yX8_speedOf.cls yX8_speedOf yX8_speedOf ∈ q_W := q_t4 24 rfl rfl
def tb_X8_speedOf : List q_E := [(0, .aload_n 0, 1, 0, 0), (1, .iload_n 1, 1, 0, 0), (2, .iload_n 2, 1, 0, 0), (3, .invokevirtual 176, 3, 0, 0), (6, .iload_n 2, 1, 0, 0), (7, .invokevirtual 180, 3, 0, 0), (10, .ireturn, 1, 0, 0)]
set_option maxRecDepth 100000 in
theorem tk_X8_speedOf : q_tb cX8_speedOf 3 tb_X8_speedOf = true := by decide +kernel
set_option maxRecDepth 100000 in
theorem mw_X8_positionOf : q_mw yX8_positionOf cX8_positionOf 2 (Option.some Jvm.ClassFile.FieldType.int) 1 := ⟨q_t4 42 rfl rfl, by decide +kernel, by decide +kernel, q_init_QuillRelay⟩
set_option maxRecDepth 100000 in
theorem mi_X8_positionOf : Cond.instanceMethod yX8_positionOf ∈ q_W := q_t4 40 rfl rfl
set_option maxRecDepth 100000 in
theorem me_X8_positionOf : Cond.selects yX8_positionOf.cls yX8_positionOf yX8_positionOf ∈ q_W := q_t4 41 rfl rfl
def tb_X8_positionOf : List q_E := [(0, .aload_n 0, 1, 0, 0), (1, .iload_n 1, 1, 0, 0), (2, .invokevirtual 80, 3, 0, 0), (5, .getfield 183, 3, 0, 0), (8, .ireturn, 1, 0, 0)]
set_option maxRecDepth 100000 in
theorem tk_X8_positionOf : q_tb cX8_positionOf 2 tb_X8_positionOf = true := by decide +kernel
set_option maxRecDepth 100000 in
theorem mw_X8_legOf : q_mw yX8_legOf cX8_legOf 2 (Option.some Jvm.ClassFile.FieldType.int) 1 := ⟨q_t4 49 rfl rfl, by decide +kernel, by decide +kernel, q_init_QuillRelay⟩
set_option maxRecDepth 100000 in
theorem mi_X8_legOf : Cond.instanceMethod yX8_legOf ∈ q_W := q_t4 47 rfl rfl
set_option maxRecDepth 100000 in
theorem me_X8_legOf : Cond.selects yX8_legOf.cls yX8_legOf yX8_legOf ∈ q_W := q_t4 48 rfl rfl
def tb_X8_legOf : List q_E := [(0, .aload_n 0, 1, 0, 0), (1, .iload_n 1, 1, 0, 0), (2, .invokevirtual 80, 3, 0, 0), (5, .getfield 186, 3, 0, 0), (8, .ireturn, 1, 0, 0)]
set_option maxRecDepth 100000 in
theorem tk_X8_legOf : q_tb cX8_legOf 2 tb_X8_legOf = true := by decide +kernel
set_option maxRecDepth 100000 in
theorem mw_X8_isRunning : q_mw yX8_isRunning cX8_isRunning 2 (Option.some Jvm.ClassFile.FieldType.boolean) 1 := ⟨q_t4 56 rfl rfl, by decide +kernel, by decide +kernel, q_init_QuillRelay⟩
set_option maxRecDepth 100000 in
theorem mi_X8_isRunning : Cond.instanceMethod yX8_isRunning ∈ q_W := q_t4 54 rfl rfl
set_option maxRecDepth 100000 in
theorem me_X8_isRunning : Cond.selects yX8_isRunning.cls yX8_isRunning yX8_isRunning ∈ q_W := q_t4 55 rfl rfl
def tb_X8_isRunning : List q_E := [(0, .aload_n 0, 1, 0, 0), (1, .iload_n 1, 1, 0, 0), (2, .invokevirtual 80, 3, 0, 0), (5, .getfield 147, 3, 0, 0), (8, .getstatic 189, 3, 0, 0), (11, .if_acmp .ne 7, 3, 0, 18), (14, .iconst 1, 1, 1, 0), (15, .goto 4, 3, 0, 19), (18, .iconst 0, 1, 0, 0), (19, .ireturn, 1, 0, 0)]
set_option maxRecDepth 100000 in
theorem tk_X8_isRunning : q_tb cX8_isRunning 2 tb_X8_isRunning = true := by decide +kernel
set_option maxRecDepth 100000 in
theorem mw_X8_isInZone : q_mw yX8_isInZone cX8_isInZone 2 (Option.some Jvm.ClassFile.FieldType.boolean) 1 := ⟨q_t4 63 rfl rfl, by decide +kernel, by decide +kernel, q_init_QuillRelay⟩
set_option maxRecDepth 100000 in
theorem mi_X8_isInZone : Cond.instanceMethod yX8_isInZone ∈ q_W := q_t4 61 rfl rfl
set_option maxRecDepth 100000 in
theorem me_X8_isInZone : Cond.selects yX8_isInZone.cls yX8_isInZone yX8_isInZone ∈ q_W := q_t4 62 rfl rfl
def tb_X8_isInZone : List q_E := [(0, .aload_n 0, 1, 0, 0), (1, .iload_n 1, 1, 0, 0), (2, .invokevirtual 80, 3, 0, 0), (5, .aload_n 0, 1, 0, 0), (6, .getfield 10, 3, 0, 0), (9, .getfield 94, 3, 0, 0), (12, .invokevirtual 192, 3, 0, 0), (15, .ireturn, 1, 0, 0)]
set_option maxRecDepth 100000 in
theorem tk_X8_isInZone : q_tb cX8_isInZone 2 tb_X8_isInZone = true := by decide +kernel
set_option maxRecDepth 100000 in
theorem mw_X8_standingOf : q_mw yX8_standingOf cX8_standingOf 2 (Option.some Jvm.ClassFile.FieldType.int) 1 := ⟨q_t4 71 rfl rfl, by decide +kernel, by decide +kernel, q_init_QuillRelay⟩
set_option maxRecDepth 100000 in
theorem mi_X8_standingOf : Cond.instanceMethod yX8_standingOf ∈ q_W := q_t4 69 rfl rfl
set_option maxRecDepth 100000 in
theorem me_X8_standingOf : Cond.selects yX8_standingOf.cls yX8_standingOf yX8_standingOf ∈ q_W := q_t4 70 rfl rfl
def tb_X8_standingOf : List q_E := [(0, .aload_n 0, 1, 0, 0), (1, .iload_n 1, 1, 0, 0), (2, .invokevirtual 80, 3, 0, 0), (5, .getfield 196, 3, 0, 0), (8, .ireturn, 1, 0, 0)]
set_option maxRecDepth 100000 in
theorem tk_X8_standingOf : q_tb cX8_standingOf 2 tb_X8_standingOf = true := by decide +kernel
set_option maxRecDepth 100000 in
theorem mw_X8_penaltyOf : q_mw yX8_penaltyOf cX8_penaltyOf 2 (Option.some Jvm.ClassFile.FieldType.int) 1 := ⟨q_t4 78 rfl rfl, by decide +kernel, by decide +kernel, q_init_QuillRelay⟩
set_option maxRecDepth 100000 in
theorem mi_X8_penaltyOf : Cond.instanceMethod yX8_penaltyOf ∈ q_W := q_t4 76 rfl rfl
set_option maxRecDepth 100000 in
theorem me_X8_penaltyOf : Cond.selects yX8_penaltyOf.cls yX8_penaltyOf yX8_penaltyOf ∈ q_W := q_t4 77 rfl rfl
def tb_X8_penaltyOf : List q_E := [(0, .aload_n 0, 1, 0, 0), (1, .iload_n 1, 1, 0, 0), (2, .invokevirtual 80, 3, 0, 0), (5, .getfield 199, 3, 0, 0), (8, .ireturn, 1, 0, 0)]
set_option maxRecDepth 100000 in
theorem tk_X8_penaltyOf : q_tb cX8_penaltyOf 2 tb_X8_penaltyOf = true := by decide +kernel
set_option maxRecDepth 100000 in
theorem mw_X8_hasFoul : q_mw yX8_hasFoul cX8_hasFoul 4 (Option.some Jvm.ClassFile.FieldType.boolean) 2 := ⟨q_t4 85 rfl rfl, by decide +kernel, by decide +kernel, q_init_QuillRelay⟩
set_option maxRecDepth 100000 in
theorem mi_X8_hasFoul : Cond.instanceMethod yX8_hasFoul ∈ q_W := q_t4 83 rfl rfl
set_option maxRecDepth 100000 in
theorem me_X8_hasFoul : Cond.selects yX8_hasFoul.cls yX8_hasFoul yX8_hasFoul ∈ q_W := q_t4 84 rfl rfl
def tb_X8_hasFoul : List q_E := [(0, .aload_n 0, 1, 0, 0), (1, .iload_n 1, 1, 0, 0), (2, .invokevirtual 80, 3, 0, 0), (5, .astore_n 3, 1, 0, 0), (6, .iload_n 2, 1, 0, 0), (7, .invokestatic 202, 3, 0, 0), (10, .ifCond .ne 13, 3, 0, 23), (13, .new 205, 3, 0, 0), (16, .dup, 1, 0, 0), (17, .ldc 207, 2, 0, 0), (19, .invokespecial 209, 3, 0, 0), (22, .athrow, 1, 0, 0), (23, .aload_n 3, 1, 0, 0), (24, .iload_n 2, 1, 0, 0), (25, .invokevirtual 210, 3, 0, 0), (28, .ireturn, 1, 0, 0)]
set_option maxRecDepth 100000 in
theorem tk_X8_hasFoul : q_tb cX8_hasFoul 4 tb_X8_hasFoul = true := by decide +kernel
set_option maxRecDepth 100000 in
theorem mw_X8_splitOf : q_mw yX8_splitOf cX8_splitOf 4 (Option.some Jvm.ClassFile.FieldType.int) 2 := ⟨q_t4 95 rfl rfl, by decide +kernel, by decide +kernel, q_init_QuillRelay⟩
set_option maxRecDepth 100000 in
theorem mi_X8_splitOf : Cond.instanceMethod yX8_splitOf ∈ q_W := q_t4 93 rfl rfl
set_option maxRecDepth 100000 in
theorem me_X8_splitOf : Cond.selects yX8_splitOf.cls yX8_splitOf yX8_splitOf ∈ q_W := q_t4 94 rfl rfl
def tb_X8_splitOf : List q_E := [(0, .aload_n 0, 1, 0, 0), (1, .iload_n 1, 1, 0, 0), (2, .iload_n 2, 1, 0, 0), (3, .invokevirtual 176, 3, 0, 0), (6, .astore_n 3, 1, 0, 0), (7, .aload_n 3, 1, 0, 0), (8, .iload_n 2, 1, 0, 0), (9, .invokevirtual 213, 3, 0, 0), (12, .ifCond .ne 13, 3, 0, 25), (15, .new 169, 3, 0, 0), (18, .dup, 1, 0, 0), (19, .ldc 216, 2, 0, 0), (21, .invokespecial 173, 3, 0, 0), (24, .athrow, 1, 0, 0), (25, .aload_n 3, 1, 0, 0), (26, .getfield 218, 3, 0, 0), (29, .iload_n 2, 1, 0, 0), (30, .invokestatic 222, 3, 0, 0), (33, .ireturn, 1, 0, 0)]
set_option maxRecDepth 100000 in
theorem tk_X8_splitOf : q_tb cX8_splitOf 4 tb_X8_splitOf = true := by decide +kernel
set_option maxRecDepth 100000 in
theorem mw_X8_splitSum : q_mw yX8_splitSum cX8_splitSum 7 (Option.some Jvm.ClassFile.FieldType.int) 1 := ⟨q_t4 107 rfl rfl, by decide +kernel, by decide +kernel, q_init_QuillRelay⟩
set_option maxRecDepth 100000 in
theorem mi_X8_splitSum : Cond.instanceMethod yX8_splitSum ∈ q_W := q_t4 105 rfl rfl
set_option maxRecDepth 100000 in
theorem me_X8_splitSum : Cond.selects yX8_splitSum.cls yX8_splitSum yX8_splitSum ∈ q_W := q_t4 106 rfl rfl
def tb_X8_splitSum : List q_E := [(0, .iconst 0, 1, 0, 0), (1, .istore_n 2, 1, 0, 0), (2, .aload_n 0, 1, 0, 0), (3, .iload_n 1, 1, 0, 0), (4, .invokevirtual 80, 3, 0, 0), (7, .getfield 218, 3, 0, 0), (10, .astore_n 3, 1, 0, 0), (11, .aload_n 3, 1, 0, 0), (12, .arraylength, 1, 0, 20), (13, .istore 4, 2, 0, 0), (15, .iconst 0, 1, 0, 0), (16, .istore 5, 2, 0, 0), (18, .iload 5, 2, 0, 0), (20, .iload 4, 2, 0, 0), (22, .if_icmp .ge 20, 3, 0, 42), (25, .aload_n 3, 1, 0, 0), (26, .iload 5, 2, 0, 0), (28, .iaload, 1, 0, 0), (29, .istore 6, 2, 0, 0), (31, .iload_n 2, 1, 0, 0), (32, .iload 6, 2, 0, 0), (34, .iadd, 1, 0, 0), (35, .istore_n 2, 1, 0, 0), (36, .iinc 5 1, 3, 1, 0), (39, .goto (-21), 3, 0, 18), (42, .iload_n 2, 1, 0, 0), (43, .ireturn, 1, 0, 0)]
set_option maxRecDepth 100000 in
theorem tk_X8_splitSum : q_tb cX8_splitSum 7 tb_X8_splitSum = true := by decide +kernel
set_option maxRecDepth 100000 in
theorem mw_X8_timeOf : q_mw yX8_timeOf cX8_timeOf 2 (Option.some Jvm.ClassFile.FieldType.int) 1 := ⟨q_t4 114 rfl rfl, by decide +kernel, by decide +kernel, q_init_QuillRelay⟩
set_option maxRecDepth 100000 in
theorem mi_X8_timeOf : Cond.instanceMethod yX8_timeOf ∈ q_W := q_t4 112 rfl rfl
set_option maxRecDepth 100000 in
theorem me_X8_timeOf : Cond.selects yX8_timeOf.cls yX8_timeOf yX8_timeOf ∈ q_W := q_t4 113 rfl rfl
def tb_X8_timeOf : List q_E := [(0, .aload_n 0, 1, 0, 0), (1, .iload_n 1, 1, 0, 0), (2, .invokevirtual 226, 3, 0, 0), (5, .getfield 229, 3, 0, 0), (8, .ireturn, 1, 0, 0)]
set_option maxRecDepth 100000 in
theorem tk_X8_timeOf : q_tb cX8_timeOf 2 tb_X8_timeOf = true := by decide +kernel
set_option maxRecDepth 100000 in
theorem mw_X8_resultOf : q_mw yX8_resultOf cX8_resultOf 2 (Option.some Jvm.ClassFile.FieldType.int) 1 := ⟨q_t4 127 rfl rfl, by decide +kernel, by decide +kernel, q_init_QuillRelay⟩
set_option maxRecDepth 100000 in
theorem mi_X8_resultOf : Cond.instanceMethod yX8_resultOf ∈ q_W := q_t4 125 rfl rfl
set_option maxRecDepth 100000 in
theorem me_X8_resultOf : Cond.selects yX8_resultOf.cls yX8_resultOf yX8_resultOf ∈ q_W := q_t4 126 rfl rfl
def tb_X8_resultOf : List q_E := [(0, .aload_n 0, 1, 0, 0), (1, .iload_n 1, 1, 0, 0), (2, .invokevirtual 226, 3, 0, 0), (5, .invokevirtual 232, 3, 0, 0), (8, .ireturn, 1, 0, 0)]
set_option maxRecDepth 100000 in
theorem tk_X8_resultOf : q_tb cX8_resultOf 2 tb_X8_resultOf = true := by decide +kernel
set_option maxRecDepth 100000 in
theorem mw_X8_teamAtRank : q_mw yX8_teamAtRank cX8_teamAtRank 3 (Option.some Jvm.ClassFile.FieldType.int) 1 := ⟨q_t4 138 rfl rfl, by decide +kernel, by decide +kernel, q_init_QuillRelay⟩
set_option maxRecDepth 100000 in
theorem mi_X8_teamAtRank : Cond.instanceMethod yX8_teamAtRank ∈ q_W := q_t4 136 rfl rfl
set_option maxRecDepth 100000 in
theorem me_X8_teamAtRank : Cond.selects yX8_teamAtRank.cls yX8_teamAtRank yX8_teamAtRank ∈ q_W := q_t4 137 rfl rfl
def tb_X8_teamAtRank : List q_E := [(0, .aload_n 0, 1, 0, 0), (1, .getfield 10, 3, 0, 0), (4, .iload_n 1, 1, 0, 0), (5, .invokevirtual 235, 3, 0, 0), (8, .istore_n 2, 1, 0, 0), (9, .iload_n 2, 1, 0, 0), (10, .iconst (-1), 1, (-1), 0), (11, .if_icmp .ne 13, 3, 0, 24), (14, .new 169, 3, 0, 0), (17, .dup, 1, 0, 0), (18, .ldc 238, 2, 0, 0), (20, .invokespecial 173, 3, 0, 0), (23, .athrow, 1, 0, 0), (24, .iload_n 2, 1, 0, 0), (25, .ireturn, 1, 0, 0)]
set_option maxRecDepth 100000 in
theorem tk_X8_teamAtRank : q_tb cX8_teamAtRank 3 tb_X8_teamAtRank = true := by decide +kernel
set_option maxRecDepth 100000 in
theorem mw_X8_rankOf : q_mw yX8_rankOf cX8_rankOf 2 (Option.some Jvm.ClassFile.FieldType.int) 1 := ⟨q_t4 159 rfl rfl, by decide +kernel, by decide +kernel, q_init_QuillRelay⟩
set_option maxRecDepth 100000 in
theorem mi_X8_rankOf : Cond.instanceMethod yX8_rankOf ∈ q_W := q_t4 157 rfl rfl
set_option maxRecDepth 100000 in
theorem me_X8_rankOf : Cond.selects yX8_rankOf.cls yX8_rankOf yX8_rankOf ∈ q_W := q_t4 158 rfl rfl
def tb_X8_rankOf : List q_E := [(0, .aload_n 0, 1, 0, 0), (1, .getfield 10, 3, 0, 0), (4, .aload_n 0, 1, 0, 0), (5, .iload_n 1, 1, 0, 0), (6, .invokevirtual 80, 3, 0, 0), (9, .invokevirtual 240, 3, 0, 0), (12, .ireturn, 1, 0, 0)]
set_option maxRecDepth 100000 in
theorem tk_X8_rankOf : q_tb cX8_rankOf 2 tb_X8_rankOf = true := by decide +kernel
set_option maxRecDepth 100000 in
theorem mw_X8_meanTime : q_mw yX8_meanTime cX8_meanTime 2 (Option.some Jvm.ClassFile.FieldType.double) 0 := ⟨q_t4 181 rfl rfl, by decide +kernel, by decide +kernel, q_init_QuillRelay⟩
set_option maxRecDepth 100000 in
theorem mi_X8_meanTime : Cond.instanceMethod yX8_meanTime ∈ q_W := q_t4 179 rfl rfl
set_option maxRecDepth 100000 in
theorem me_X8_meanTime : Cond.selects yX8_meanTime.cls yX8_meanTime yX8_meanTime ∈ q_W := q_t4 180 rfl rfl
def tb_X8_meanTime : List q_E := [(0, .aload_n 0, 1, 0, 0), (1, .getfield 10, 3, 0, 0), (4, .invokevirtual 243, 3, 0, 0), (7, .istore_n 1, 1, 0, 0), (8, .iload_n 1, 1, 0, 0), (9, .ifCond .ne 13, 3, 0, 22), (12, .new 246, 3, 0, 0), (15, .dup, 1, 0, 0), (16, .ldc 248, 2, 0, 0), (18, .invokespecial 250, 3, 0, 0), (21, .athrow, 1, 0, 0), (22, .aload_n 0, 1, 0, 0), (23, .getfield 10, 3, 0, 0), (26, .invokevirtual 251, 3, 0, 0), (29, .i2d, 1, 0, 0), (30, .iload_n 1, 1, 0, 0), (31, .i2d, 1, 0, 0), (32, .ddiv, 1, 0, 0), (33, .dreturn, 1, 0, 0)]
set_option maxRecDepth 100000 in
theorem tk_X8_meanTime : q_tb cX8_meanTime 2 tb_X8_meanTime = true := by decide +kernel
set_option maxRecDepth 100000 in
theorem mw_X8_reach : q_mw yX8_reach cX8_reach 7 (Option.some Jvm.ClassFile.FieldType.int) 3 := ⟨q_t4 200 rfl rfl, by decide +kernel, by decide +kernel, q_init_QuillRelay⟩
set_option maxRecDepth 100000 in
theorem mi_X8_reach : Cond.instanceMethod yX8_reach ∈ q_W := q_t4 198 rfl rfl
set_option maxRecDepth 100000 in
theorem me_X8_reach : Cond.selects yX8_reach.cls yX8_reach yX8_reach ∈ q_W := q_t4 199 rfl rfl
def tb_X8_reach : List q_E := [(0, .aload_n 0, 1, 0, 0), (1, .iload_n 1, 1, 0, 0), (2, .iload_n 2, 1, 0, 0), (3, .iload_n 3, 1, 0, 0), (4, .invokevirtual 254, 3, 0, 0), (7, .istore 4, 2, 0, 0), (9, .iconst 0, 1, 0, 0), (10, .istore 5, 2, 0, 0), (12, .iconst 0, 1, 0, 0), (13, .istore 6, 2, 0, 0), (15, .iload 6, 2, 0, 0), (17, .iload_n 3, 1, 0, 0), (18, .if_icmp .ge 21, 3, 0, 39), (21, .iload 5, 2, 0, 0), (23, .iload 4, 2, 0, 0), (25, .iload 6, 2, 0, 0), (27, .invokestatic 258, 3, 0, 0), (30, .iadd, 1, 0, 0), (31, .istore 5, 2, 0, 0), (33, .iinc 6 1, 3, 1, 0), (36, .goto (-21), 3, 0, 15), (39, .iload 5, 2, 0, 0), (41, .ireturn, 1, 0, 0)]
set_option maxRecDepth 100000 in
theorem tk_X8_reach : q_tb cX8_reach 7 tb_X8_reach = true := by decide +kernel
set_option maxRecDepth 100000 in
theorem mw_X8_reachByStretches : q_mw yX8_reachByStretches cX8_reachByStretches 8 (Option.some Jvm.ClassFile.FieldType.int) 3 := ⟨q_t4 213 rfl rfl, by decide +kernel, by decide +kernel, q_init_QuillRelay⟩
set_option maxRecDepth 100000 in
theorem mi_X8_reachByStretches : Cond.instanceMethod yX8_reachByStretches ∈ q_W := q_t4 211 rfl rfl
set_option maxRecDepth 100000 in
theorem me_X8_reachByStretches : Cond.selects yX8_reachByStretches.cls yX8_reachByStretches yX8_reachByStretches ∈ q_W := q_t4 212 rfl rfl
def tb_X8_reachByStretches : List q_E := [(0, .aload_n 0, 1, 0, 0), (1, .iload_n 1, 1, 0, 0), (2, .iload_n 2, 1, 0, 0), (3, .iload_n 3, 1, 0, 0), (4, .invokevirtual 254, 3, 0, 0), (7, .istore 4, 2, 0, 0), (9, .iload_n 3, 1, 0, 0), (10, .iload_n 3, 1, 0, 0), (11, .bipush 10, 2, 10, 0), (13, .irem, 1, 0, 0), (14, .isub, 1, 0, 0), (15, .istore 5, 2, 0, 0), (17, .iconst 0, 1, 0, 0), (18, .istore 6, 2, 0, 0), (20, .iconst 0, 1, 0, 0), (21, .istore 7, 2, 0, 0), (23, .iload 7, 2, 0, 0), (25, .iload 5, 2, 0, 0), (27, .if_icmp .ge 24, 3, 0, 51), (30, .iload 6, 2, 0, 0), (32, .bipush 10, 2, 10, 0), (34, .iload 4, 2, 0, 0), (36, .iload 7, 2, 0, 0), (38, .invokestatic 258, 3, 0, 0), (41, .imul, 1, 0, 0), (42, .iadd, 1, 0, 0), (43, .istore 6, 2, 0, 0), (45, .iinc 7 10, 3, 10, 0), (48, .goto (-25), 3, 0, 23), (51, .iload 6, 2, 0, 0), (53, .iload_n 3, 1, 0, 0), (54, .iload 5, 2, 0, 0), (56, .isub, 1, 0, 0), (57, .iload 4, 2, 0, 0), (59, .iload 5, 2, 0, 0), (61, .invokestatic 258, 3, 0, 0), (64, .imul, 1, 0, 0), (65, .iadd, 1, 0, 0), (66, .ireturn, 1, 0, 0)]
set_option maxRecDepth 100000 in
theorem tk_X8_reachByStretches : q_tb cX8_reachByStretches 8 tb_X8_reachByStretches = true := by decide +kernel
set_option maxRecDepth 100000 in
theorem mw_X8_secondsToZone : q_mw yX8_secondsToZone cX8_secondsToZone 3 (Option.some Jvm.ClassFile.FieldType.int) 1 := ⟨q_t4 220 rfl rfl, by decide +kernel, by decide +kernel, q_init_QuillRelay⟩
set_option maxRecDepth 100000 in
theorem mi_X8_secondsToZone : Cond.instanceMethod yX8_secondsToZone ∈ q_W := q_t4 218 rfl rfl
set_option maxRecDepth 100000 in
theorem me_X8_secondsToZone : Cond.selects yX8_secondsToZone.cls yX8_secondsToZone yX8_secondsToZone ∈ q_W := q_t4 219 rfl rfl
def tb_X8_secondsToZone : List q_E := [(0, .aload_n 0, 1, 0, 0), (1, .iload_n 1, 1, 0, 0), (2, .invokevirtual 80, 3, 0, 0), (5, .astore_n 2, 1, 0, 0), (6, .aload_n 2, 1, 0, 0), (7, .getfield 147, 3, 0, 0), (10, .getstatic 189, 3, 0, 0), (13, .if_acmp .eq 14, 3, 0, 27), (16, .new 261, 3, 0, 0), (19, .dup, 1, 0, 0), (20, .ldc_w 263, 3, 0, 0), (23, .invokespecial 265, 3, 0, 0), (26, .athrow, 1, 0, 0), (27, .aload_n 2, 1, 0, 0), (28, .getfield 186, 3, 0, 0), (31, .iconst 3, 1, 3, 0), (32, .if_icmp .lt 14, 3, 0, 46), (35, .new 266, 3, 0, 0), (38, .dup, 1, 0, 0), (39, .ldc_w 268, 3, 0, 0), (42, .invokespecial 270, 3, 0, 0), (45, .athrow, 1, 0, 0), (46, .aload_n 2, 1, 0, 0), (47, .aload_n 0, 1, 0, 0), (48, .getfield 10, 3, 0, 0), (51, .getfield 94, 3, 0, 0), (54, .invokevirtual 271, 3, 0, 0), (57, .ireturn, 1, 0, 0)]
set_option maxRecDepth 100000 in
theorem tk_X8_secondsToZone : q_tb cX8_secondsToZone 3 tb_X8_secondsToZone = true := by decide +kernel
set_option maxRecDepth 100000 in
theorem mw_X8_refusalReason : q_mw yX8_refusalReason cX8_refusalReason 1 (Option.some Jvm.ClassFile.FieldType.int) 0 := ⟨q_t4 234 rfl rfl, by decide +kernel, by decide +kernel, q_init_QuillRelay⟩
set_option maxRecDepth 100000 in
theorem mi_X8_refusalReason : Cond.instanceMethod yX8_refusalReason ∈ q_W := q_t4 232 rfl rfl
set_option maxRecDepth 100000 in
theorem me_X8_refusalReason : Cond.selects yX8_refusalReason.cls yX8_refusalReason yX8_refusalReason ∈ q_W := q_t4 233 rfl rfl
def tb_X8_refusalReason : List q_E := [(0, .aload_n 0, 1, 0, 0), (1, .getfield 47, 3, 0, 0), (4, .ifCond .ne 14, 3, 0, 18), (7, .new 169, 3, 0, 0), (10, .dup, 1, 0, 0), (11, .ldc_w 274, 3, 0, 0), (14, .invokespecial 173, 3, 0, 0), (17, .athrow, 1, 0, 0), (18, .aload_n 0, 1, 0, 0), (19, .getfield 47, 3, 0, 0), (22, .ireturn, 1, 0, 0)]
set_option maxRecDepth 100000 in
theorem tk_X8_refusalReason : q_tb cX8_refusalReason 1 tb_X8_refusalReason = true := by decide +kernel
set_option maxRecDepth 100000 in
theorem mw_X8_refusedTeam : q_mw yX8_refusedTeam cX8_refusedTeam 1 (Option.some Jvm.ClassFile.FieldType.int) 0 := ⟨q_t5 2 rfl rfl, by decide +kernel, by decide +kernel, q_init_QuillRelay⟩
set_option maxRecDepth 100000 in
theorem mi_X8_refusedTeam : Cond.instanceMethod yX8_refusedTeam ∈ q_W := q_t5 0 rfl rfl
set_option maxRecDepth 100000 in
theorem me_X8_refusedTeam : Cond.selects yX8_refusedTeam.cls yX8_refusedTeam yX8_refusedTeam ∈ q_W := q_t5 1 rfl rfl
def tb_X8_refusedTeam : List q_E := [(0, .aload_n 0, 1, 0, 0), (1, .getfield 47, 3, 0, 0), (4, .ifCond .ne 14, 3, 0, 18), (7, .new 169, 3, 0, 0), (10, .dup, 1, 0, 0), (11, .ldc_w 274, 3, 0, 0), (14, .invokespecial 173, 3, 0, 0), (17, .athrow, 1, 0, 0), (18, .aload_n 0, 1, 0, 0), (19, .getfield 51, 3, 0, 0), (22, .ireturn, 1, 0, 0)]
set_option maxRecDepth 100000 in
theorem tk_X8_refusedTeam : q_tb cX8_refusedTeam 1 tb_X8_refusedTeam = true := by decide +kernel
set_option maxRecDepth 100000 in
theorem mw_X8_writeBanner : q_mw yX8_writeBanner cX8_writeBanner 3 (Option.some Jvm.ClassFile.FieldType.int) 1 := ⟨q_t5 9 rfl rfl, by decide +kernel, by decide +kernel, q_init_QuillRelay⟩
set_option maxRecDepth 100000 in
theorem mi_X8_writeBanner : Cond.instanceMethod yX8_writeBanner ∈ q_W := q_t5 7 rfl rfl
set_option maxRecDepth 100000 in
theorem me_X8_writeBanner : Cond.selects yX8_writeBanner.cls yX8_writeBanner yX8_writeBanner ∈ q_W := q_t5 8 rfl rfl
def tb_X8_writeBanner : List q_E := [(0, .aload_n 0, 1, 0, 0), (1, .iload_n 1, 1, 0, 0), (2, .invokevirtual 80, 3, 0, 0), (5, .astore_n 2, 1, 0, 0), (6, .aload_n 0, 1, 0, 0), (7, .getfield 39, 3, 0, 0), (10, .iconst 0, 1, 0, 0), (11, .invokevirtual 276, 3, 0, 0), (14, .aload_n 0, 1, 0, 0), (15, .getfield 39, 3, 0, 0), (18, .bipush 76, 2, 76, 0), (20, .invokevirtual 279, 3, 0, 0), (23, .aload_n 2, 1, 0, 0), (24, .getfield 104, 3, 0, 0), (27, .invokevirtual 283, 3, 0, 0), (30, .bipush 32, 2, 32, 0), (32, .invokevirtual 279, 3, 0, 0), (35, .pop, 1, 0, 0), (36, .aload_n 0, 1, 0, 0), (37, .aload_n 2, 1, 0, 0), (38, .invokevirtual 286, 3, 0, 0), (41, .aload_n 0, 1, 0, 0), (42, .getfield 39, 3, 0, 0), (45, .bipush 32, 2, 32, 0), (47, .invokevirtual 279, 3, 0, 0), (50, .aload_n 2, 1, 0, 0), (51, .getfield 183, 3, 0, 0), (54, .invokevirtual 283, 3, 0, 0), (57, .pop, 1, 0, 0), (58, .aload_n 2, 1, 0, 0), (59, .getfield 199, 3, 0, 0), (62, .ifCond .eq 20, 3, 0, 82), (65, .aload_n 0, 1, 0, 0), (66, .getfield 39, 3, 0, 0), (69, .bipush 43, 2, 43, 0), (71, .invokevirtual 279, 3, 0, 0), (74, .aload_n 2, 1, 0, 0), (75, .getfield 199, 3, 0, 0), (78, .invokevirtual 283, 3, 0, 0), (81, .pop, 1, 0, 0), (82, .aload_n 0, 1, 0, 0), (83, .getfield 39, 3, 0, 0), (86, .invokevirtual 290, 3, 0, 0), (89, .ireturn, 1, 0, 0)]
set_option maxRecDepth 100000 in
theorem tk_X8_writeBanner : q_tb cX8_writeBanner 3 tb_X8_writeBanner = true := by decide +kernel
set_option maxRecDepth 100000 in
theorem mw_X8_bannerAt : q_mw yX8_bannerAt cX8_bannerAt 2 (Option.some Jvm.ClassFile.FieldType.char) 1 := ⟨q_t6 57 rfl rfl, by decide +kernel, by decide +kernel, q_init_QuillRelay⟩
set_option maxRecDepth 100000 in
theorem mi_X8_bannerAt : Cond.instanceMethod yX8_bannerAt ∈ q_W := q_t6 55 rfl rfl
set_option maxRecDepth 100000 in
theorem me_X8_bannerAt : Cond.selects yX8_bannerAt.cls yX8_bannerAt yX8_bannerAt ∈ q_W := q_t6 56 rfl rfl
def tb_X8_bannerAt : List q_E := [(0, .iload_n 1, 1, 0, 0), (1, .ifCond .lt 14, 3, 0, 15), (4, .iload_n 1, 1, 0, 0), (5, .aload_n 0, 1, 0, 0), (6, .getfield 39, 3, 0, 0), (9, .invokevirtual 290, 3, 0, 0), (12, .if_icmp .lt 14, 3, 0, 26), (15, .new 293, 3, 0, 0), (18, .dup, 1, 0, 0), (19, .ldc_w 295, 3, 0, 0), (22, .invokespecial 297, 3, 0, 0), (25, .athrow, 1, 0, 0), (26, .aload_n 0, 1, 0, 0), (27, .getfield 39, 3, 0, 0), (30, .iload_n 1, 1, 0, 0), (31, .invokevirtual 298, 3, 0, 0), (34, .ireturn, 1, 0, 0)]
set_option maxRecDepth 100000 in
theorem tk_X8_bannerAt : q_tb cX8_bannerAt 2 tb_X8_bannerAt = true := by decide +kernel
set_option maxRecDepth 100000 in
theorem mw_X8_type : q_mw yX8_type cX8_type 2 (Option.some Jvm.ClassFile.FieldType.int) 1 := ⟨q_t6 75 rfl rfl, by decide +kernel, by decide +kernel, q_init_QuillRelay⟩
set_option maxRecDepth 100000 in
theorem mi_X8_type : Cond.instanceMethod yX8_type ∈ q_W := q_t6 73 rfl rfl
set_option maxRecDepth 100000 in
theorem me_X8_type : Cond.selects yX8_type.cls yX8_type yX8_type ∈ q_W := q_t6 74 rfl rfl
def tb_X8_type : List q_E := [(0, .iload_n 1, 1, 0, 0), (1, .bipush 32, 2, 32, 0), (3, .if_icmp .lt 9, 3, 0, 12), (6, .iload_n 1, 1, 0, 0), (7, .bipush 126, 2, 126, 0), (9, .if_icmp .le 14, 3, 0, 23), (12, .new 205, 3, 0, 0), (15, .dup, 1, 0, 0), (16, .ldc_w 302, 3, 0, 0), (19, .invokespecial 209, 3, 0, 0), (22, .athrow, 1, 0, 0), (23, .aload_n 0, 1, 0, 0), (24, .getfield 32, 3, 0, 0), (27, .getfield 304, 3, 0, 0), (30, .invokevirtual 290, 3, 0, 0), (33, .bipush 60, 2, 60, 0), (35, .if_icmp .lt 14, 3, 0, 49), (38, .new 261, 3, 0, 0), (41, .dup, 1, 0, 0), (42, .ldc_w 307, 3, 0, 0), (45, .invokespecial 265, 3, 0, 0), (48, .athrow, 1, 0, 0), (49, .aload_n 0, 1, 0, 0), (50, .getfield 32, 3, 0, 0), (53, .getfield 304, 3, 0, 0), (56, .iload_n 1, 1, 0, 0), (57, .invokevirtual 279, 3, 0, 0), (60, .pop, 1, 0, 0), (61, .aload_n 0, 1, 0, 0), (62, .getfield 32, 3, 0, 0), (65, .getfield 304, 3, 0, 0), (68, .invokevirtual 290, 3, 0, 0), (71, .ireturn, 1, 0, 0)]
set_option maxRecDepth 100000 in
theorem tk_X8_type : q_tb cX8_type 2 tb_X8_type = true := by decide +kernel
set_option maxRecDepth 100000 in
theorem mw_X8_execute : q_mw yX8_execute cX8_execute 3 (Option.some Jvm.ClassFile.FieldType.int) 0 := ⟨q_t6 84 rfl rfl, by decide +kernel, by decide +kernel, q_init_QuillRelay⟩
set_option maxRecDepth 100000 in
theorem mi_X8_execute : Cond.instanceMethod yX8_execute ∈ q_W := q_t6 82 rfl rfl
set_option maxRecDepth 100000 in
theorem me_X8_execute : Cond.selects yX8_execute.cls yX8_execute yX8_execute ∈ q_W := q_t6 83 rfl rfl
def tb_X8_execute : List q_E := [(0, .aload_n 0, 1, 0, 0), (1, .getfield 32, 3, 0, 0), (4, .invokevirtual 309, 3, 0, 0), (7, .istore_n 1, 1, 0, 0), (8, .iload_n 1, 1, 0, 0), (9, .iconst (-1), 1, (-1), 0), (10, .if_icmp .ne 10, 3, 0, 20), (13, .aload_n 0, 1, 0, 0), (14, .invokevirtual 312, 3, 0, 0), (17, .goto 4, 3, 0, 21), (20, .iconst (-1), 1, (-1), 0), (21, .istore_n 2, 1, 0, 0), (22, .aload_n 0, 1, 0, 0), (23, .getfield 32, 3, 0, 0), (26, .getfield 304, 3, 0, 0), (29, .iconst 0, 1, 0, 0), (30, .invokevirtual 276, 3, 0, 0), (33, .iload_n 1, 1, 0, 0), (34, .iconst (-1), 1, (-1), 0), (35, .if_icmp .eq 19, 3, 0, 54), (38, .aload_n 0, 1, 0, 0), (39, .iload_n 1, 1, 0, 0), (40, .putfield 54, 3, 0, 0), (43, .new 205, 3, 0, 0), (46, .dup, 1, 0, 0), (47, .ldc_w 315, 3, 0, 0), (50, .invokespecial 209, 3, 0, 0), (53, .athrow, 1, 0, 0), (54, .iload_n 2, 1, 0, 0), (55, .iconst (-1), 1, (-1), 0), (56, .if_icmp .eq 19, 3, 0, 75), (59, .aload_n 0, 1, 0, 0), (60, .iload_n 2, 1, 0, 0), (61, .putfield 57, 3, 0, 0), (64, .new 261, 3, 0, 0), (67, .dup, 1, 0, 0), (68, .ldc_w 317, 3, 0, 0), (71, .invokespecial 265, 3, 0, 0), (74, .athrow, 1, 0, 0), (75, .aload_n 0, 1, 0, 0), (76, .getfield 32, 3, 0, 0), (79, .getfield 319, 3, 0, 0), (82, .ireturn, 1, 0, 0)]
set_option maxRecDepth 100000 in
theorem tk_X8_execute : q_tb cX8_execute 3 tb_X8_execute = true := by decide +kernel
set_option maxRecDepth 100000 in
theorem mw_X8_errorPosition : q_mw yX8_errorPosition cX8_errorPosition 1 (Option.some Jvm.ClassFile.FieldType.int) 0 := ⟨q_t6 175 rfl rfl, by decide +kernel, by decide +kernel, q_init_QuillRelay⟩
set_option maxRecDepth 100000 in
theorem mi_X8_errorPosition : Cond.instanceMethod yX8_errorPosition ∈ q_W := q_t6 173 rfl rfl
set_option maxRecDepth 100000 in
theorem me_X8_errorPosition : Cond.selects yX8_errorPosition.cls yX8_errorPosition yX8_errorPosition ∈ q_W := q_t6 174 rfl rfl
def tb_X8_errorPosition : List q_E := [(0, .aload_n 0, 1, 0, 0), (1, .getfield 54, 3, 0, 0), (4, .iconst (-1), 1, (-1), 0), (5, .if_icmp .ne 14, 3, 0, 19), (8, .new 169, 3, 0, 0), (11, .dup, 1, 0, 0), (12, .ldc_w 322, 3, 0, 0), (15, .invokespecial 173, 3, 0, 0), (18, .athrow, 1, 0, 0), (19, .aload_n 0, 1, 0, 0), (20, .getfield 54, 3, 0, 0), (23, .ireturn, 1, 0, 0)]
set_option maxRecDepth 100000 in
theorem tk_X8_errorPosition : q_tb cX8_errorPosition 1 tb_X8_errorPosition = true := by decide +kernel
set_option maxRecDepth 100000 in
theorem mw_X8_failedCommand : q_mw yX8_failedCommand cX8_failedCommand 1 (Option.some Jvm.ClassFile.FieldType.int) 0 := ⟨q_t6 183 rfl rfl, by decide +kernel, by decide +kernel, q_init_QuillRelay⟩
set_option maxRecDepth 100000 in
theorem mi_X8_failedCommand : Cond.instanceMethod yX8_failedCommand ∈ q_W := q_t6 181 rfl rfl
set_option maxRecDepth 100000 in
theorem me_X8_failedCommand : Cond.selects yX8_failedCommand.cls yX8_failedCommand yX8_failedCommand ∈ q_W := q_t6 182 rfl rfl
def tb_X8_failedCommand : List q_E := [(0, .aload_n 0, 1, 0, 0), (1, .getfield 57, 3, 0, 0), (4, .iconst (-1), 1, (-1), 0), (5, .if_icmp .ne 14, 3, 0, 19), (8, .new 169, 3, 0, 0), (11, .dup, 1, 0, 0), (12, .ldc_w 324, 3, 0, 0), (15, .invokespecial 173, 3, 0, 0), (18, .athrow, 1, 0, 0), (19, .aload_n 0, 1, 0, 0), (20, .getfield 57, 3, 0, 0), (23, .ireturn, 1, 0, 0)]
set_option maxRecDepth 100000 in
theorem tk_X8_failedCommand : q_tb cX8_failedCommand 1 tb_X8_failedCommand = true := by decide +kernel
set_option maxRecDepth 100000 in
theorem mw_X8_undo : q_mw yX8_undo cX8_undo 1 (Option.some Jvm.ClassFile.FieldType.int) 0 := ⟨q_t6 191 rfl rfl, by decide +kernel, by decide +kernel, q_init_QuillRelay⟩
set_option maxRecDepth 100000 in
theorem mi_X8_undo : Cond.instanceMethod yX8_undo ∈ q_W := q_t6 189 rfl rfl
set_option maxRecDepth 100000 in
theorem me_X8_undo : Cond.selects yX8_undo.cls yX8_undo yX8_undo ∈ q_W := q_t6 190 rfl rfl
def tb_X8_undo : List q_E := [(0, .aload_n 0, 1, 0, 0), (1, .getfield 25, 3, 0, 0), (4, .getfield 326, 3, 0, 0), (7, .ifCond .ne 14, 3, 0, 21), (10, .new 261, 3, 0, 0), (13, .dup, 1, 0, 0), (14, .ldc_w 329, 3, 0, 0), (17, .invokespecial 265, 3, 0, 0), (20, .athrow, 1, 0, 0), (21, .aload_n 0, 1, 0, 0), (22, .getfield 25, 3, 0, 0), (25, .aload_n 0, 1, 0, 0), (26, .getfield 10, 3, 0, 0), (29, .invokevirtual 331, 3, 0, 0), (32, .aload_n 0, 1, 0, 0), (33, .getfield 25, 3, 0, 0), (36, .getfield 326, 3, 0, 0), (39, .ireturn, 1, 0, 0)]
set_option maxRecDepth 100000 in
theorem tk_X8_undo : q_tb cX8_undo 1 tb_X8_undo = true := by decide +kernel
set_option maxRecDepth 100000 in
theorem mw_X8_save : q_mw yX8_save cX8_save 1 (Option.some Jvm.ClassFile.FieldType.int) 0 := ⟨q_t2 59 rfl rfl, by decide +kernel, by decide +kernel, q_init_QuillRelay⟩
set_option maxRecDepth 100000 in
theorem mi_X8_save : Cond.instanceMethod yX8_save ∈ q_W := q_t2 57 rfl rfl
set_option maxRecDepth 100000 in
theorem me_X8_save : Cond.selects yX8_save.cls yX8_save yX8_save ∈ q_W := q_t2 58 rfl rfl
def tb_X8_save : List q_E := [(0, .aload_n 0, 1, 0, 0), (1, .getfield 19, 3, 0, 0), (4, .aload_n 0, 1, 0, 0), (5, .getfield 10, 3, 0, 0), (8, .invokevirtual 334, 3, 0, 0), (11, .aload_n 0, 1, 0, 0), (12, .iconst 1, 1, 1, 0), (13, .putfield 43, 3, 0, 0), (16, .aload_n 0, 1, 0, 0), (17, .getfield 10, 3, 0, 0), (20, .getfield 163, 3, 0, 0), (23, .ireturn, 1, 0, 0)]
set_option maxRecDepth 100000 in
theorem tk_X8_save : q_tb cX8_save 1 tb_X8_save = true := by decide +kernel
set_option maxRecDepth 100000 in
theorem mw_X8_restore : q_mw yX8_restore cX8_restore 1 (Option.some Jvm.ClassFile.FieldType.int) 0 := ⟨q_t6 203 rfl rfl, by decide +kernel, by decide +kernel, q_init_QuillRelay⟩
set_option maxRecDepth 100000 in
theorem mi_X8_restore : Cond.instanceMethod yX8_restore ∈ q_W := q_t6 201 rfl rfl
set_option maxRecDepth 100000 in
theorem me_X8_restore : Cond.selects yX8_restore.cls yX8_restore yX8_restore ∈ q_W := q_t6 202 rfl rfl
def tb_X8_restore : List q_E := [(0, .aload_n 0, 1, 0, 0), (1, .getfield 43, 3, 0, 0), (4, .ifCond .ne 14, 3, 0, 18), (7, .new 261, 3, 0, 0), (10, .dup, 1, 0, 0), (11, .ldc_w 337, 3, 0, 0), (14, .invokespecial 265, 3, 0, 0), (17, .athrow, 1, 0, 0), (18, .aload_n 0, 1, 0, 0), (19, .getfield 10, 3, 0, 0), (22, .aload_n 0, 1, 0, 0), (23, .getfield 19, 3, 0, 0), (26, .invokevirtual 334, 3, 0, 0), (29, .aload_n 0, 1, 0, 0), (30, .getfield 25, 3, 0, 0), (33, .iconst 0, 1, 0, 0), (34, .putfield 326, 3, 0, 0), (37, .aload_n 0, 1, 0, 0), (38, .getfield 10, 3, 0, 0), (41, .getfield 163, 3, 0, 0), (44, .ireturn, 1, 0, 0)]
set_option maxRecDepth 100000 in
theorem tk_X8_restore : q_tb cX8_restore 1 tb_X8_restore = true := by decide +kernel
set_option maxRecDepth 100000 in
theorem mw_X8_raise : q_mw yX8_raise cX8_raise 1 (Option.none : Option Jvm.ClassFile.FieldType) 1 := ⟨q_t2 93 rfl rfl, by decide +kernel, by decide +kernel, q_init_QuillRelay⟩
set_option maxRecDepth 100000 in
theorem ms_X8_raise : Cond.static yX8_raise ∈ q_W := q_t2 92 rfl rfl
def tb_X8_raise : List q_E := [(0, .aload_n 0, 1, 0, 0), (1, .getstatic 339, 3, 0, 0), (4, .if_acmp .ne 14, 3, 0, 18), (7, .new 293, 3, 0, 0), (10, .dup, 1, 0, 0), (11, .ldc_w 345, 3, 0, 0), (14, .invokespecial 297, 3, 0, 0), (17, .athrow, 1, 0, 0), (18, .aload_n 0, 1, 0, 0), (19, .getstatic 347, 3, 0, 0), (22, .if_acmp .ne 14, 3, 0, 36), (25, .new 205, 3, 0, 0), (28, .dup, 1, 0, 0), (29, .ldc_w 350, 3, 0, 0), (32, .invokespecial 209, 3, 0, 0), (35, .athrow, 1, 0, 0), (36, .aload_n 0, 1, 0, 0), (37, .getstatic 352, 3, 0, 0), (40, .if_acmp .ne 14, 3, 0, 54), (43, .new 261, 3, 0, 0), (46, .dup, 1, 0, 0), (47, .ldc_w 355, 3, 0, 0), (50, .invokespecial 265, 3, 0, 0), (53, .athrow, 1, 0, 0), (54, .aload_n 0, 1, 0, 0), (55, .getstatic 357, 3, 0, 0), (58, .if_acmp .ne 14, 3, 0, 72), (61, .new 266, 3, 0, 0), (64, .dup, 1, 0, 0), (65, .ldc_w 360, 3, 0, 0), (68, .invokespecial 270, 3, 0, 0), (71, .athrow, 1, 0, 0), (72, .return_, 1, 0, 0)]
set_option maxRecDepth 100000 in
theorem tk_X8_raise : q_tb cX8_raise 1 tb_X8_raise = true := by decide +kernel
set_option maxRecDepth 100000 in
theorem mw_X8_teamWith : q_mw yX8_teamWith cX8_teamWith 3 (Option.some (Jvm.ClassFile.FieldType.object "QuillRelay$Team")) 1 := ⟨q_t3 40 rfl rfl, by decide +kernel, by decide +kernel, q_init_QuillRelay⟩
set_option maxRecDepth 100000 in
theorem mi_X8_teamWith : Cond.instanceMethod yX8_teamWith ∈ q_W := q_t3 39 rfl rfl
set_option maxRecDepth 100000 in
theorem me_X8_teamWith : Cond.selects yX8_teamWith.cls yX8_teamWith yX8_teamWith ∈ q_W := q_s 2 rfl rfl
def tb_X8_teamWith : List q_E := [(0, .aload_n 0, 1, 0, 0), (1, .getfield 10, 3, 0, 0), (4, .iload_n 1, 1, 0, 0), (5, .invokevirtual 362, 3, 0, 0), (8, .astore_n 2, 1, 0, 0), (9, .aload_n 2, 1, 0, 0), (10, .ifnonnull 14, 3, 0, 24), (13, .new 293, 3, 0, 0), (16, .dup, 1, 0, 0), (17, .ldc_w 365, 3, 0, 0), (20, .invokespecial 297, 3, 0, 0), (23, .athrow, 1, 0, 0), (24, .aload_n 2, 1, 0, 0), (25, .areturn, 1, 0, 0)]
set_option maxRecDepth 100000 in
theorem tk_X8_teamWith : q_tb cX8_teamWith 3 tb_X8_teamWith = true := by decide +kernel
set_option maxRecDepth 100000 in
theorem mw_X8_teamWithLeg : q_mw yX8_teamWithLeg cX8_teamWithLeg 4 (Option.some (Jvm.ClassFile.FieldType.object "QuillRelay$Team")) 2 := ⟨q_t4 29 rfl rfl, by decide +kernel, by decide +kernel, q_init_QuillRelay⟩
set_option maxRecDepth 100000 in
theorem mi_X8_teamWithLeg : Cond.instanceMethod yX8_teamWithLeg ∈ q_W := q_t4 28 rfl rfl
set_option maxRecDepth 100000 in
theorem me_X8_teamWithLeg : Cond.selects yX8_teamWithLeg.cls yX8_teamWithLeg yX8_teamWithLeg ∈ q_W := q_s 7 rfl rfl
def tb_X8_teamWithLeg : List q_E := [(0, .aload_n 0, 1, 0, 0), (1, .iload_n 1, 1, 0, 0), (2, .invokevirtual 80, 3, 0, 0), (5, .astore_n 3, 1, 0, 0), (6, .iload_n 2, 1, 0, 0), (7, .invokestatic 367, 3, 0, 0), (10, .ifCond .ne 14, 3, 0, 24), (13, .new 293, 3, 0, 0), (16, .dup, 1, 0, 0), (17, .ldc_w 370, 3, 0, 0), (20, .invokespecial 297, 3, 0, 0), (23, .athrow, 1, 0, 0), (24, .aload_n 3, 1, 0, 0), (25, .areturn, 1, 0, 0)]
set_option maxRecDepth 100000 in
theorem tk_X8_teamWithLeg : q_tb cX8_teamWithLeg 4 tb_X8_teamWithLeg = true := by decide +kernel
set_option maxRecDepth 100000 in
theorem mw_X8_finishedTeamWith : q_mw yX8_finishedTeamWith cX8_finishedTeamWith 3 (Option.some (Jvm.ClassFile.FieldType.object "QuillRelay$Team")) 1 := ⟨q_t4 118 rfl rfl, by decide +kernel, by decide +kernel, q_init_QuillRelay⟩
set_option maxRecDepth 100000 in
theorem mi_X8_finishedTeamWith : Cond.instanceMethod yX8_finishedTeamWith ∈ q_W := q_t4 117 rfl rfl
set_option maxRecDepth 100000 in
theorem me_X8_finishedTeamWith : Cond.selects yX8_finishedTeamWith.cls yX8_finishedTeamWith yX8_finishedTeamWith ∈ q_W := q_s 8 rfl rfl
def tb_X8_finishedTeamWith : List q_E := [(0, .aload_n 0, 1, 0, 0), (1, .iload_n 1, 1, 0, 0), (2, .invokevirtual 80, 3, 0, 0), (5, .astore_n 2, 1, 0, 0), (6, .aload_n 2, 1, 0, 0), (7, .getfield 147, 3, 0, 0), (10, .getstatic 372, 3, 0, 0), (13, .if_acmp .eq 14, 3, 0, 27), (16, .new 169, 3, 0, 0), (19, .dup, 1, 0, 0), (20, .ldc_w 375, 3, 0, 0), (23, .invokespecial 173, 3, 0, 0), (26, .athrow, 1, 0, 0), (27, .aload_n 2, 1, 0, 0), (28, .areturn, 1, 0, 0)]
set_option maxRecDepth 100000 in
theorem tk_X8_finishedTeamWith : q_tb cX8_finishedTeamWith 3 tb_X8_finishedTeamWith = true := by decide +kernel
set_option maxRecDepth 100000 in
theorem mw_X8_speedForReach : q_mw yX8_speedForReach cX8_speedForReach 5 (Option.some Jvm.ClassFile.FieldType.int) 3 := ⟨q_t4 204 rfl rfl, by decide +kernel, by decide +kernel, q_init_QuillRelay⟩
set_option maxRecDepth 100000 in
theorem mi_X8_speedForReach : Cond.instanceMethod yX8_speedForReach ∈ q_W := q_t4 203 rfl rfl
set_option maxRecDepth 100000 in
theorem me_X8_speedForReach : Cond.selects yX8_speedForReach.cls yX8_speedForReach yX8_speedForReach ∈ q_W := q_s 9 rfl rfl
def tb_X8_speedForReach : List q_E := [(0, .aload_n 0, 1, 0, 0), (1, .iload_n 1, 1, 0, 0), (2, .iload_n 2, 1, 0, 0), (3, .invokevirtual 176, 3, 0, 0), (6, .astore 4, 2, 0, 0), (8, .iload_n 3, 1, 0, 0), (9, .ifCond .lt 10, 3, 0, 19), (12, .iload_n 3, 1, 0, 0), (13, .sipush 999, 3, 999, 0), (16, .if_icmp .le 14, 3, 0, 30), (19, .new 205, 3, 0, 0), (22, .dup, 1, 0, 0), (23, .ldc_w 377, 3, 0, 0), (26, .invokespecial 209, 3, 0, 0), (29, .athrow, 1, 0, 0), (30, .aload 4, 2, 0, 0), (32, .iload_n 2, 1, 0, 0), (33, .invokevirtual 180, 3, 0, 0), (36, .ireturn, 1, 0, 0)]
set_option maxRecDepth 100000 in
theorem tk_X8_speedForReach : q_tb cX8_speedForReach 5 tb_X8_speedForReach = true := by decide +kernel
set_option maxRecDepth 100000 in
theorem mw_X8_faultOfPassing : q_mw yX8_faultOfPassing cX8_faultOfPassing 4 (Option.some (Jvm.ClassFile.FieldType.object "QuillRelay$Fault")) 1 := ⟨q_t3 152 rfl rfl, by decide +kernel, by decide +kernel, q_init_QuillRelay⟩
set_option maxRecDepth 100000 in
theorem mi_X8_faultOfPassing : Cond.instanceMethod yX8_faultOfPassing ∈ q_W := q_t3 151 rfl rfl
set_option maxRecDepth 100000 in
theorem me_X8_faultOfPassing : Cond.selects yX8_faultOfPassing.cls yX8_faultOfPassing yX8_faultOfPassing ∈ q_W := q_s 6 rfl rfl
def tb_X8_faultOfPassing : List q_E := [(0, .aload_n 0, 1, 0, 0), (1, .getfield 10, 3, 0, 0), (4, .iload_n 1, 1, 0, 0), (5, .invokevirtual 362, 3, 0, 0), (8, .astore_n 2, 1, 0, 0), (9, .aload_n 2, 1, 0, 0), (10, .ifnonnull 7, 3, 0, 17), (13, .getstatic 339, 3, 0, 0), (16, .areturn, 1, 0, 0), (17, .aload_n 2, 1, 0, 0), (18, .getfield 147, 3, 0, 0), (21, .getstatic 189, 3, 0, 0), (24, .if_acmp .eq 7, 3, 0, 31), (27, .getstatic 352, 3, 0, 0), (30, .areturn, 1, 0, 0), (31, .aload_n 2, 1, 0, 0), (32, .aload_n 0, 1, 0, 0), (33, .getfield 10, 3, 0, 0), (36, .getfield 94, 3, 0, 0), (39, .invokevirtual 379, 3, 0, 0), (42, .istore_n 3, 1, 0, 0), (43, .iload_n 3, 1, 0, 0), (44, .ifCond .ne 7, 3, 0, 51), (47, .getstatic 382, 3, 0, 0), (50, .areturn, 1, 0, 0), (51, .aload_n 0, 1, 0, 0), (52, .iload_n 3, 1, 0, 0), (53, .putfield 47, 3, 0, 0), (56, .aload_n 0, 1, 0, 0), (57, .iload_n 1, 1, 0, 0), (58, .putfield 51, 3, 0, 0), (61, .getstatic 357, 3, 0, 0), (64, .areturn, 1, 0, 0)]
set_option maxRecDepth 100000 in
theorem tk_X8_faultOfPassing : q_tb cX8_faultOfPassing 4 tb_X8_faultOfPassing = true := by decide +kernel
set_option maxRecDepth 100000 in
theorem mw_X8_appendStage : q_mw yX8_appendStage cX8_appendStage 2 (Option.none : Option Jvm.ClassFile.FieldType) 1 := ⟨q_t6 49 rfl rfl, by decide +kernel, by decide +kernel, q_init_QuillRelay⟩
set_option maxRecDepth 100000 in
theorem mi_X8_appendStage : Cond.instanceMethod yX8_appendStage ∈ q_W := q_t6 48 rfl rfl
set_option maxRecDepth 100000 in
theorem me_X8_appendStage : Cond.selects yX8_appendStage.cls yX8_appendStage yX8_appendStage ∈ q_W := q_s 10 rfl rfl
def tb_X8_appendStage : List q_E := [(0, .aload_n 1, 1, 0, 0), (1, .getfield 147, 3, 0, 0), (4, .getstatic 189, 3, 0, 0), (7, .if_acmp .ne 23, 3, 0, 30), (10, .aload_n 0, 1, 0, 0), (11, .getfield 39, 3, 0, 0), (14, .bipush 114, 2, 114, 0), (16, .invokevirtual 279, 3, 0, 0), (19, .aload_n 1, 1, 0, 0), (20, .getfield 186, 3, 0, 0), (23, .invokevirtual 283, 3, 0, 0), (26, .pop, 1, 0, 0), (27, .goto 66, 3, 0, 93), (30, .aload_n 1, 1, 0, 0), (31, .getfield 147, 3, 0, 0), (34, .getstatic 372, 3, 0, 0), (37, .if_acmp .ne 23, 3, 0, 60), (40, .aload_n 0, 1, 0, 0), (41, .getfield 39, 3, 0, 0), (44, .bipush 102, 2, 102, 0), (46, .invokevirtual 279, 3, 0, 0), (49, .aload_n 1, 1, 0, 0), (50, .invokevirtual 232, 3, 0, 0), (53, .invokevirtual 283, 3, 0, 0), (56, .pop, 1, 0, 0), (57, .goto 36, 3, 0, 93), (60, .aload_n 1, 1, 0, 0), (61, .getfield 147, 3, 0, 0), (64, .getstatic 141, 3, 0, 0), (67, .if_acmp .ne 16, 3, 0, 83), (70, .aload_n 0, 1, 0, 0), (71, .getfield 39, 3, 0, 0), (74, .bipush 119, 2, 119, 0), (76, .invokevirtual 279, 3, 0, 0), (79, .pop, 1, 0, 0), (80, .goto 13, 3, 0, 93), (83, .aload_n 0, 1, 0, 0), (84, .getfield 39, 3, 0, 0), (87, .bipush 45, 2, 45, 0), (89, .invokevirtual 279, 3, 0, 0), (92, .pop, 1, 0, 0), (93, .return_, 1, 0, 0)]
set_option maxRecDepth 100000 in
theorem tk_X8_appendStage : q_tb cX8_appendStage 2 tb_X8_appendStage = true := by decide +kernel
set_option maxRecDepth 100000 in
theorem mw_X8_performAll : q_mw yX8_performAll cX8_performAll 6 (Option.some Jvm.ClassFile.FieldType.int) 0 := ⟨q_t6 148 rfl rfl, by decide +kernel, by decide +kernel, q_init_QuillRelay⟩
set_option maxRecDepth 100000 in
theorem mi_X8_performAll : Cond.instanceMethod yX8_performAll ∈ q_W := q_t6 147 rfl rfl
set_option maxRecDepth 100000 in
theorem me_X8_performAll : Cond.selects yX8_performAll.cls yX8_performAll yX8_performAll ∈ q_W := q_s 17 rfl rfl
def tb_X8_performAll : List q_E := [(0, .aload_n 0, 1, 0, 0), (1, .getfield 16, 3, 0, 0), (4, .aload_n 0, 1, 0, 0), (5, .getfield 10, 3, 0, 0), (8, .invokevirtual 334, 3, 0, 0), (11, .aload_n 0, 1, 0, 0), (12, .getfield 32, 3, 0, 0), (15, .invokevirtual 385, 3, 0, 0), (18, .iconst 0, 1, 0, 0), (19, .istore_n 1, 1, 0, 0), (20, .iload_n 1, 1, 0, 0), (21, .aload_n 0, 1, 0, 0), (22, .getfield 32, 3, 0, 0), (25, .getfield 319, 3, 0, 0), (28, .if_icmp .ge 110, 3, 0, 138), (31, .aload_n 0, 1, 0, 0), (32, .getfield 32, 3, 0, 0), (35, .invokevirtual 388, 3, 0, 0), (38, .istore_n 2, 1, 0, 0), (39, .aload_n 0, 1, 0, 0), (40, .getfield 32, 3, 0, 0), (43, .getfield 392, 3, 0, 0), (46, .iconst 0, 1, 0, 0), (47, .invokestatic 222, 3, 0, 0), (50, .istore_n 3, 1, 0, 0), (51, .aload_n 0, 1, 0, 0), (52, .getfield 32, 3, 0, 0), (55, .getfield 392, 3, 0, 0), (58, .iconst 1, 1, 1, 0), (59, .invokestatic 222, 3, 0, 0), (62, .istore 4, 2, 0, 0), (64, .aload_n 0, 1, 0, 0), (65, .getfield 32, 3, 0, 0), (68, .getfield 392, 3, 0, 0), (71, .iconst 2, 1, 2, 0), (72, .invokestatic 222, 3, 0, 0), (75, .istore 5, 2, 0, 0), (77, .iload_n 2, 1, 0, 0), (78, .ifCond .eq 25, 3, 0, 103), (81, .aload_n 0, 1, 0, 0), (82, .aload_n 0, 1, 0, 0), (83, .getfield 32, 3, 0, 0), (86, .getfield 395, 3, 0, 0), (89, .iload_n 3, 1, 0, 0), (90, .iload 4, 2, 0, 0), (92, .iload 5, 2, 0, 0), (94, .invokevirtual 399, 3, 0, 0), (97, .getstatic 382, 3, 0, 0), (100, .if_acmp .eq 16, 3, 0, 116), (103, .aload_n 0, 1, 0, 0), (104, .getfield 10, 3, 0, 0), (107, .aload_n 0, 1, 0, 0), (108, .getfield 16, 3, 0, 0), (111, .invokevirtual 334, 3, 0, 0), (114, .iload_n 1, 1, 0, 0), (115, .ireturn, 1, 0, 0), (116, .aload_n 0, 1, 0, 0), (117, .aload_n 0, 1, 0, 0), (118, .getfield 32, 3, 0, 0), (121, .getfield 395, 3, 0, 0), (124, .iload_n 3, 1, 0, 0), (125, .iload 4, 2, 0, 0), (127, .iload 5, 2, 0, 0), (129, .invokevirtual 403, 3, 0, 0), (132, .iinc 1 1, 3, 1, 0), (135, .goto (-115), 3, 0, 20), (138, .aload_n 0, 1, 0, 0), (139, .getfield 25, 3, 0, 0), (142, .aload_n 0, 1, 0, 0), (143, .getfield 16, 3, 0, 0), (146, .invokevirtual 68, 3, 0, 0), (149, .iconst (-1), 1, (-1), 0), (150, .ireturn, 1, 0, 0)]
set_option maxRecDepth 100000 in
theorem tk_X8_performAll : q_tb cX8_performAll 6 tb_X8_performAll = true := by decide +kernel
set_option maxRecDepth 100000 in
theorem mw_X8_faultOf : q_mw yX8_faultOf cX8_faultOf 5 (Option.some (Jvm.ClassFile.FieldType.object "QuillRelay$Fault")) 4 := ⟨q_t6 154 rfl rfl, by decide +kernel, by decide +kernel, q_init_QuillRelay⟩
set_option maxRecDepth 100000 in
theorem mi_X8_faultOf : Cond.instanceMethod yX8_faultOf ∈ q_W := q_t6 153 rfl rfl
set_option maxRecDepth 100000 in
theorem me_X8_faultOf : Cond.selects yX8_faultOf.cls yX8_faultOf yX8_faultOf ∈ q_W := q_s 18 rfl rfl
def tb_X8_faultOf : List q_E := [(0, .getstatic 407, 3, 0, 0), (3, .aload_n 1, 1, 0, 0), (4, .invokevirtual 412, 3, 0, 0), (7, .iaload, 1, 0, 0), (8, .tableswitch 110 1 7 #[44, 52, 61, 67, 77, 86, 98], 44, 0, 0), (52, .aload_n 0, 1, 0, 0), (53, .getfield 10, 3, 0, 0), (56, .invokevirtual 107, 3, 0, 0), (59, .areturn, 1, 0, 0), (60, .aload_n 0, 1, 0, 0), (61, .getfield 10, 3, 0, 0), (64, .iload_n 2, 1, 0, 0), (65, .invokevirtual 116, 3, 0, 0), (68, .areturn, 1, 0, 0), (69, .aload_n 0, 1, 0, 0), (70, .iload_n 2, 1, 0, 0), (71, .invokevirtual 123, 3, 0, 0), (74, .areturn, 1, 0, 0), (75, .aload_n 0, 1, 0, 0), (76, .getfield 10, 3, 0, 0), (79, .iload_n 2, 1, 0, 0), (80, .iload_n 3, 1, 0, 0), (81, .invokevirtual 130, 3, 0, 0), (84, .areturn, 1, 0, 0), (85, .aload_n 0, 1, 0, 0), (86, .getfield 10, 3, 0, 0), (89, .iload_n 2, 1, 0, 0), (90, .invokevirtual 138, 3, 0, 0), (93, .areturn, 1, 0, 0), (94, .aload_n 0, 1, 0, 0), (95, .getfield 10, 3, 0, 0), (98, .iload_n 2, 1, 0, 0), (99, .iload_n 3, 1, 0, 0), (100, .iload 4, 2, 0, 0), (102, .invokevirtual 153, 3, 0, 0), (105, .areturn, 1, 0, 0), (106, .aload_n 0, 1, 0, 0), (107, .getfield 10, 3, 0, 0), (110, .iload_n 2, 1, 0, 0), (111, .iload_n 3, 1, 0, 0), (112, .iload 4, 2, 0, 0), (114, .invokevirtual 76, 3, 0, 0), (117, .areturn, 1, 0, 0), (118, .aload_n 0, 1, 0, 0), (119, .getfield 10, 3, 0, 0), (122, .iload_n 2, 1, 0, 0), (123, .invokevirtual 97, 3, 0, 0), (126, .areturn, 1, 0, 0)]
set_option maxRecDepth 100000 in
theorem tk_X8_faultOf : q_tb cX8_faultOf 5 tb_X8_faultOf = true := by decide +kernel
set_option maxRecDepth 100000 in
theorem mw_X8_apply : q_mw yX8_apply cX8_apply 5 (Option.none : Option Jvm.ClassFile.FieldType) 4 := ⟨q_t6 166 rfl rfl, by decide +kernel, by decide +kernel, q_init_QuillRelay⟩
set_option maxRecDepth 100000 in
theorem mi_X8_apply : Cond.instanceMethod yX8_apply ∈ q_W := q_t6 165 rfl rfl
set_option maxRecDepth 100000 in
theorem me_X8_apply : Cond.selects yX8_apply.cls yX8_apply yX8_apply ∈ q_W := q_s 19 rfl rfl
def tb_X8_apply : List q_E := [(0, .getstatic 407, 3, 0, 0), (3, .aload_n 1, 1, 0, 0), (4, .invokevirtual 412, 3, 0, 0), (7, .iaload, 1, 0, 0), (8, .tableswitch 151 1 7 #[44, 54, 66, 82, 99, 113, 136], 44, 0, 0), (52, .aload_n 0, 1, 0, 0), (53, .getfield 10, 3, 0, 0), (56, .invokevirtual 110, 3, 0, 0), (59, .goto 108, 3, 0, 167), (62, .aload_n 0, 1, 0, 0), (63, .getfield 10, 3, 0, 0), (66, .iload_n 2, 1, 0, 0), (67, .invokevirtual 119, 3, 0, 0), (70, .pop, 1, 0, 0), (71, .goto 96, 3, 0, 167), (74, .aload_n 0, 1, 0, 0), (75, .getfield 10, 3, 0, 0), (78, .aload_n 0, 1, 0, 0), (79, .iload_n 2, 1, 0, 0), (80, .invokevirtual 80, 3, 0, 0), (83, .invokevirtual 126, 3, 0, 0), (86, .pop, 1, 0, 0), (87, .goto 80, 3, 0, 167), (90, .aload_n 0, 1, 0, 0), (91, .getfield 10, 3, 0, 0), (94, .aload_n 0, 1, 0, 0), (95, .iload_n 2, 1, 0, 0), (96, .invokevirtual 80, 3, 0, 0), (99, .iload_n 3, 1, 0, 0), (100, .invokevirtual 134, 3, 0, 0), (103, .pop, 1, 0, 0), (104, .goto 63, 3, 0, 167), (107, .aload_n 0, 1, 0, 0), (108, .iload_n 2, 1, 0, 0), (109, .invokevirtual 80, 3, 0, 0), (112, .getstatic 141, 3, 0, 0), (115, .putfield 147, 3, 0, 0), (118, .goto 49, 3, 0, 167), (121, .aload_n 0, 1, 0, 0), (122, .getfield 10, 3, 0, 0), (125, .aload_n 0, 1, 0, 0), (126, .iload_n 2, 1, 0, 0), (127, .invokevirtual 80, 3, 0, 0), (130, .aload_n 0, 1, 0, 0), (131, .iload_n 3, 1, 0, 0), (132, .invokevirtual 80, 3, 0, 0), (135, .iload 4, 2, 0, 0), (137, .invokevirtual 156, 3, 0, 0), (140, .pop, 1, 0, 0), (141, .goto 26, 3, 0, 167), (144, .aload_n 0, 1, 0, 0), (145, .iload_n 2, 1, 0, 0), (146, .invokevirtual 80, 3, 0, 0), (149, .iload_n 3, 1, 0, 0), (150, .iload 4, 2, 0, 0), (152, .invokevirtual 84, 3, 0, 0), (155, .pop, 1, 0, 0), (156, .goto 11, 3, 0, 167), (159, .aload_n 0, 1, 0, 0), (160, .getfield 10, 3, 0, 0), (163, .iload_n 2, 1, 0, 0), (164, .invokevirtual 100, 3, 0, 0), (167, .return_, 1, 0, 0)]
set_option maxRecDepth 100000 in
theorem tk_X8_apply : q_tb cX8_apply 5 tb_X8_apply = true := by decide +kernel
set_option maxRecDepth 100000 in
theorem mw_X8_isLeg : q_mw yX8_isLeg cX8_isLeg 1 (Option.some Jvm.ClassFile.FieldType.boolean) 1 := ⟨q_t3 34 rfl rfl, by decide +kernel, by decide +kernel, q_init_QuillRelay⟩
set_option maxRecDepth 100000 in
theorem ms_X8_isLeg : Cond.static yX8_isLeg ∈ q_W := q_t3 33 rfl rfl
def tb_X8_isLeg : List q_E := [(0, .iload_n 0, 1, 0, 0), (1, .ifCond .lt 12, 3, 0, 13), (4, .iload_n 0, 1, 0, 0), (5, .iconst 4, 1, 4, 0), (6, .if_icmp .ge 7, 3, 0, 13), (9, .iconst 1, 1, 1, 0), (10, .goto 4, 3, 0, 14), (13, .iconst 0, 1, 0, 0), (14, .ireturn, 1, 0, 0)]
set_option maxRecDepth 100000 in
theorem tk_X8_isLeg : q_tb cX8_isLeg 1 tb_X8_isLeg = true := by decide +kernel
set_option maxRecDepth 100000 in
theorem mw_X8_isKind : q_mw yX8_isKind cX8_isKind 1 (Option.some Jvm.ClassFile.FieldType.boolean) 1 := ⟨q_t3 211 rfl rfl, by decide +kernel, by decide +kernel, q_init_QuillRelay⟩
set_option maxRecDepth 100000 in
theorem ms_X8_isKind : Cond.static yX8_isKind ∈ q_W := q_t3 210 rfl rfl
def tb_X8_isKind : List q_E := [(0, .iload_n 0, 1, 0, 0), (1, .ifCond .eq 8, 3, 0, 9), (4, .iload_n 0, 1, 0, 0), (5, .iconst 1, 1, 1, 0), (6, .if_icmp .ne 7, 3, 0, 13), (9, .iconst 1, 1, 1, 0), (10, .goto 4, 3, 0, 14), (13, .iconst 0, 1, 0, 0), (14, .ireturn, 1, 0, 0)]
set_option maxRecDepth 100000 in
theorem tk_X8_isKind : q_tb cX8_isKind 1 tb_X8_isKind = true := by decide +kernel
set_option maxRecDepth 100000 in
theorem mw_X8_pace : q_mw yX8_pace cX8_pace 2 (Option.some Jvm.ClassFile.FieldType.int) 2 := ⟨q_t3 130 rfl rfl, by decide +kernel, by decide +kernel, q_init_QuillRelay⟩
set_option maxRecDepth 100000 in
theorem ms_X8_pace : Cond.static yX8_pace ∈ q_W := q_t3 129 rfl rfl
def tb_X8_pace : List q_E := [(0, .bipush 10, 2, 10, 0), (2, .iload_n 0, 1, 0, 0), (3, .iload_n 1, 1, 0, 0), (4, .bipush 10, 2, 10, 0), (6, .idiv, 1, 0, 0), (7, .isub, 1, 0, 0), (8, .invokestatic 417, 3, 0, 0), (11, .ireturn, 1, 0, 0)]
set_option maxRecDepth 100000 in
theorem tk_X8_pace : q_tb cX8_pace 2 tb_X8_pace = true := by decide +kernel
set_option maxRecDepth 100000 in
theorem mw_X8_at : q_mw yX8_at cX8_at 2 (Option.some Jvm.ClassFile.FieldType.int) 2 := ⟨q_t2 73 rfl rfl, by decide +kernel, by decide +kernel, q_init_QuillRelay⟩
set_option maxRecDepth 100000 in
theorem ms_X8_at : Cond.static yX8_at ∈ q_W := q_t2 72 rfl rfl
def tb_X8_at : List q_E := [(0, .iload_n 1, 1, 0, 0), (1, .ifCond .lt 15, 3, 0, 16), (4, .iload_n 1, 1, 0, 0), (5, .aload_n 0, 1, 0, 0), (6, .arraylength, 1, 0, 20), (7, .if_icmp .ge 9, 3, 0, 16), (10, .aload_n 0, 1, 0, 0), (11, .iload_n 1, 1, 0, 0), (12, .iaload, 1, 0, 0), (13, .goto 4, 3, 0, 17), (16, .iconst 0, 1, 0, 0), (17, .ireturn, 1, 0, 0)]
set_option maxRecDepth 100000 in
theorem tk_X8_at : q_tb cX8_at 2 tb_X8_at = true := by decide +kernel
set_option maxRecDepth 100000 in
theorem mw_X8_put : q_mw yX8_put cX8_put 3 (Option.none : Option Jvm.ClassFile.FieldType) 3 := ⟨q_t3 50 rfl rfl, by decide +kernel, by decide +kernel, q_init_QuillRelay⟩
set_option maxRecDepth 100000 in
theorem ms_X8_put : Cond.static yX8_put ∈ q_W := q_t3 49 rfl rfl
def tb_X8_put : List q_E := [(0, .iload_n 1, 1, 0, 0), (1, .ifCond .lt 13, 3, 0, 14), (4, .iload_n 1, 1, 0, 0), (5, .aload_n 0, 1, 0, 0), (6, .arraylength, 1, 0, 20), (7, .if_icmp .ge 7, 3, 0, 14), (10, .aload_n 0, 1, 0, 0), (11, .iload_n 1, 1, 0, 0), (12, .iload_n 2, 1, 0, 0), (13, .iastore, 1, 0, 0), (14, .return_, 1, 0, 0)]
set_option maxRecDepth 100000 in
theorem tk_X8_put : q_tb cX8_put 3 tb_X8_put = true := by decide +kernel
set_option maxRecDepth 100000 in
theorem mw_X8_copyRow : q_mw yX8_copyRow cX8_copyRow 3 (Option.none : Option Jvm.ClassFile.FieldType) 2 := ⟨q_t2 70 rfl rfl, by decide +kernel, by decide +kernel, q_init_QuillRelay⟩
set_option maxRecDepth 100000 in
theorem ms_X8_copyRow : Cond.static yX8_copyRow ∈ q_W := q_t2 69 rfl rfl
def tb_X8_copyRow : List q_E := [(0, .iconst 0, 1, 0, 0), (1, .istore_n 2, 1, 0, 0), (2, .iload_n 2, 1, 0, 0), (3, .aload_n 1, 1, 0, 0), (4, .arraylength, 1, 0, 20), (5, .if_icmp .ge 17, 3, 0, 22), (8, .aload_n 1, 1, 0, 0), (9, .iload_n 2, 1, 0, 0), (10, .aload_n 0, 1, 0, 0), (11, .iload_n 2, 1, 0, 0), (12, .invokestatic 222, 3, 0, 0), (15, .iastore, 1, 0, 0), (16, .iinc 2 1, 3, 1, 0), (19, .goto (-17), 3, 0, 2), (22, .return_, 1, 0, 0)]
set_option maxRecDepth 100000 in
theorem tk_X8_copyRow : q_tb cX8_copyRow 3 tb_X8_copyRow = true := by decide +kernel
set_option maxRecDepth 100000 in
theorem mw_X9_init : q_mw yX9_init cX9_init 1 (Option.none : Option Jvm.ClassFile.FieldType) 0 := ⟨q_t6 209 rfl rfl, by decide +kernel, by decide +kernel, q_init_QuillRelayModel⟩
set_option maxRecDepth 100000 in
theorem mi_X9_init : Cond.instanceMethod yX9_init ∈ q_W := q_t6 208 rfl rfl
def tb_X9_init : List q_E := [(0, .aload_n 0, 1, 0, 0), (1, .invokespecial 3, 3, 0, 0), (4, .aload_n 0, 1, 0, 0), (5, .bipush 118, 2, 118, 0), (7, .newarray .int, 2, 0, 0), (9, .putfield 9, 3, 0, 0), (12, .aload_n 0, 1, 0, 0), (13, .bipush 118, 2, 118, 0), (15, .newarray .int, 2, 0, 0), (17, .putfield 13, 3, 0, 0), (20, .aload_n 0, 1, 0, 0), (21, .bipush 118, 2, 118, 0), (23, .newarray .int, 2, 0, 0), (25, .putfield 16, 3, 0, 0), (28, .aload_n 0, 1, 0, 0), (29, .sipush 944, 3, 944, 0), (32, .newarray .int, 2, 0, 0), (34, .putfield 19, 3, 0, 0), (37, .aload_n 0, 1, 0, 0), (38, .iconst (-1), 1, (-1), 0), (39, .putfield 22, 3, 0, 0), (42, .aload_n 0, 1, 0, 0), (43, .iconst (-1), 1, (-1), 0), (44, .putfield 26, 3, 0, 0), (47, .aload_n 0, 1, 0, 0), (48, .bipush 40, 2, 40, 0), (50, .newarray .int, 2, 0, 0), (52, .putfield 29, 3, 0, 0), (55, .aload_n 0, 1, 0, 0), (56, .bipush 60, 2, 60, 0), (58, .newarray .int, 2, 0, 0), (60, .putfield 32, 3, 0, 0), (63, .aload_n 0, 1, 0, 0), (64, .bipush 124, 2, 124, 0), (66, .newarray .int, 2, 0, 0), (68, .putfield 35, 3, 0, 0), (71, .aload_n 0, 1, 0, 0), (72, .getfield 9, 3, 0, 0), (75, .iconst 0, 1, 0, 0), (76, .sipush 1000, 3, 1000, 0), (79, .iastore, 1, 0, 0), (80, .return_, 1, 0, 0)]
set_option maxRecDepth 100000 in
theorem tk_X9_init : q_tb cX9_init 1 tb_X9_init = true := by decide +kernel
set_option maxRecDepth 100000 in
theorem mw_X9_thrown : q_mw yX9_thrown cX9_thrown 1 (Option.some Jvm.ClassFile.FieldType.int) 0 := ⟨q_t7 32 rfl rfl, by decide +kernel, by decide +kernel, q_init_QuillRelayModel⟩
set_option maxRecDepth 100000 in
theorem mi_X9_thrown : Cond.instanceMethod yX9_thrown ∈ q_W := q_t7 30 rfl rfl
set_option maxRecDepth 100000 in
theorem me_X9_thrown : Cond.selects yX9_thrown.cls yX9_thrown yX9_thrown ∈ q_W := q_t7 31 rfl rfl
def tb_X9_thrown : List q_E := [(0, .aload_n 0, 1, 0, 0), (1, .getfield 38, 3, 0, 0), (4, .ireturn, 1, 0, 0)]
set_option maxRecDepth 100000 in
theorem tk_X9_thrown : q_tb cX9_thrown 1 tb_X9_thrown = true := by decide +kernel
set_option maxRecDepth 100000 in
theorem mw_X9_isIn : q_mw yX9_isIn cX9_isIn 3 (Option.some Jvm.ClassFile.FieldType.boolean) 3 := ⟨q_t7 74 rfl rfl, by decide +kernel, by decide +kernel, q_init_QuillRelayModel⟩
set_option maxRecDepth 100000 in
theorem ms_X9_isIn : Cond.static yX9_isIn ∈ q_W := q_t7 73 rfl rfl
def tb_X9_isIn : List q_E := [(0, .iload_n 0, 1, 0, 0), (1, .iload_n 1, 1, 0, 0), (2, .if_icmp .lt 12, 3, 0, 14), (5, .iload_n 0, 1, 0, 0), (6, .iload_n 2, 1, 0, 0), (7, .if_icmp .gt 7, 3, 0, 14), (10, .iconst 1, 1, 1, 0), (11, .goto 4, 3, 0, 15), (14, .iconst 0, 1, 0, 0), (15, .ireturn, 1, 0, 0)]
set_option maxRecDepth 100000 in
theorem tk_X9_isIn : q_tb cX9_isIn 3 tb_X9_isIn = true := by decide +kernel
set_option maxRecDepth 100000 in
theorem mw_X9_copies : q_mw yX9_copies cX9_copies 5 (Option.none : Option Jvm.ClassFile.FieldType) 4 := ⟨q_t7 43 rfl rfl, by decide +kernel, by decide +kernel, q_init_QuillRelayModel⟩
set_option maxRecDepth 100000 in
theorem ms_X9_copies : Cond.static yX9_copies ∈ q_W := q_t7 42 rfl rfl
def tb_X9_copies : List q_E := [(0, .iconst 0, 1, 0, 0), (1, .istore 4, 2, 0, 0), (3, .iload 4, 2, 0, 0), (5, .bipush 118, 2, 118, 0), (7, .if_icmp .ge 21, 3, 0, 28), (10, .aload_n 2, 1, 0, 0), (11, .iload_n 3, 1, 0, 0), (12, .iload 4, 2, 0, 0), (14, .iadd, 1, 0, 0), (15, .aload_n 0, 1, 0, 0), (16, .iload_n 1, 1, 0, 0), (17, .iload 4, 2, 0, 0), (19, .iadd, 1, 0, 0), (20, .iaload, 1, 0, 0), (21, .iastore, 1, 0, 0), (22, .iinc 4 1, 3, 1, 0), (25, .goto (-22), 3, 0, 3), (28, .return_, 1, 0, 0)]
set_option maxRecDepth 100000 in
theorem tk_X9_copies : q_tb cX9_copies 5 tb_X9_copies = true := by decide +kernel
set_option maxRecDepth 100000 in
theorem mw_X9_keeps : q_mw yX9_keeps cX9_keeps 1 (Option.none : Option Jvm.ClassFile.FieldType) 0 := ⟨q_t7 40 rfl rfl, by decide +kernel, by decide +kernel, q_init_QuillRelayModel⟩
set_option maxRecDepth 100000 in
theorem mi_X9_keeps : Cond.instanceMethod yX9_keeps ∈ q_W := q_t7 39 rfl rfl
set_option maxRecDepth 100000 in
theorem me_X9_keeps : Cond.selects yX9_keeps.cls yX9_keeps yX9_keeps ∈ q_W := q_s 20 rfl rfl
def tb_X9_keeps : List q_E := [(0, .aload_n 0, 1, 0, 0), (1, .getfield 9, 3, 0, 0), (4, .iconst 0, 1, 0, 0), (5, .aload_n 0, 1, 0, 0), (6, .getfield 13, 3, 0, 0), (9, .iconst 0, 1, 0, 0), (10, .invokestatic 41, 3, 0, 0), (13, .aload_n 0, 1, 0, 0), (14, .iconst 0, 1, 0, 0), (15, .putfield 38, 3, 0, 0), (18, .return_, 1, 0, 0)]
set_option maxRecDepth 100000 in
theorem tk_X9_keeps : q_tb cX9_keeps 1 tb_X9_keeps = true := by decide +kernel
set_option maxRecDepth 100000 in
theorem mw_X9_ends : q_mw yX9_ends cX9_ends 3 (Option.some Jvm.ClassFile.FieldType.int) 1 := ⟨q_t7 59 rfl rfl, by decide +kernel, by decide +kernel, q_init_QuillRelayModel⟩
set_option maxRecDepth 100000 in
theorem mi_X9_ends : Cond.instanceMethod yX9_ends ∈ q_W := q_t7 58 rfl rfl
set_option maxRecDepth 100000 in
theorem me_X9_ends : Cond.selects yX9_ends.cls yX9_ends yX9_ends ∈ q_W := q_s 24 rfl rfl
def tb_X9_ends : List q_E := [(0, .aload_n 0, 1, 0, 0), (1, .getfield 38, 3, 0, 0), (4, .ifCond .eq 5, 3, 0, 9), (7, .iconst 0, 1, 0, 0), (8, .ireturn, 1, 0, 0), (9, .aload_n 0, 1, 0, 0), (10, .getfield 45, 3, 0, 0), (13, .bipush 8, 2, 8, 0), (15, .if_icmp .ne 48, 3, 0, 63), (18, .iconst 1, 1, 1, 0), (19, .istore_n 2, 1, 0, 0), (20, .iload_n 2, 1, 0, 0), (21, .bipush 8, 2, 8, 0), (23, .if_icmp .ge 30, 3, 0, 53), (26, .aload_n 0, 1, 0, 0), (27, .getfield 19, 3, 0, 0), (30, .bipush 118, 2, 118, 0), (32, .iload_n 2, 1, 0, 0), (33, .imul, 1, 0, 0), (34, .aload_n 0, 1, 0, 0), (35, .getfield 19, 3, 0, 0), (38, .bipush 118, 2, 118, 0), (40, .iload_n 2, 1, 0, 0), (41, .iconst 1, 1, 1, 0), (42, .isub, 1, 0, 0), (43, .imul, 1, 0, 0), (44, .invokestatic 41, 3, 0, 0), (47, .iinc 2 1, 3, 1, 0), (50, .goto (-30), 3, 0, 20), (53, .aload_n 0, 1, 0, 0), (54, .dup, 1, 0, 0), (55, .getfield 45, 3, 0, 0), (58, .iconst 1, 1, 1, 0), (59, .isub, 1, 0, 0), (60, .putfield 45, 3, 0, 0), (63, .aload_n 0, 1, 0, 0), (64, .getfield 13, 3, 0, 0), (67, .iconst 0, 1, 0, 0), (68, .aload_n 0, 1, 0, 0), (69, .getfield 19, 3, 0, 0), (72, .bipush 118, 2, 118, 0), (74, .aload_n 0, 1, 0, 0), (75, .getfield 45, 3, 0, 0), (78, .imul, 1, 0, 0), (79, .invokestatic 41, 3, 0, 0), (82, .aload_n 0, 1, 0, 0), (83, .dup, 1, 0, 0), (84, .getfield 45, 3, 0, 0), (87, .iconst 1, 1, 1, 0), (88, .iadd, 1, 0, 0), (89, .putfield 45, 3, 0, 0), (92, .iload_n 1, 1, 0, 0), (93, .ireturn, 1, 0, 0)]
set_option maxRecDepth 100000 in
theorem tk_X9_ends : q_tb cX9_ends 3 tb_X9_ends = true := by decide +kernel
set_option maxRecDepth 100000 in
theorem mw_X9_isThrown : q_mw yX9_isThrown cX9_isThrown 3 (Option.some Jvm.ClassFile.FieldType.boolean) 2 := ⟨q_t7 51 rfl rfl, by decide +kernel, by decide +kernel, q_init_QuillRelayModel⟩
set_option maxRecDepth 100000 in
theorem mi_X9_isThrown : Cond.instanceMethod yX9_isThrown ∈ q_W := q_t7 50 rfl rfl
set_option maxRecDepth 100000 in
theorem me_X9_isThrown : Cond.selects yX9_isThrown.cls yX9_isThrown yX9_isThrown ∈ q_W := q_s 22 rfl rfl
def tb_X9_isThrown : List q_E := [(0, .aload_n 0, 1, 0, 0), (1, .iload_n 1, 1, 0, 0), (2, .ifCond .eq 7, 3, 0, 9), (5, .iload_n 2, 1, 0, 0), (6, .goto 4, 3, 0, 10), (9, .iconst 0, 1, 0, 0), (10, .putfield 38, 3, 0, 0), (13, .iload_n 1, 1, 0, 0), (14, .ireturn, 1, 0, 0)]
set_option maxRecDepth 100000 in
theorem tk_X9_isThrown : q_tb cX9_isThrown 3 tb_X9_isThrown = true := by decide +kernel
set_option maxRecDepth 100000 in
theorem mw_X9_of : q_mw yX9_of cX9_of 3 (Option.some Jvm.ClassFile.FieldType.int) 2 := ⟨q_t7 81 rfl rfl, by decide +kernel, by decide +kernel, q_init_QuillRelayModel⟩
set_option maxRecDepth 100000 in
theorem mi_X9_of : Cond.instanceMethod yX9_of ∈ q_W := q_t7 80 rfl rfl
set_option maxRecDepth 100000 in
theorem me_X9_of : Cond.selects yX9_of.cls yX9_of yX9_of ∈ q_W := q_s 27 rfl rfl
def tb_X9_of : List q_E := [(0, .aload_n 0, 1, 0, 0), (1, .getfield 9, 3, 0, 0), (4, .iconst 4, 1, 4, 0), (5, .bipush 19, 2, 19, 0), (7, .iload_n 1, 1, 0, 0), (8, .imul, 1, 0, 0), (9, .iadd, 1, 0, 0), (10, .iload_n 2, 1, 0, 0), (11, .iadd, 1, 0, 0), (12, .iaload, 1, 0, 0), (13, .ireturn, 1, 0, 0)]
set_option maxRecDepth 100000 in
theorem tk_X9_of : q_tb cX9_of 3 tb_X9_of = true := by decide +kernel
set_option maxRecDepth 100000 in
theorem mw_X9_sets : q_mw yX9_sets cX9_sets 4 (Option.none : Option Jvm.ClassFile.FieldType) 3 := ⟨q_t7 55 rfl rfl, by decide +kernel, by decide +kernel, q_init_QuillRelayModel⟩
set_option maxRecDepth 100000 in
theorem mi_X9_sets : Cond.instanceMethod yX9_sets ∈ q_W := q_t7 54 rfl rfl
set_option maxRecDepth 100000 in
theorem me_X9_sets : Cond.selects yX9_sets.cls yX9_sets yX9_sets ∈ q_W := q_s 23 rfl rfl
def tb_X9_sets : List q_E := [(0, .aload_n 0, 1, 0, 0), (1, .getfield 9, 3, 0, 0), (4, .iconst 4, 1, 4, 0), (5, .bipush 19, 2, 19, 0), (7, .iload_n 1, 1, 0, 0), (8, .imul, 1, 0, 0), (9, .iadd, 1, 0, 0), (10, .iload_n 2, 1, 0, 0), (11, .iadd, 1, 0, 0), (12, .iload_n 3, 1, 0, 0), (13, .iastore, 1, 0, 0), (14, .return_, 1, 0, 0)]
set_option maxRecDepth 100000 in
theorem tk_X9_sets : q_tb cX9_sets 4 tb_X9_sets = true := by decide +kernel
set_option maxRecDepth 100000 in
theorem mw_X9_isTeam : q_mw yX9_isTeam cX9_isTeam 2 (Option.some Jvm.ClassFile.FieldType.boolean) 1 := ⟨q_t7 71 rfl rfl, by decide +kernel, by decide +kernel, q_init_QuillRelayModel⟩
set_option maxRecDepth 100000 in
theorem mi_X9_isTeam : Cond.instanceMethod yX9_isTeam ∈ q_W := q_t7 70 rfl rfl
set_option maxRecDepth 100000 in
theorem me_X9_isTeam : Cond.selects yX9_isTeam.cls yX9_isTeam yX9_isTeam ∈ q_W := q_s 26 rfl rfl
def tb_X9_isTeam : List q_E := [(0, .iload_n 1, 1, 0, 0), (1, .iconst 0, 1, 0, 0), (2, .aload_n 0, 1, 0, 0), (3, .getfield 9, 3, 0, 0), (6, .iconst 3, 1, 3, 0), (7, .iaload, 1, 0, 0), (8, .iconst 1, 1, 1, 0), (9, .isub, 1, 0, 0), (10, .invokestatic 48, 3, 0, 0), (13, .ireturn, 1, 0, 0)]
set_option maxRecDepth 100000 in
theorem tk_X9_isTeam : q_tb cX9_isTeam 2 tb_X9_isTeam = true := by decide +kernel
set_option maxRecDepth 100000 in
theorem mw_X9_isLeg : q_mw yX9_isLeg cX9_isLeg 1 (Option.some Jvm.ClassFile.FieldType.boolean) 1 := ⟨q_t7 77 rfl rfl, by decide +kernel, by decide +kernel, q_init_QuillRelayModel⟩
set_option maxRecDepth 100000 in
theorem ms_X9_isLeg : Cond.static yX9_isLeg ∈ q_W := q_t7 76 rfl rfl
def tb_X9_isLeg : List q_E := [(0, .iload_n 0, 1, 0, 0), (1, .iconst 0, 1, 0, 0), (2, .iconst 3, 1, 3, 0), (3, .invokestatic 48, 3, 0, 0), (6, .ireturn, 1, 0, 0)]
set_option maxRecDepth 100000 in
theorem tk_X9_isLeg : q_tb cX9_isLeg 1 tb_X9_isLeg = true := by decide +kernel
set_option maxRecDepth 100000 in
theorem mw_X9_isUnprepared : q_mw yX9_isUnprepared cX9_isUnprepared 1 (Option.some Jvm.ClassFile.FieldType.boolean) 0 := ⟨q_t7 47 rfl rfl, by decide +kernel, by decide +kernel, q_init_QuillRelayModel⟩
set_option maxRecDepth 100000 in
theorem mi_X9_isUnprepared : Cond.instanceMethod yX9_isUnprepared ∈ q_W := q_t7 46 rfl rfl
set_option maxRecDepth 100000 in
theorem me_X9_isUnprepared : Cond.selects yX9_isUnprepared.cls yX9_isUnprepared yX9_isUnprepared ∈ q_W := q_s 21 rfl rfl
def tb_X9_isUnprepared : List q_E := [(0, .aload_n 0, 1, 0, 0), (1, .getfield 9, 3, 0, 0), (4, .iconst 1, 1, 1, 0), (5, .iaload, 1, 0, 0), (6, .iconst 1, 1, 1, 0), (7, .if_icmp .ne 7, 3, 0, 14), (10, .iconst 1, 1, 1, 0), (11, .goto 4, 3, 0, 15), (14, .iconst 0, 1, 0, 0), (15, .ireturn, 1, 0, 0)]
set_option maxRecDepth 100000 in
theorem tk_X9_isUnprepared : q_tb cX9_isUnprepared 1 tb_X9_isUnprepared = true := by decide +kernel
set_option maxRecDepth 100000 in
theorem mw_X9_inStatus : q_mw yX9_inStatus cX9_inStatus 4 (Option.some Jvm.ClassFile.FieldType.int) 1 := ⟨q_t7 117 rfl rfl, by decide +kernel, by decide +kernel, q_init_QuillRelayModel⟩
set_option maxRecDepth 100000 in
theorem mi_X9_inStatus : Cond.instanceMethod yX9_inStatus ∈ q_W := q_t7 116 rfl rfl
set_option maxRecDepth 100000 in
theorem me_X9_inStatus : Cond.selects yX9_inStatus.cls yX9_inStatus yX9_inStatus ∈ q_W := q_s 32 rfl rfl
def tb_X9_inStatus : List q_E := [(0, .iconst 0, 1, 0, 0), (1, .istore_n 2, 1, 0, 0), (2, .iconst 0, 1, 0, 0), (3, .istore_n 3, 1, 0, 0), (4, .iload_n 3, 1, 0, 0), (5, .aload_n 0, 1, 0, 0), (6, .getfield 9, 3, 0, 0), (9, .iconst 3, 1, 3, 0), (10, .iaload, 1, 0, 0), (11, .if_icmp .ge 28, 3, 0, 39), (14, .iload_n 2, 1, 0, 0), (15, .aload_n 0, 1, 0, 0), (16, .iload_n 3, 1, 0, 0), (17, .bipush 6, 2, 6, 0), (19, .invokevirtual 52, 3, 0, 0), (22, .iload_n 1, 1, 0, 0), (23, .if_icmp .ne 7, 3, 0, 30), (26, .iconst 1, 1, 1, 0), (27, .goto 4, 3, 0, 31), (30, .iconst 0, 1, 0, 0), (31, .iadd, 1, 0, 0), (32, .istore_n 2, 1, 0, 0), (33, .iinc 3 1, 3, 1, 0), (36, .goto (-32), 3, 0, 4), (39, .iload_n 2, 1, 0, 0), (40, .ireturn, 1, 0, 0)]
set_option maxRecDepth 100000 in
theorem tk_X9_inStatus : q_tb cX9_inStatus 4 tb_X9_inStatus = true := by decide +kernel
set_option maxRecDepth 100000 in
theorem mw_X9_addTeam : q_mw yX9_addTeam cX9_addTeam 3 (Option.some Jvm.ClassFile.FieldType.int) 0 := ⟨q_t7 36 rfl rfl, by decide +kernel, by decide +kernel, q_init_QuillRelayModel⟩
set_option maxRecDepth 100000 in
theorem mi_X9_addTeam : Cond.instanceMethod yX9_addTeam ∈ q_W := q_t7 34 rfl rfl
set_option maxRecDepth 100000 in
theorem me_X9_addTeam : Cond.selects yX9_addTeam.cls yX9_addTeam yX9_addTeam ∈ q_W := q_t7 35 rfl rfl
def tb_X9_addTeam : List q_E := [(0, .aload_n 0, 1, 0, 0), (1, .invokevirtual 56, 3, 0, 0), (4, .aload_n 0, 1, 0, 0), (5, .aload_n 0, 1, 0, 0), (6, .invokevirtual 59, 3, 0, 0), (9, .ifCond .ne 14, 3, 0, 23), (12, .aload_n 0, 1, 0, 0), (13, .getfield 9, 3, 0, 0), (16, .iconst 3, 1, 3, 0), (17, .iaload, 1, 0, 0), (18, .bipush 6, 2, 6, 0), (20, .if_icmp .ne 7, 3, 0, 27), (23, .iconst 1, 1, 1, 0), (24, .goto 4, 3, 0, 28), (27, .iconst 0, 1, 0, 0), (28, .iconst 1, 1, 1, 0), (29, .invokevirtual 63, 3, 0, 0), (32, .ifCond .eq 5, 3, 0, 37), (35, .iconst 0, 1, 0, 0), (36, .ireturn, 1, 0, 0), (37, .aload_n 0, 1, 0, 0), (38, .getfield 9, 3, 0, 0), (41, .iconst 3, 1, 3, 0), (42, .iaload, 1, 0, 0), (43, .istore_n 1, 1, 0, 0), (44, .iconst 0, 1, 0, 0), (45, .istore_n 2, 1, 0, 0), (46, .iload_n 2, 1, 0, 0), (47, .iconst 4, 1, 4, 0), (48, .if_icmp .ge 19, 3, 0, 67), (51, .aload_n 0, 1, 0, 0), (52, .iload_n 1, 1, 0, 0), (53, .iconst 0, 1, 0, 0), (54, .iload_n 2, 1, 0, 0), (55, .iadd, 1, 0, 0), (56, .bipush 60, 2, 60, 0), (58, .invokevirtual 67, 3, 0, 0), (61, .iinc 2 1, 3, 1, 0), (64, .goto (-18), 3, 0, 46), (67, .aload_n 0, 1, 0, 0), (68, .iload_n 1, 1, 0, 0), (69, .iconst 4, 1, 4, 0), (70, .iload_n 1, 1, 0, 0), (71, .iconst 1, 1, 1, 0), (72, .iadd, 1, 0, 0), (73, .invokevirtual 67, 3, 0, 0), (76, .aload_n 0, 1, 0, 0), (77, .getfield 9, 3, 0, 0), (80, .iconst 3, 1, 3, 0), (81, .dup2, 1, 0, 0), (82, .iaload, 1, 0, 0), (83, .iconst 1, 1, 1, 0), (84, .iadd, 1, 0, 0), (85, .iastore, 1, 0, 0), (86, .aload_n 0, 1, 0, 0), (87, .iload_n 1, 1, 0, 0), (88, .invokevirtual 71, 3, 0, 0), (91, .ireturn, 1, 0, 0)]
set_option maxRecDepth 100000 in
theorem tk_X9_addTeam : q_tb cX9_addTeam 3 tb_X9_addTeam = true := by decide +kernel
set_option maxRecDepth 100000 in
theorem mw_X9_speeds : q_mw yX9_speeds cX9_speeds 5 (Option.some Jvm.ClassFile.FieldType.int) 3 := ⟨q_t7 67 rfl rfl, by decide +kernel, by decide +kernel, q_init_QuillRelayModel⟩
set_option maxRecDepth 100000 in
theorem mi_X9_speeds : Cond.instanceMethod yX9_speeds ∈ q_W := q_t7 66 rfl rfl
set_option maxRecDepth 100000 in
theorem me_X9_speeds : Cond.selects yX9_speeds.cls yX9_speeds yX9_speeds ∈ q_W := q_s 25 rfl rfl
def tb_X9_speeds : List q_E := [(0, .aload_n 0, 1, 0, 0), (1, .aload_n 0, 1, 0, 0), (2, .iload_n 1, 1, 0, 0), (3, .invokevirtual 75, 3, 0, 0), (6, .ifCond .eq 10, 3, 0, 16), (9, .iload_n 2, 1, 0, 0), (10, .invokestatic 79, 3, 0, 0), (13, .ifCond .ne 7, 3, 0, 20), (16, .iconst 1, 1, 1, 0), (17, .goto 4, 3, 0, 21), (20, .iconst 0, 1, 0, 0), (21, .iconst 1, 1, 1, 0), (22, .invokevirtual 63, 3, 0, 0), (25, .ifCond .ne 39, 3, 0, 64), (28, .aload_n 0, 1, 0, 0), (29, .iload_n 3, 1, 0, 0), (30, .bipush 20, 2, 20, 0), (32, .bipush 99, 2, 99, 0), (34, .invokestatic 48, 3, 0, 0), (37, .ifCond .ne 7, 3, 0, 44), (40, .iconst 1, 1, 1, 0), (41, .goto 4, 3, 0, 45), (44, .iconst 0, 1, 0, 0), (45, .iconst 2, 1, 2, 0), (46, .invokevirtual 63, 3, 0, 0), (49, .ifCond .ne 15, 3, 0, 64), (52, .aload_n 0, 1, 0, 0), (53, .aload_n 0, 1, 0, 0), (54, .invokevirtual 59, 3, 0, 0), (57, .iconst 3, 1, 3, 0), (58, .invokevirtual 63, 3, 0, 0), (61, .ifCond .eq 5, 3, 0, 66), (64, .iconst 0, 1, 0, 0), (65, .ireturn, 1, 0, 0), (66, .aload_n 0, 1, 0, 0), (67, .iload_n 1, 1, 0, 0), (68, .iconst 0, 1, 0, 0), (69, .iload_n 2, 1, 0, 0), (70, .iadd, 1, 0, 0), (71, .invokevirtual 52, 3, 0, 0), (74, .istore 4, 2, 0, 0), (76, .aload_n 0, 1, 0, 0), (77, .iload_n 1, 1, 0, 0), (78, .iconst 0, 1, 0, 0), (79, .iload_n 2, 1, 0, 0), (80, .iadd, 1, 0, 0), (81, .iload_n 3, 1, 0, 0), (82, .invokevirtual 67, 3, 0, 0), (85, .iload 4, 2, 0, 0), (87, .ireturn, 1, 0, 0)]
set_option maxRecDepth 100000 in
theorem tk_X9_speeds : q_tb cX9_speeds 5 tb_X9_speeds = true := by decide +kernel
set_option maxRecDepth 100000 in
theorem mw_X9_setSpeed : q_mw yX9_setSpeed cX9_setSpeed 4 (Option.some Jvm.ClassFile.FieldType.int) 3 := ⟨q_t7 63 rfl rfl, by decide +kernel, by decide +kernel, q_init_QuillRelayModel⟩
set_option maxRecDepth 100000 in
theorem mi_X9_setSpeed : Cond.instanceMethod yX9_setSpeed ∈ q_W := q_t7 61 rfl rfl
set_option maxRecDepth 100000 in
theorem me_X9_setSpeed : Cond.selects yX9_setSpeed.cls yX9_setSpeed yX9_setSpeed ∈ q_W := q_t7 62 rfl rfl
def tb_X9_setSpeed : List q_E := [(0, .aload_n 0, 1, 0, 0), (1, .invokevirtual 56, 3, 0, 0), (4, .aload_n 0, 1, 0, 0), (5, .aload_n 0, 1, 0, 0), (6, .iload_n 1, 1, 0, 0), (7, .iload_n 2, 1, 0, 0), (8, .iload_n 3, 1, 0, 0), (9, .invokevirtual 82, 3, 0, 0), (12, .invokevirtual 71, 3, 0, 0), (15, .ireturn, 1, 0, 0)]
set_option maxRecDepth 100000 in
theorem tk_X9_setSpeed : q_tb cX9_setSpeed 4 tb_X9_setSpeed = true := by decide +kernel
set_option maxRecDepth 100000 in
theorem mw_X9_setLength : q_mw yX9_setLength cX9_setLength 3 (Option.some Jvm.ClassFile.FieldType.int) 1 := ⟨q_t7 85 rfl rfl, by decide +kernel, by decide +kernel, q_init_QuillRelayModel⟩
set_option maxRecDepth 100000 in
theorem mi_X9_setLength : Cond.instanceMethod yX9_setLength ∈ q_W := q_t7 83 rfl rfl
set_option maxRecDepth 100000 in
theorem me_X9_setLength : Cond.selects yX9_setLength.cls yX9_setLength yX9_setLength ∈ q_W := q_t7 84 rfl rfl
def tb_X9_setLength : List q_E := [(0, .aload_n 0, 1, 0, 0), (1, .invokevirtual 56, 3, 0, 0), (4, .aload_n 0, 1, 0, 0), (5, .iload_n 1, 1, 0, 0), (6, .sipush 400, 3, 400, 0), (9, .sipush 4000, 3, 4000, 0), (12, .invokestatic 48, 3, 0, 0), (15, .ifCond .ne 7, 3, 0, 22), (18, .iconst 1, 1, 1, 0), (19, .goto 4, 3, 0, 23), (22, .iconst 0, 1, 0, 0), (23, .iconst 1, 1, 1, 0), (24, .invokevirtual 63, 3, 0, 0), (27, .ifCond .ne 15, 3, 0, 42), (30, .aload_n 0, 1, 0, 0), (31, .aload_n 0, 1, 0, 0), (32, .invokevirtual 59, 3, 0, 0), (35, .iconst 2, 1, 2, 0), (36, .invokevirtual 63, 3, 0, 0), (39, .ifCond .eq 5, 3, 0, 44), (42, .iconst 0, 1, 0, 0), (43, .ireturn, 1, 0, 0), (44, .aload_n 0, 1, 0, 0), (45, .getfield 9, 3, 0, 0), (48, .iconst 0, 1, 0, 0), (49, .iaload, 1, 0, 0), (50, .istore_n 2, 1, 0, 0), (51, .aload_n 0, 1, 0, 0), (52, .getfield 9, 3, 0, 0), (55, .iconst 0, 1, 0, 0), (56, .iload_n 1, 1, 0, 0), (57, .iastore, 1, 0, 0), (58, .aload_n 0, 1, 0, 0), (59, .iload_n 2, 1, 0, 0), (60, .invokevirtual 71, 3, 0, 0), (63, .ireturn, 1, 0, 0)]
set_option maxRecDepth 100000 in
theorem tk_X9_setLength : q_tb cX9_setLength 3 tb_X9_setLength = true := by decide +kernel
set_option maxRecDepth 100000 in
theorem mw_X9_freeLane : q_mw yX9_freeLane cX9_freeLane 5 (Option.some Jvm.ClassFile.FieldType.int) 2 := ⟨q_t7 97 rfl rfl, by decide +kernel, by decide +kernel, q_init_QuillRelayModel⟩
set_option maxRecDepth 100000 in
theorem mi_X9_freeLane : Cond.instanceMethod yX9_freeLane ∈ q_W := q_t7 96 rfl rfl
set_option maxRecDepth 100000 in
theorem me_X9_freeLane : Cond.selects yX9_freeLane.cls yX9_freeLane yX9_freeLane ∈ q_W := q_s 29 rfl rfl
def tb_X9_freeLane : List q_E := [(0, .iload_n 2, 1, 0, 0), (1, .istore_n 3, 1, 0, 0), (2, .iconst 1, 1, 1, 0), (3, .istore 4, 2, 0, 0), (5, .iload_n 1, 1, 0, 0), (6, .iload 4, 2, 0, 0), (8, .ishr, 1, 0, 0), (9, .iconst 1, 1, 1, 0), (10, .iand, 1, 0, 0), (11, .iconst 1, 1, 1, 0), (12, .if_icmp .eq 7, 3, 0, 19), (15, .iload_n 3, 1, 0, 0), (16, .ifCond .le 27, 3, 0, 43), (19, .iload_n 3, 1, 0, 0), (20, .iload_n 1, 1, 0, 0), (21, .iload 4, 2, 0, 0), (23, .ishr, 1, 0, 0), (24, .iconst 1, 1, 1, 0), (25, .iand, 1, 0, 0), (26, .iconst 1, 1, 1, 0), (27, .if_icmp .ne 7, 3, 0, 34), (30, .iconst 0, 1, 0, 0), (31, .goto 4, 3, 0, 35), (34, .iconst 1, 1, 1, 0), (35, .isub, 1, 0, 0), (36, .istore_n 3, 1, 0, 0), (37, .iinc 4 1, 3, 1, 0), (40, .goto (-35), 3, 0, 5), (43, .iload 4, 2, 0, 0), (45, .ireturn, 1, 0, 0)]
set_option maxRecDepth 100000 in
theorem tk_X9_freeLane : q_tb cX9_freeLane 5 tb_X9_freeLane = true := by decide +kernel
set_option maxRecDepth 100000 in
theorem mw_X9_draws : q_mw yX9_draws cX9_draws 6 (Option.some Jvm.ClassFile.FieldType.int) 1 := ⟨q_t7 93 rfl rfl, by decide +kernel, by decide +kernel, q_init_QuillRelayModel⟩
set_option maxRecDepth 100000 in
theorem mi_X9_draws : Cond.instanceMethod yX9_draws ∈ q_W := q_t7 92 rfl rfl
set_option maxRecDepth 100000 in
theorem me_X9_draws : Cond.selects yX9_draws.cls yX9_draws yX9_draws ∈ q_W := q_s 28 rfl rfl
def tb_X9_draws : List q_E := [(0, .aload_n 0, 1, 0, 0), (1, .iload_n 1, 1, 0, 0), (2, .iconst 0, 1, 0, 0), (3, .sipush 999, 3, 999, 0), (6, .invokestatic 48, 3, 0, 0), (9, .ifCond .ne 7, 3, 0, 16), (12, .iconst 1, 1, 1, 0), (13, .goto 4, 3, 0, 17), (16, .iconst 0, 1, 0, 0), (17, .iconst 1, 1, 1, 0), (18, .invokevirtual 63, 3, 0, 0), (21, .ifCond .ne 32, 3, 0, 53), (24, .aload_n 0, 1, 0, 0), (25, .aload_n 0, 1, 0, 0), (26, .invokevirtual 59, 3, 0, 0), (29, .ifCond .ne 12, 3, 0, 41), (32, .aload_n 0, 1, 0, 0), (33, .getfield 9, 3, 0, 0), (36, .iconst 3, 1, 3, 0), (37, .iaload, 1, 0, 0), (38, .ifCond .ne 7, 3, 0, 45), (41, .iconst 1, 1, 1, 0), (42, .goto 4, 3, 0, 46), (45, .iconst 0, 1, 0, 0), (46, .iconst 2, 1, 2, 0), (47, .invokevirtual 63, 3, 0, 0), (50, .ifCond .eq 5, 3, 0, 55), (53, .iconst 0, 1, 0, 0), (54, .ireturn, 1, 0, 0), (55, .iload_n 1, 1, 0, 0), (56, .istore_n 2, 1, 0, 0), (57, .iconst 0, 1, 0, 0), (58, .istore_n 3, 1, 0, 0), (59, .iconst 0, 1, 0, 0), (60, .istore 4, 2, 0, 0), (62, .iload 4, 2, 0, 0), (64, .aload_n 0, 1, 0, 0), (65, .getfield 9, 3, 0, 0), (68, .iconst 3, 1, 3, 0), (69, .iaload, 1, 0, 0), (70, .if_icmp .ge 53, 3, 0, 123), (73, .iconst 5, 1, 5, 0), (74, .iload_n 2, 1, 0, 0), (75, .imul, 1, 0, 0), (76, .iconst 3, 1, 3, 0), (77, .iadd, 1, 0, 0), (78, .sipush 1000, 3, 1000, 0), (81, .irem, 1, 0, 0), (82, .istore_n 2, 1, 0, 0), (83, .aload_n 0, 1, 0, 0), (84, .iload_n 3, 1, 0, 0), (85, .iload_n 2, 1, 0, 0), (86, .aload_n 0, 1, 0, 0), (87, .getfield 9, 3, 0, 0), (90, .iconst 3, 1, 3, 0), (91, .iaload, 1, 0, 0), (92, .iload 4, 2, 0, 0), (94, .isub, 1, 0, 0), (95, .irem, 1, 0, 0), (96, .invokevirtual 86, 3, 0, 0), (99, .istore 5, 2, 0, 0), (101, .iload_n 3, 1, 0, 0), (102, .iconst 1, 1, 1, 0), (103, .iload 5, 2, 0, 0), (105, .ishl, 1, 0, 0), (106, .ior, 1, 0, 0), (107, .istore_n 3, 1, 0, 0), (108, .aload_n 0, 1, 0, 0), (109, .iload 4, 2, 0, 0), (111, .iconst 4, 1, 4, 0), (112, .iload 5, 2, 0, 0), (114, .invokevirtual 67, 3, 0, 0), (117, .iinc 4 1, 3, 1, 0), (120, .goto (-58), 3, 0, 62), (123, .aload_n 0, 1, 0, 0), (124, .iconst 0, 1, 0, 0), (125, .iconst 4, 1, 4, 0), (126, .invokevirtual 52, 3, 0, 0), (129, .ireturn, 1, 0, 0)]
set_option maxRecDepth 100000 in
theorem tk_X9_draws : q_tb cX9_draws 6 tb_X9_draws = true := by decide +kernel
set_option maxRecDepth 100000 in
theorem mw_X9_drawLanes : q_mw yX9_drawLanes cX9_drawLanes 2 (Option.some Jvm.ClassFile.FieldType.int) 1 := ⟨q_t7 89 rfl rfl, by decide +kernel, by decide +kernel, q_init_QuillRelayModel⟩
set_option maxRecDepth 100000 in
theorem mi_X9_drawLanes : Cond.instanceMethod yX9_drawLanes ∈ q_W := q_t7 87 rfl rfl
set_option maxRecDepth 100000 in
theorem me_X9_drawLanes : Cond.selects yX9_drawLanes.cls yX9_drawLanes yX9_drawLanes ∈ q_W := q_t7 88 rfl rfl
def tb_X9_drawLanes : List q_E := [(0, .aload_n 0, 1, 0, 0), (1, .invokevirtual 56, 3, 0, 0), (4, .aload_n 0, 1, 0, 0), (5, .aload_n 0, 1, 0, 0), (6, .iload_n 1, 1, 0, 0), (7, .invokevirtual 89, 3, 0, 0), (10, .invokevirtual 71, 3, 0, 0), (13, .ireturn, 1, 0, 0)]
set_option maxRecDepth 100000 in
theorem tk_X9_drawLanes : q_tb cX9_drawLanes 2 tb_X9_drawLanes = true := by decide +kernel
set_option maxRecDepth 100000 in
theorem mw_X9_starts : q_mw yX9_starts cX9_starts 2 (Option.some Jvm.ClassFile.FieldType.int) 0 := ⟨q_t7 105 rfl rfl, by decide +kernel, by decide +kernel, q_init_QuillRelayModel⟩
set_option maxRecDepth 100000 in
theorem mi_X9_starts : Cond.instanceMethod yX9_starts ∈ q_W := q_t7 104 rfl rfl
set_option maxRecDepth 100000 in
theorem me_X9_starts : Cond.selects yX9_starts.cls yX9_starts yX9_starts ∈ q_W := q_s 30 rfl rfl
def tb_X9_starts : List q_E := [(0, .aload_n 0, 1, 0, 0), (1, .aload_n 0, 1, 0, 0), (2, .invokevirtual 59, 3, 0, 0), (5, .ifCond .ne 12, 3, 0, 17), (8, .aload_n 0, 1, 0, 0), (9, .getfield 9, 3, 0, 0), (12, .iconst 3, 1, 3, 0), (13, .iaload, 1, 0, 0), (14, .ifCond .ne 7, 3, 0, 21), (17, .iconst 1, 1, 1, 0), (18, .goto 4, 3, 0, 22), (21, .iconst 0, 1, 0, 0), (22, .iconst 1, 1, 1, 0), (23, .invokevirtual 63, 3, 0, 0), (26, .ifCond .eq 5, 3, 0, 31), (29, .iconst 0, 1, 0, 0), (30, .ireturn, 1, 0, 0), (31, .aload_n 0, 1, 0, 0), (32, .getfield 9, 3, 0, 0), (35, .iconst 1, 1, 1, 0), (36, .iconst 1, 1, 1, 0), (37, .iastore, 1, 0, 0), (38, .iconst 0, 1, 0, 0), (39, .istore_n 1, 1, 0, 0), (40, .iload_n 1, 1, 0, 0), (41, .aload_n 0, 1, 0, 0), (42, .getfield 9, 3, 0, 0), (45, .iconst 3, 1, 3, 0), (46, .iaload, 1, 0, 0), (47, .if_icmp .ge 17, 3, 0, 64), (50, .aload_n 0, 1, 0, 0), (51, .iload_n 1, 1, 0, 0), (52, .bipush 6, 2, 6, 0), (54, .iconst 1, 1, 1, 0), (55, .invokevirtual 67, 3, 0, 0), (58, .iinc 1 1, 3, 1, 0), (61, .goto (-21), 3, 0, 40), (64, .aload_n 0, 1, 0, 0), (65, .getfield 9, 3, 0, 0), (68, .iconst 3, 1, 3, 0), (69, .iaload, 1, 0, 0), (70, .ireturn, 1, 0, 0)]
set_option maxRecDepth 100000 in
theorem tk_X9_starts : q_tb cX9_starts 2 tb_X9_starts = true := by decide +kernel
set_option maxRecDepth 100000 in
theorem mw_X9_start : q_mw yX9_start cX9_start 1 (Option.some Jvm.ClassFile.FieldType.int) 0 := ⟨q_t7 101 rfl rfl, by decide +kernel, by decide +kernel, q_init_QuillRelayModel⟩
set_option maxRecDepth 100000 in
theorem mi_X9_start : Cond.instanceMethod yX9_start ∈ q_W := q_t7 99 rfl rfl
set_option maxRecDepth 100000 in
theorem me_X9_start : Cond.selects yX9_start.cls yX9_start yX9_start ∈ q_W := q_t7 100 rfl rfl
def tb_X9_start : List q_E := [(0, .aload_n 0, 1, 0, 0), (1, .invokevirtual 56, 3, 0, 0), (4, .aload_n 0, 1, 0, 0), (5, .aload_n 0, 1, 0, 0), (6, .invokevirtual 92, 3, 0, 0), (9, .invokevirtual 71, 3, 0, 0), (12, .ireturn, 1, 0, 0)]
set_option maxRecDepth 100000 in
theorem tk_X9_start : q_tb cX9_start 1 tb_X9_start = true := by decide +kernel
set_option maxRecDepth 100000 in
theorem mw_X9_step : q_mw yX9_step cX9_step 3 (Option.some Jvm.ClassFile.FieldType.int) 2 := ⟨q_t7 136 rfl rfl, by decide +kernel, by decide +kernel, q_init_QuillRelayModel⟩
set_option maxRecDepth 100000 in
theorem ms_X9_step : Cond.static yX9_step ∈ q_W := q_t7 135 rfl rfl
def tb_X9_step : List q_E := [(0, .iload_n 0, 1, 0, 0), (1, .iload_n 1, 1, 0, 0), (2, .bipush 10, 2, 10, 0), (4, .idiv, 1, 0, 0), (5, .isub, 1, 0, 0), (6, .istore_n 2, 1, 0, 0), (7, .iload_n 2, 1, 0, 0), (8, .bipush 10, 2, 10, 0), (10, .if_icmp .ge 8, 3, 0, 18), (13, .bipush 10, 2, 10, 0), (15, .goto 4, 3, 0, 19), (18, .iload_n 2, 1, 0, 0), (19, .ireturn, 1, 0, 0)]
set_option maxRecDepth 100000 in
theorem tk_X9_step : q_tb cX9_step 3 tb_X9_step = true := by decide +kernel
set_option maxRecDepth 100000 in
theorem mw_X9_endOf : q_mw yX9_endOf cX9_endOf 2 (Option.some Jvm.ClassFile.FieldType.int) 1 := ⟨q_t7 129 rfl rfl, by decide +kernel, by decide +kernel, q_init_QuillRelayModel⟩
set_option maxRecDepth 100000 in
theorem mi_X9_endOf : Cond.instanceMethod yX9_endOf ∈ q_W := q_t7 128 rfl rfl
set_option maxRecDepth 100000 in
theorem me_X9_endOf : Cond.selects yX9_endOf.cls yX9_endOf yX9_endOf ∈ q_W := q_s 35 rfl rfl
def tb_X9_endOf : List q_E := [(0, .iload_n 1, 1, 0, 0), (1, .iconst 1, 1, 1, 0), (2, .iadd, 1, 0, 0), (3, .aload_n 0, 1, 0, 0), (4, .getfield 9, 3, 0, 0), (7, .iconst 0, 1, 0, 0), (8, .iaload, 1, 0, 0), (9, .imul, 1, 0, 0), (10, .ireturn, 1, 0, 0)]
set_option maxRecDepth 100000 in
theorem tk_X9_endOf : q_tb cX9_endOf 2 tb_X9_endOf = true := by decide +kernel
set_option maxRecDepth 100000 in
theorem mw_X9_standsAtBound : q_mw yX9_standsAtBound cX9_standsAtBound 3 (Option.some Jvm.ClassFile.FieldType.boolean) 1 := ⟨q_t7 125 rfl rfl, by decide +kernel, by decide +kernel, q_init_QuillRelayModel⟩
set_option maxRecDepth 100000 in
theorem mi_X9_standsAtBound : Cond.instanceMethod yX9_standsAtBound ∈ q_W := q_t7 124 rfl rfl
set_option maxRecDepth 100000 in
theorem me_X9_standsAtBound : Cond.selects yX9_standsAtBound.cls yX9_standsAtBound yX9_standsAtBound ∈ q_W := q_s 34 rfl rfl
def tb_X9_standsAtBound : List q_E := [(0, .aload_n 0, 1, 0, 0), (1, .iload_n 1, 1, 0, 0), (2, .bipush 8, 2, 8, 0), (4, .invokevirtual 52, 3, 0, 0), (7, .istore_n 2, 1, 0, 0), (8, .iload_n 2, 1, 0, 0), (9, .iconst 3, 1, 3, 0), (10, .if_icmp .ge 26, 3, 0, 36), (13, .aload_n 0, 1, 0, 0), (14, .iload_n 1, 1, 0, 0), (15, .bipush 7, 2, 7, 0), (17, .invokevirtual 52, 3, 0, 0), (20, .aload_n 0, 1, 0, 0), (21, .iload_n 2, 1, 0, 0), (22, .invokevirtual 96, 3, 0, 0), (25, .sipush 300, 3, 300, 0), (28, .iadd, 1, 0, 0), (29, .if_icmp .ne 7, 3, 0, 36), (32, .iconst 1, 1, 1, 0), (33, .goto 4, 3, 0, 37), (36, .iconst 0, 1, 0, 0), (37, .ireturn, 1, 0, 0)]
set_option maxRecDepth 100000 in
theorem tk_X9_standsAtBound : q_tb cX9_standsAtBound 3 tb_X9_standsAtBound = true := by decide +kernel
set_option maxRecDepth 100000 in
theorem mw_X9_carries : q_mw yX9_carries cX9_carries 5 (Option.none : Option Jvm.ClassFile.FieldType) 1 := ⟨q_t7 133 rfl rfl, by decide +kernel, by decide +kernel, q_init_QuillRelayModel⟩
set_option maxRecDepth 100000 in
theorem mi_X9_carries : Cond.instanceMethod yX9_carries ∈ q_W := q_t7 132 rfl rfl
set_option maxRecDepth 100000 in
theorem me_X9_carries : Cond.selects yX9_carries.cls yX9_carries yX9_carries ∈ q_W := q_s 36 rfl rfl
def tb_X9_carries : List q_E := [(0, .aload_n 0, 1, 0, 0), (1, .iload_n 1, 1, 0, 0), (2, .bipush 8, 2, 8, 0), (4, .invokevirtual 52, 3, 0, 0), (7, .istore_n 2, 1, 0, 0), (8, .aload_n 0, 1, 0, 0), (9, .iload_n 1, 1, 0, 0), (10, .bipush 7, 2, 7, 0), (12, .invokevirtual 52, 3, 0, 0), (15, .aload_n 0, 1, 0, 0), (16, .iload_n 1, 1, 0, 0), (17, .iconst 0, 1, 0, 0), (18, .iload_n 2, 1, 0, 0), (19, .iadd, 1, 0, 0), (20, .invokevirtual 52, 3, 0, 0), (23, .aload_n 0, 1, 0, 0), (24, .iload_n 1, 1, 0, 0), (25, .bipush 9, 2, 9, 0), (27, .invokevirtual 52, 3, 0, 0), (30, .invokestatic 99, 3, 0, 0), (33, .iadd, 1, 0, 0), (34, .istore_n 3, 1, 0, 0), (35, .aload_n 0, 1, 0, 0), (36, .iload_n 2, 1, 0, 0), (37, .invokevirtual 96, 3, 0, 0), (40, .sipush 300, 3, 300, 0), (43, .iadd, 1, 0, 0), (44, .istore 4, 2, 0, 0), (46, .aload_n 0, 1, 0, 0), (47, .iload_n 1, 1, 0, 0), (48, .bipush 7, 2, 7, 0), (50, .iload_n 2, 1, 0, 0), (51, .iconst 3, 1, 3, 0), (52, .if_icmp .ge 14, 3, 0, 66), (55, .iload_n 3, 1, 0, 0), (56, .iload 4, 2, 0, 0), (58, .if_icmp .le 8, 3, 0, 66), (61, .iload 4, 2, 0, 0), (63, .goto 4, 3, 0, 67), (66, .iload_n 3, 1, 0, 0), (67, .invokevirtual 67, 3, 0, 0), (70, .aload_n 0, 1, 0, 0), (71, .iload_n 1, 1, 0, 0), (72, .bipush 9, 2, 9, 0), (74, .aload_n 0, 1, 0, 0), (75, .iload_n 1, 1, 0, 0), (76, .bipush 9, 2, 9, 0), (78, .invokevirtual 52, 3, 0, 0), (81, .iconst 1, 1, 1, 0), (82, .iadd, 1, 0, 0), (83, .invokevirtual 67, 3, 0, 0), (86, .iload_n 2, 1, 0, 0), (87, .iconst 3, 1, 3, 0), (88, .if_icmp .ne 58, 3, 0, 146), (91, .iload_n 3, 1, 0, 0), (92, .aload_n 0, 1, 0, 0), (93, .iload_n 2, 1, 0, 0), (94, .invokevirtual 96, 3, 0, 0), (97, .if_icmp .lt 49, 3, 0, 146), (100, .aload_n 0, 1, 0, 0), (101, .iload_n 1, 1, 0, 0), (102, .bipush 6, 2, 6, 0), (104, .iconst 2, 1, 2, 0), (105, .invokevirtual 67, 3, 0, 0), (108, .aload_n 0, 1, 0, 0), (109, .iload_n 1, 1, 0, 0), (110, .bipush 18, 2, 18, 0), (112, .aload_n 0, 1, 0, 0), (113, .getfield 9, 3, 0, 0), (116, .iconst 2, 1, 2, 0), (117, .iaload, 1, 0, 0), (118, .invokevirtual 67, 3, 0, 0), (121, .aload_n 0, 1, 0, 0), (122, .iload_n 1, 1, 0, 0), (123, .bipush 14, 2, 14, 0), (125, .iload_n 2, 1, 0, 0), (126, .iadd, 1, 0, 0), (127, .iconst 1, 1, 1, 0), (128, .aload_n 0, 1, 0, 0), (129, .getfield 9, 3, 0, 0), (132, .iconst 2, 1, 2, 0), (133, .iaload, 1, 0, 0), (134, .iadd, 1, 0, 0), (135, .aload_n 0, 1, 0, 0), (136, .iload_n 1, 1, 0, 0), (137, .bipush 13, 2, 13, 0), (139, .invokevirtual 52, 3, 0, 0), (142, .isub, 1, 0, 0), (143, .invokevirtual 67, 3, 0, 0), (146, .return_, 1, 0, 0)]
set_option maxRecDepth 100000 in
theorem tk_X9_carries : q_tb cX9_carries 5 tb_X9_carries = true := by decide +kernel
set_option maxRecDepth 100000 in
theorem mw_X9_moves : q_mw yX9_moves cX9_moves 2 (Option.none : Option Jvm.ClassFile.FieldType) 1 := ⟨q_t7 121 rfl rfl, by decide +kernel, by decide +kernel, q_init_QuillRelayModel⟩
set_option maxRecDepth 100000 in
theorem mi_X9_moves : Cond.instanceMethod yX9_moves ∈ q_W := q_t7 120 rfl rfl
set_option maxRecDepth 100000 in
theorem me_X9_moves : Cond.selects yX9_moves.cls yX9_moves yX9_moves ∈ q_W := q_s 33 rfl rfl
def tb_X9_moves : List q_E := [(0, .aload_n 0, 1, 0, 0), (1, .iload_n 1, 1, 0, 0), (2, .bipush 10, 2, 10, 0), (4, .invokevirtual 52, 3, 0, 0), (7, .ifCond .le 22, 3, 0, 29), (10, .aload_n 0, 1, 0, 0), (11, .iload_n 1, 1, 0, 0), (12, .bipush 10, 2, 10, 0), (14, .aload_n 0, 1, 0, 0), (15, .iload_n 1, 1, 0, 0), (16, .bipush 10, 2, 10, 0), (18, .invokevirtual 52, 3, 0, 0), (21, .iconst 1, 1, 1, 0), (22, .isub, 1, 0, 0), (23, .invokevirtual 67, 3, 0, 0), (26, .goto 16, 3, 0, 42), (29, .aload_n 0, 1, 0, 0), (30, .iload_n 1, 1, 0, 0), (31, .invokevirtual 102, 3, 0, 0), (34, .ifCond .ne 8, 3, 0, 42), (37, .aload_n 0, 1, 0, 0), (38, .iload_n 1, 1, 0, 0), (39, .invokevirtual 105, 3, 0, 0), (42, .return_, 1, 0, 0)]
set_option maxRecDepth 100000 in
theorem tk_X9_moves : q_tb cX9_moves 2 tb_X9_moves = true := by decide +kernel
set_option maxRecDepth 100000 in
theorem mw_X9_secondsPass : q_mw yX9_secondsPass cX9_secondsPass 5 (Option.some Jvm.ClassFile.FieldType.int) 1 := ⟨q_t7 113 rfl rfl, by decide +kernel, by decide +kernel, q_init_QuillRelayModel⟩
set_option maxRecDepth 100000 in
theorem mi_X9_secondsPass : Cond.instanceMethod yX9_secondsPass ∈ q_W := q_t7 112 rfl rfl
set_option maxRecDepth 100000 in
theorem me_X9_secondsPass : Cond.selects yX9_secondsPass.cls yX9_secondsPass yX9_secondsPass ∈ q_W := q_s 31 rfl rfl
def tb_X9_secondsPass : List q_E := [(0, .aload_n 0, 1, 0, 0), (1, .iload_n 1, 1, 0, 0), (2, .iconst 1, 1, 1, 0), (3, .sipush 200, 3, 200, 0), (6, .invokestatic 48, 3, 0, 0), (9, .ifCond .ne 7, 3, 0, 16), (12, .iconst 1, 1, 1, 0), (13, .goto 4, 3, 0, 17), (16, .iconst 0, 1, 0, 0), (17, .iconst 1, 1, 1, 0), (18, .invokevirtual 63, 3, 0, 0), (21, .ifCond .ne 23, 3, 0, 44), (24, .aload_n 0, 1, 0, 0), (25, .aload_n 0, 1, 0, 0), (26, .invokevirtual 59, 3, 0, 0), (29, .ifCond .ne 7, 3, 0, 36), (32, .iconst 1, 1, 1, 0), (33, .goto 4, 3, 0, 37), (36, .iconst 0, 1, 0, 0), (37, .iconst 2, 1, 2, 0), (38, .invokevirtual 63, 3, 0, 0), (41, .ifCond .eq 5, 3, 0, 46), (44, .iconst 0, 1, 0, 0), (45, .ireturn, 1, 0, 0), (46, .aload_n 0, 1, 0, 0), (47, .iconst 2, 1, 2, 0), (48, .invokevirtual 109, 3, 0, 0), (51, .istore_n 2, 1, 0, 0), (52, .iconst 0, 1, 0, 0), (53, .istore_n 3, 1, 0, 0), (54, .iload_n 3, 1, 0, 0), (55, .iload_n 1, 1, 0, 0), (56, .if_icmp .ge 57, 3, 0, 113), (59, .aload_n 0, 1, 0, 0), (60, .getfield 9, 3, 0, 0), (63, .iconst 2, 1, 2, 0), (64, .dup2, 1, 0, 0), (65, .iaload, 1, 0, 0), (66, .iconst 1, 1, 1, 0), (67, .iadd, 1, 0, 0), (68, .iastore, 1, 0, 0), (69, .iconst 0, 1, 0, 0), (70, .istore 4, 2, 0, 0), (72, .iload 4, 2, 0, 0), (74, .aload_n 0, 1, 0, 0), (75, .getfield 9, 3, 0, 0), (78, .iconst 3, 1, 3, 0), (79, .iaload, 1, 0, 0), (80, .if_icmp .ge 27, 3, 0, 107), (83, .aload_n 0, 1, 0, 0), (84, .iload 4, 2, 0, 0), (86, .bipush 6, 2, 6, 0), (88, .invokevirtual 52, 3, 0, 0), (91, .iconst 1, 1, 1, 0), (92, .if_icmp .ne 9, 3, 0, 101), (95, .aload_n 0, 1, 0, 0), (96, .iload 4, 2, 0, 0), (98, .invokevirtual 112, 3, 0, 0), (101, .iinc 4 1, 3, 1, 0), (104, .goto (-32), 3, 0, 72), (107, .iinc 3 1, 3, 1, 0), (110, .goto (-56), 3, 0, 54), (113, .aload_n 0, 1, 0, 0), (114, .iconst 2, 1, 2, 0), (115, .invokevirtual 109, 3, 0, 0), (118, .iload_n 2, 1, 0, 0), (119, .isub, 1, 0, 0), (120, .ireturn, 1, 0, 0)]
set_option maxRecDepth 100000 in
theorem tk_X9_secondsPass : q_tb cX9_secondsPass 5 tb_X9_secondsPass = true := by decide +kernel
set_option maxRecDepth 100000 in
theorem mw_X9_run : q_mw yX9_run cX9_run 2 (Option.some Jvm.ClassFile.FieldType.int) 1 := ⟨q_t7 109 rfl rfl, by decide +kernel, by decide +kernel, q_init_QuillRelayModel⟩
set_option maxRecDepth 100000 in
theorem mi_X9_run : Cond.instanceMethod yX9_run ∈ q_W := q_t7 107 rfl rfl
set_option maxRecDepth 100000 in
theorem me_X9_run : Cond.selects yX9_run.cls yX9_run yX9_run ∈ q_W := q_t7 108 rfl rfl
def tb_X9_run : List q_E := [(0, .aload_n 0, 1, 0, 0), (1, .invokevirtual 56, 3, 0, 0), (4, .aload_n 0, 1, 0, 0), (5, .aload_n 0, 1, 0, 0), (6, .iload_n 1, 1, 0, 0), (7, .invokevirtual 115, 3, 0, 0), (10, .invokevirtual 71, 3, 0, 0), (13, .ireturn, 1, 0, 0)]
set_option maxRecDepth 100000 in
theorem tk_X9_run : q_tb cX9_run 2 tb_X9_run = true := by decide +kernel
set_option maxRecDepth 100000 in
theorem mw_X9_inZone : q_mw yX9_inZone cX9_inZone 4 (Option.some Jvm.ClassFile.FieldType.boolean) 1 := ⟨q_t7 164 rfl rfl, by decide +kernel, by decide +kernel, q_init_QuillRelayModel⟩
set_option maxRecDepth 100000 in
theorem mi_X9_inZone : Cond.instanceMethod yX9_inZone ∈ q_W := q_t7 163 rfl rfl
set_option maxRecDepth 100000 in
theorem me_X9_inZone : Cond.selects yX9_inZone.cls yX9_inZone yX9_inZone ∈ q_W := q_s 41 rfl rfl
def tb_X9_inZone : List q_E := [(0, .aload_n 0, 1, 0, 0), (1, .iload_n 1, 1, 0, 0), (2, .bipush 8, 2, 8, 0), (4, .invokevirtual 52, 3, 0, 0), (7, .istore_n 2, 1, 0, 0), (8, .aload_n 0, 1, 0, 0), (9, .iload_n 2, 1, 0, 0), (10, .invokevirtual 96, 3, 0, 0), (13, .istore_n 3, 1, 0, 0), (14, .iload_n 2, 1, 0, 0), (15, .iconst 3, 1, 3, 0), (16, .if_icmp .ge 28, 3, 0, 44), (19, .aload_n 0, 1, 0, 0), (20, .iload_n 1, 1, 0, 0), (21, .bipush 7, 2, 7, 0), (23, .invokevirtual 52, 3, 0, 0), (26, .iload_n 3, 1, 0, 0), (27, .bipush 100, 2, 100, 0), (29, .isub, 1, 0, 0), (30, .iload_n 3, 1, 0, 0), (31, .bipush 100, 2, 100, 0), (33, .iadd, 1, 0, 0), (34, .invokestatic 48, 3, 0, 0), (37, .ifCond .eq 7, 3, 0, 44), (40, .iconst 1, 1, 1, 0), (41, .goto 4, 3, 0, 45), (44, .iconst 0, 1, 0, 0), (45, .ireturn, 1, 0, 0)]
set_option maxRecDepth 100000 in
theorem tk_X9_inZone : q_tb cX9_inZone 4 tb_X9_inZone = true := by decide +kernel
set_option maxRecDepth 100000 in
theorem mw_X9_reason : q_mw yX9_reason cX9_reason 3 (Option.some Jvm.ClassFile.FieldType.int) 1 := ⟨q_t7 152 rfl rfl, by decide +kernel, by decide +kernel, q_init_QuillRelayModel⟩
set_option maxRecDepth 100000 in
theorem mi_X9_reason : Cond.instanceMethod yX9_reason ∈ q_W := q_t7 151 rfl rfl
set_option maxRecDepth 100000 in
theorem me_X9_reason : Cond.selects yX9_reason.cls yX9_reason yX9_reason ∈ q_W := q_s 39 rfl rfl
def tb_X9_reason : List q_E := [(0, .aload_n 0, 1, 0, 0), (1, .iload_n 1, 1, 0, 0), (2, .bipush 8, 2, 8, 0), (4, .invokevirtual 52, 3, 0, 0), (7, .istore_n 2, 1, 0, 0), (8, .aload_n 0, 1, 0, 0), (9, .iload_n 1, 1, 0, 0), (10, .bipush 10, 2, 10, 0), (12, .invokevirtual 52, 3, 0, 0), (15, .ifCond .le 5, 3, 0, 20), (18, .iconst 1, 1, 1, 0), (19, .ireturn, 1, 0, 0), (20, .iload_n 2, 1, 0, 0), (21, .iconst 3, 1, 3, 0), (22, .if_icmp .ne 7, 3, 0, 29), (25, .iconst 2, 1, 2, 0), (26, .goto 26, 3, 0, 52), (29, .aload_n 0, 1, 0, 0), (30, .iload_n 1, 1, 0, 0), (31, .bipush 7, 2, 7, 0), (33, .invokevirtual 52, 3, 0, 0), (36, .aload_n 0, 1, 0, 0), (37, .iload_n 2, 1, 0, 0), (38, .invokevirtual 96, 3, 0, 0), (41, .bipush 100, 2, 100, 0), (43, .isub, 1, 0, 0), (44, .if_icmp .ge 7, 3, 0, 51), (47, .iconst 3, 1, 3, 0), (48, .goto 4, 3, 0, 52), (51, .iconst 0, 1, 0, 0), (52, .ireturn, 1, 0, 0)]
set_option maxRecDepth 100000 in
theorem tk_X9_reason : q_tb cX9_reason 3 tb_X9_reason = true := by decide +kernel
set_option maxRecDepth 100000 in
theorem mw_X9_isRefused : q_mw yX9_isRefused cX9_isRefused 3 (Option.some Jvm.ClassFile.FieldType.boolean) 1 := ⟨q_t7 148 rfl rfl, by decide +kernel, by decide +kernel, q_init_QuillRelayModel⟩
set_option maxRecDepth 100000 in
theorem mi_X9_isRefused : Cond.instanceMethod yX9_isRefused ∈ q_W := q_t7 147 rfl rfl
set_option maxRecDepth 100000 in
theorem me_X9_isRefused : Cond.selects yX9_isRefused.cls yX9_isRefused yX9_isRefused ∈ q_W := q_s 38 rfl rfl
def tb_X9_isRefused : List q_E := [(0, .aload_n 0, 1, 0, 0), (1, .iload_n 1, 1, 0, 0), (2, .invokevirtual 118, 3, 0, 0), (5, .istore_n 2, 1, 0, 0), (6, .iload_n 2, 1, 0, 0), (7, .ifCond .eq 13, 3, 0, 20), (10, .aload_n 0, 1, 0, 0), (11, .iload_n 2, 1, 0, 0), (12, .putfield 121, 3, 0, 0), (15, .aload_n 0, 1, 0, 0), (16, .iload_n 1, 1, 0, 0), (17, .putfield 124, 3, 0, 0), (20, .iload_n 2, 1, 0, 0), (21, .ifCond .eq 7, 3, 0, 28), (24, .iconst 1, 1, 1, 0), (25, .goto 4, 3, 0, 29), (28, .iconst 0, 1, 0, 0), (29, .ireturn, 1, 0, 0)]
set_option maxRecDepth 100000 in
theorem tk_X9_isRefused : q_tb cX9_isRefused 3 tb_X9_isRefused = true := by decide +kernel
set_option maxRecDepth 100000 in
theorem mw_X9_passes : q_mw yX9_passes cX9_passes 4 (Option.some Jvm.ClassFile.FieldType.int) 1 := ⟨q_t7 144 rfl rfl, by decide +kernel, by decide +kernel, q_init_QuillRelayModel⟩
set_option maxRecDepth 100000 in
theorem mi_X9_passes : Cond.instanceMethod yX9_passes ∈ q_W := q_t7 143 rfl rfl
set_option maxRecDepth 100000 in
theorem me_X9_passes : Cond.selects yX9_passes.cls yX9_passes yX9_passes ∈ q_W := q_s 37 rfl rfl
def tb_X9_passes : List q_E := [(0, .aload_n 0, 1, 0, 0), (1, .aload_n 0, 1, 0, 0), (2, .iload_n 1, 1, 0, 0), (3, .invokevirtual 75, 3, 0, 0), (6, .ifCond .ne 7, 3, 0, 13), (9, .iconst 1, 1, 1, 0), (10, .goto 4, 3, 0, 14), (13, .iconst 0, 1, 0, 0), (14, .iconst 1, 1, 1, 0), (15, .invokevirtual 63, 3, 0, 0), (18, .ifCond .ne 40, 3, 0, 58), (21, .aload_n 0, 1, 0, 0), (22, .aload_n 0, 1, 0, 0), (23, .iload_n 1, 1, 0, 0), (24, .bipush 6, 2, 6, 0), (26, .invokevirtual 52, 3, 0, 0), (29, .iconst 1, 1, 1, 0), (30, .if_icmp .eq 7, 3, 0, 37), (33, .iconst 1, 1, 1, 0), (34, .goto 4, 3, 0, 38), (37, .iconst 0, 1, 0, 0), (38, .iconst 2, 1, 2, 0), (39, .invokevirtual 63, 3, 0, 0), (42, .ifCond .ne 16, 3, 0, 58), (45, .aload_n 0, 1, 0, 0), (46, .aload_n 0, 1, 0, 0), (47, .iload_n 1, 1, 0, 0), (48, .invokevirtual 127, 3, 0, 0), (51, .iconst 3, 1, 3, 0), (52, .invokevirtual 63, 3, 0, 0), (55, .ifCond .eq 5, 3, 0, 60), (58, .iconst 0, 1, 0, 0), (59, .ireturn, 1, 0, 0), (60, .aload_n 0, 1, 0, 0), (61, .iload_n 1, 1, 0, 0), (62, .bipush 8, 2, 8, 0), (64, .invokevirtual 52, 3, 0, 0), (67, .istore_n 2, 1, 0, 0), (68, .aload_n 0, 1, 0, 0), (69, .iload_n 1, 1, 0, 0), (70, .bipush 7, 2, 7, 0), (72, .invokevirtual 52, 3, 0, 0), (75, .aload_n 0, 1, 0, 0), (76, .iload_n 2, 1, 0, 0), (77, .invokevirtual 96, 3, 0, 0), (80, .bipush 100, 2, 100, 0), (82, .iadd, 1, 0, 0), (83, .if_icmp .le 11, 3, 0, 94), (86, .aload_n 0, 1, 0, 0), (87, .iload_n 1, 1, 0, 0), (88, .bipush 11, 2, 11, 0), (90, .iconst 1, 1, 1, 0), (91, .invokevirtual 67, 3, 0, 0), (94, .aload_n 0, 1, 0, 0), (95, .getfield 9, 3, 0, 0), (98, .iconst 2, 1, 2, 0), (99, .iaload, 1, 0, 0), (100, .aload_n 0, 1, 0, 0), (101, .iload_n 1, 1, 0, 0), (102, .bipush 13, 2, 13, 0), (104, .invokevirtual 52, 3, 0, 0), (107, .isub, 1, 0, 0), (108, .istore_n 3, 1, 0, 0), (109, .aload_n 0, 1, 0, 0), (110, .iload_n 1, 1, 0, 0), (111, .bipush 14, 2, 14, 0), (113, .iload_n 2, 1, 0, 0), (114, .iadd, 1, 0, 0), (115, .iconst 1, 1, 1, 0), (116, .iload_n 3, 1, 0, 0), (117, .iadd, 1, 0, 0), (118, .invokevirtual 67, 3, 0, 0), (121, .aload_n 0, 1, 0, 0), (122, .iload_n 1, 1, 0, 0), (123, .bipush 13, 2, 13, 0), (125, .aload_n 0, 1, 0, 0), (126, .getfield 9, 3, 0, 0), (129, .iconst 2, 1, 2, 0), (130, .iaload, 1, 0, 0), (131, .invokevirtual 67, 3, 0, 0), (134, .aload_n 0, 1, 0, 0), (135, .iload_n 1, 1, 0, 0), (136, .bipush 8, 2, 8, 0), (138, .iload_n 2, 1, 0, 0), (139, .iconst 1, 1, 1, 0), (140, .iadd, 1, 0, 0), (141, .invokevirtual 67, 3, 0, 0), (144, .aload_n 0, 1, 0, 0), (145, .iload_n 1, 1, 0, 0), (146, .bipush 9, 2, 9, 0), (148, .iconst 0, 1, 0, 0), (149, .invokevirtual 67, 3, 0, 0), (152, .iload_n 3, 1, 0, 0), (153, .ireturn, 1, 0, 0)]
set_option maxRecDepth 100000 in
theorem tk_X9_passes : q_tb cX9_passes 4 tb_X9_passes = true := by decide +kernel
set_option maxRecDepth 100000 in
theorem mw_X9_pass : q_mw yX9_pass cX9_pass 2 (Option.some Jvm.ClassFile.FieldType.int) 1 := ⟨q_t7 140 rfl rfl, by decide +kernel, by decide +kernel, q_init_QuillRelayModel⟩
set_option maxRecDepth 100000 in
theorem mi_X9_pass : Cond.instanceMethod yX9_pass ∈ q_W := q_t7 138 rfl rfl
set_option maxRecDepth 100000 in
theorem me_X9_pass : Cond.selects yX9_pass.cls yX9_pass yX9_pass ∈ q_W := q_t7 139 rfl rfl
def tb_X9_pass : List q_E := [(0, .aload_n 0, 1, 0, 0), (1, .invokevirtual 56, 3, 0, 0), (4, .aload_n 0, 1, 0, 0), (5, .aload_n 0, 1, 0, 0), (6, .iload_n 1, 1, 0, 0), (7, .invokevirtual 130, 3, 0, 0), (10, .invokevirtual 71, 3, 0, 0), (13, .ireturn, 1, 0, 0)]
set_option maxRecDepth 100000 in
theorem tk_X9_pass : q_tb cX9_pass 2 tb_X9_pass = true := by decide +kernel
set_option maxRecDepth 100000 in
theorem mw_X9_drops : q_mw yX9_drops cX9_drops 3 (Option.some Jvm.ClassFile.FieldType.int) 2 := ⟨q_t7 160 rfl rfl, by decide +kernel, by decide +kernel, q_init_QuillRelayModel⟩
set_option maxRecDepth 100000 in
theorem mi_X9_drops : Cond.instanceMethod yX9_drops ∈ q_W := q_t7 159 rfl rfl
set_option maxRecDepth 100000 in
theorem me_X9_drops : Cond.selects yX9_drops.cls yX9_drops yX9_drops ∈ q_W := q_s 40 rfl rfl
def tb_X9_drops : List q_E := [(0, .aload_n 0, 1, 0, 0), (1, .aload_n 0, 1, 0, 0), (2, .iload_n 1, 1, 0, 0), (3, .invokevirtual 75, 3, 0, 0), (6, .ifCond .ne 7, 3, 0, 13), (9, .iconst 1, 1, 1, 0), (10, .goto 4, 3, 0, 14), (13, .iconst 0, 1, 0, 0), (14, .iconst 1, 1, 1, 0), (15, .invokevirtual 63, 3, 0, 0), (18, .ifCond .ne 50, 3, 0, 68), (21, .aload_n 0, 1, 0, 0), (22, .iload_n 2, 1, 0, 0), (23, .iconst 1, 1, 1, 0), (24, .bipush 20, 2, 20, 0), (26, .invokestatic 48, 3, 0, 0), (29, .ifCond .ne 7, 3, 0, 36), (32, .iconst 1, 1, 1, 0), (33, .goto 4, 3, 0, 37), (36, .iconst 0, 1, 0, 0), (37, .iconst 2, 1, 2, 0), (38, .invokevirtual 63, 3, 0, 0), (41, .ifCond .ne 27, 3, 0, 68), (44, .aload_n 0, 1, 0, 0), (45, .aload_n 0, 1, 0, 0), (46, .iload_n 1, 1, 0, 0), (47, .bipush 6, 2, 6, 0), (49, .invokevirtual 52, 3, 0, 0), (52, .iconst 1, 1, 1, 0), (53, .if_icmp .eq 7, 3, 0, 60), (56, .iconst 1, 1, 1, 0), (57, .goto 4, 3, 0, 61), (60, .iconst 0, 1, 0, 0), (61, .iconst 3, 1, 3, 0), (62, .invokevirtual 63, 3, 0, 0), (65, .ifCond .eq 5, 3, 0, 70), (68, .iconst 0, 1, 0, 0), (69, .ireturn, 1, 0, 0), (70, .aload_n 0, 1, 0, 0), (71, .iload_n 1, 1, 0, 0), (72, .invokevirtual 133, 3, 0, 0), (75, .ifCond .eq 11, 3, 0, 86), (78, .aload_n 0, 1, 0, 0), (79, .iload_n 1, 1, 0, 0), (80, .bipush 12, 2, 12, 0), (82, .iconst 1, 1, 1, 0), (83, .invokevirtual 67, 3, 0, 0), (86, .aload_n 0, 1, 0, 0), (87, .iload_n 1, 1, 0, 0), (88, .bipush 10, 2, 10, 0), (90, .aload_n 0, 1, 0, 0), (91, .iload_n 1, 1, 0, 0), (92, .bipush 10, 2, 10, 0), (94, .invokevirtual 52, 3, 0, 0), (97, .iload_n 2, 1, 0, 0), (98, .iadd, 1, 0, 0), (99, .invokevirtual 67, 3, 0, 0), (102, .aload_n 0, 1, 0, 0), (103, .iload_n 1, 1, 0, 0), (104, .bipush 10, 2, 10, 0), (106, .invokevirtual 52, 3, 0, 0), (109, .ireturn, 1, 0, 0)]
set_option maxRecDepth 100000 in
theorem tk_X9_drops : q_tb cX9_drops 3 tb_X9_drops = true := by decide +kernel
set_option maxRecDepth 100000 in
theorem mw_X9_drop : q_mw yX9_drop cX9_drop 3 (Option.some Jvm.ClassFile.FieldType.int) 2 := ⟨q_t7 156 rfl rfl, by decide +kernel, by decide +kernel, q_init_QuillRelayModel⟩
set_option maxRecDepth 100000 in
theorem mi_X9_drop : Cond.instanceMethod yX9_drop ∈ q_W := q_t7 154 rfl rfl
set_option maxRecDepth 100000 in
theorem me_X9_drop : Cond.selects yX9_drop.cls yX9_drop yX9_drop ∈ q_W := q_t7 155 rfl rfl
def tb_X9_drop : List q_E := [(0, .aload_n 0, 1, 0, 0), (1, .invokevirtual 56, 3, 0, 0), (4, .aload_n 0, 1, 0, 0), (5, .aload_n 0, 1, 0, 0), (6, .iload_n 1, 1, 0, 0), (7, .iload_n 2, 1, 0, 0), (8, .invokevirtual 136, 3, 0, 0), (11, .invokevirtual 71, 3, 0, 0), (14, .ireturn, 1, 0, 0)]
set_option maxRecDepth 100000 in
theorem tk_X9_drop : q_tb cX9_drop 3 tb_X9_drop = true := by decide +kernel
set_option maxRecDepth 100000 in
theorem mw_X9_leaves : q_mw yX9_leaves cX9_leaves 2 (Option.some Jvm.ClassFile.FieldType.int) 1 := ⟨q_t7 172 rfl rfl, by decide +kernel, by decide +kernel, q_init_QuillRelayModel⟩
set_option maxRecDepth 100000 in
theorem mi_X9_leaves : Cond.instanceMethod yX9_leaves ∈ q_W := q_t7 171 rfl rfl
set_option maxRecDepth 100000 in
theorem me_X9_leaves : Cond.selects yX9_leaves.cls yX9_leaves yX9_leaves ∈ q_W := q_s 42 rfl rfl
def tb_X9_leaves : List q_E := [(0, .aload_n 0, 1, 0, 0), (1, .aload_n 0, 1, 0, 0), (2, .iload_n 1, 1, 0, 0), (3, .invokevirtual 75, 3, 0, 0), (6, .ifCond .ne 7, 3, 0, 13), (9, .iconst 1, 1, 1, 0), (10, .goto 4, 3, 0, 14), (13, .iconst 0, 1, 0, 0), (14, .iconst 1, 1, 1, 0), (15, .invokevirtual 63, 3, 0, 0), (18, .ifCond .ne 27, 3, 0, 45), (21, .aload_n 0, 1, 0, 0), (22, .aload_n 0, 1, 0, 0), (23, .iload_n 1, 1, 0, 0), (24, .bipush 6, 2, 6, 0), (26, .invokevirtual 52, 3, 0, 0), (29, .iconst 1, 1, 1, 0), (30, .if_icmp .eq 7, 3, 0, 37), (33, .iconst 1, 1, 1, 0), (34, .goto 4, 3, 0, 38), (37, .iconst 0, 1, 0, 0), (38, .iconst 2, 1, 2, 0), (39, .invokevirtual 63, 3, 0, 0), (42, .ifCond .eq 5, 3, 0, 47), (45, .iconst 0, 1, 0, 0), (46, .ireturn, 1, 0, 0), (47, .aload_n 0, 1, 0, 0), (48, .iload_n 1, 1, 0, 0), (49, .bipush 6, 2, 6, 0), (51, .iconst 3, 1, 3, 0), (52, .invokevirtual 67, 3, 0, 0), (55, .aload_n 0, 1, 0, 0), (56, .iconst 1, 1, 1, 0), (57, .invokevirtual 109, 3, 0, 0), (60, .ireturn, 1, 0, 0)]
set_option maxRecDepth 100000 in
theorem tk_X9_leaves : q_tb cX9_leaves 2 tb_X9_leaves = true := by decide +kernel
set_option maxRecDepth 100000 in
theorem mw_X9_withdraw : q_mw yX9_withdraw cX9_withdraw 2 (Option.some Jvm.ClassFile.FieldType.int) 1 := ⟨q_t7 168 rfl rfl, by decide +kernel, by decide +kernel, q_init_QuillRelayModel⟩
set_option maxRecDepth 100000 in
theorem mi_X9_withdraw : Cond.instanceMethod yX9_withdraw ∈ q_W := q_t7 166 rfl rfl
set_option maxRecDepth 100000 in
theorem me_X9_withdraw : Cond.selects yX9_withdraw.cls yX9_withdraw yX9_withdraw ∈ q_W := q_t7 167 rfl rfl
def tb_X9_withdraw : List q_E := [(0, .aload_n 0, 1, 0, 0), (1, .invokevirtual 56, 3, 0, 0), (4, .aload_n 0, 1, 0, 0), (5, .aload_n 0, 1, 0, 0), (6, .iload_n 1, 1, 0, 0), (7, .invokevirtual 139, 3, 0, 0), (10, .invokevirtual 71, 3, 0, 0), (13, .ireturn, 1, 0, 0)]
set_option maxRecDepth 100000 in
theorem tk_X9_withdraw : q_tb cX9_withdraw 2 tb_X9_withdraw = true := by decide +kernel
set_option maxRecDepth 100000 in
theorem mw_X9_protests : q_mw yX9_protests cX9_protests 5 (Option.some Jvm.ClassFile.FieldType.int) 3 := ⟨q_t7 180 rfl rfl, by decide +kernel, by decide +kernel, q_init_QuillRelayModel⟩
set_option maxRecDepth 100000 in
theorem mi_X9_protests : Cond.instanceMethod yX9_protests ∈ q_W := q_t7 179 rfl rfl
set_option maxRecDepth 100000 in
theorem me_X9_protests : Cond.selects yX9_protests.cls yX9_protests yX9_protests ∈ q_W := q_s 43 rfl rfl
def tb_X9_protests : List q_E := [(0, .aload_n 0, 1, 0, 0), (1, .aload_n 0, 1, 0, 0), (2, .iload_n 1, 1, 0, 0), (3, .invokevirtual 75, 3, 0, 0), (6, .ifCond .eq 11, 3, 0, 17), (9, .aload_n 0, 1, 0, 0), (10, .iload_n 2, 1, 0, 0), (11, .invokevirtual 75, 3, 0, 0), (14, .ifCond .ne 7, 3, 0, 21), (17, .iconst 1, 1, 1, 0), (18, .goto 4, 3, 0, 22), (21, .iconst 0, 1, 0, 0), (22, .iconst 1, 1, 1, 0), (23, .invokevirtual 63, 3, 0, 0), (26, .ifCond .ne 50, 3, 0, 76), (29, .aload_n 0, 1, 0, 0), (30, .iload_n 1, 1, 0, 0), (31, .iload_n 2, 1, 0, 0), (32, .if_icmp .eq 12, 3, 0, 44), (35, .iload_n 3, 1, 0, 0), (36, .iconst 0, 1, 0, 0), (37, .iconst 1, 1, 1, 0), (38, .invokestatic 48, 3, 0, 0), (41, .ifCond .ne 7, 3, 0, 48), (44, .iconst 1, 1, 1, 0), (45, .goto 4, 3, 0, 49), (48, .iconst 0, 1, 0, 0), (49, .iconst 2, 1, 2, 0), (50, .invokevirtual 63, 3, 0, 0), (53, .ifCond .ne 23, 3, 0, 76), (56, .aload_n 0, 1, 0, 0), (57, .aload_n 0, 1, 0, 0), (58, .invokevirtual 59, 3, 0, 0), (61, .ifCond .ne 7, 3, 0, 68), (64, .iconst 1, 1, 1, 0), (65, .goto 4, 3, 0, 69), (68, .iconst 0, 1, 0, 0), (69, .iconst 3, 1, 3, 0), (70, .invokevirtual 63, 3, 0, 0), (73, .ifCond .eq 5, 3, 0, 78), (76, .iconst 0, 1, 0, 0), (77, .ireturn, 1, 0, 0), (78, .aload_n 0, 1, 0, 0), (79, .iload_n 2, 1, 0, 0), (80, .bipush 11, 2, 11, 0), (82, .iload_n 3, 1, 0, 0), (83, .iadd, 1, 0, 0), (84, .invokevirtual 52, 3, 0, 0), (87, .iconst 1, 1, 1, 0), (88, .if_icmp .ne 7, 3, 0, 95), (91, .iconst 1, 1, 1, 0), (92, .goto 4, 3, 0, 96), (95, .iconst 0, 1, 0, 0), (96, .istore 4, 2, 0, 0), (98, .iload 4, 2, 0, 0), (100, .ifCond .eq 31, 3, 0, 131), (103, .aload_n 0, 1, 0, 0), (104, .iload_n 2, 1, 0, 0), (105, .bipush 11, 2, 11, 0), (107, .iload_n 3, 1, 0, 0), (108, .iadd, 1, 0, 0), (109, .iconst 0, 1, 0, 0), (110, .invokevirtual 67, 3, 0, 0), (113, .aload_n 0, 1, 0, 0), (114, .iload_n 2, 1, 0, 0), (115, .iconst 5, 1, 5, 0), (116, .aload_n 0, 1, 0, 0), (117, .iload_n 2, 1, 0, 0), (118, .iconst 5, 1, 5, 0), (119, .invokevirtual 52, 3, 0, 0), (122, .bipush 10, 2, 10, 0), (124, .iadd, 1, 0, 0), (125, .invokevirtual 67, 3, 0, 0), (128, .goto 17, 3, 0, 145), (131, .aload_n 0, 1, 0, 0), (132, .iload_n 1, 1, 0, 0), (133, .iconst 5, 1, 5, 0), (134, .aload_n 0, 1, 0, 0), (135, .iload_n 1, 1, 0, 0), (136, .iconst 5, 1, 5, 0), (137, .invokevirtual 52, 3, 0, 0), (140, .iconst 5, 1, 5, 0), (141, .iadd, 1, 0, 0), (142, .invokevirtual 67, 3, 0, 0), (145, .iload 4, 2, 0, 0), (147, .ifCond .eq 7, 3, 0, 154), (150, .iconst 1, 1, 1, 0), (151, .goto 4, 3, 0, 155), (154, .iconst 0, 1, 0, 0), (155, .ireturn, 1, 0, 0)]
set_option maxRecDepth 100000 in
theorem tk_X9_protests : q_tb cX9_protests 5 tb_X9_protests = true := by decide +kernel
set_option maxRecDepth 100000 in
theorem mw_X9_protest : q_mw yX9_protest cX9_protest 4 (Option.some Jvm.ClassFile.FieldType.boolean) 3 := ⟨q_t7 176 rfl rfl, by decide +kernel, by decide +kernel, q_init_QuillRelayModel⟩
set_option maxRecDepth 100000 in
theorem mi_X9_protest : Cond.instanceMethod yX9_protest ∈ q_W := q_t7 174 rfl rfl
set_option maxRecDepth 100000 in
theorem me_X9_protest : Cond.selects yX9_protest.cls yX9_protest yX9_protest ∈ q_W := q_t7 175 rfl rfl
def tb_X9_protest : List q_E := [(0, .aload_n 0, 1, 0, 0), (1, .invokevirtual 56, 3, 0, 0), (4, .aload_n 0, 1, 0, 0), (5, .aload_n 0, 1, 0, 0), (6, .iload_n 1, 1, 0, 0), (7, .iload_n 2, 1, 0, 0), (8, .iload_n 3, 1, 0, 0), (9, .invokevirtual 142, 3, 0, 0), (12, .invokevirtual 71, 3, 0, 0), (15, .iconst 1, 1, 1, 0), (16, .if_icmp .ne 7, 3, 0, 23), (19, .iconst 1, 1, 1, 0), (20, .goto 4, 3, 0, 24), (23, .iconst 0, 1, 0, 0), (24, .ireturn, 1, 0, 0)]
set_option maxRecDepth 100000 in
theorem tk_X9_protest : q_tb cX9_protest 4 tb_X9_protest = true := by decide +kernel
set_option maxRecDepth 100000 in
theorem mw_X9_teamCount : q_mw yX9_teamCount cX9_teamCount 1 (Option.some Jvm.ClassFile.FieldType.int) 0 := ⟨q_t7 184 rfl rfl, by decide +kernel, by decide +kernel, q_init_QuillRelayModel⟩
set_option maxRecDepth 100000 in
theorem mi_X9_teamCount : Cond.instanceMethod yX9_teamCount ∈ q_W := q_t7 182 rfl rfl
set_option maxRecDepth 100000 in
theorem me_X9_teamCount : Cond.selects yX9_teamCount.cls yX9_teamCount yX9_teamCount ∈ q_W := q_t7 183 rfl rfl
def tb_X9_teamCount : List q_E := [(0, .aload_n 0, 1, 0, 0), (1, .iconst 0, 1, 0, 0), (2, .putfield 38, 3, 0, 0), (5, .aload_n 0, 1, 0, 0), (6, .getfield 9, 3, 0, 0), (9, .iconst 3, 1, 3, 0), (10, .iaload, 1, 0, 0), (11, .ireturn, 1, 0, 0)]
set_option maxRecDepth 100000 in
theorem tk_X9_teamCount : q_tb cX9_teamCount 1 tb_X9_teamCount = true := by decide +kernel
set_option maxRecDepth 100000 in
theorem mw_X9_runningCount : q_mw yX9_runningCount cX9_runningCount 1 (Option.some Jvm.ClassFile.FieldType.int) 0 := ⟨q_t7 188 rfl rfl, by decide +kernel, by decide +kernel, q_init_QuillRelayModel⟩
set_option maxRecDepth 100000 in
theorem mi_X9_runningCount : Cond.instanceMethod yX9_runningCount ∈ q_W := q_t7 186 rfl rfl
set_option maxRecDepth 100000 in
theorem me_X9_runningCount : Cond.selects yX9_runningCount.cls yX9_runningCount yX9_runningCount ∈ q_W := q_t7 187 rfl rfl
def tb_X9_runningCount : List q_E := [(0, .aload_n 0, 1, 0, 0), (1, .iconst 0, 1, 0, 0), (2, .putfield 38, 3, 0, 0), (5, .aload_n 0, 1, 0, 0), (6, .iconst 1, 1, 1, 0), (7, .invokevirtual 109, 3, 0, 0), (10, .ireturn, 1, 0, 0)]
set_option maxRecDepth 100000 in
theorem tk_X9_runningCount : q_tb cX9_runningCount 1 tb_X9_runningCount = true := by decide +kernel
set_option maxRecDepth 100000 in
theorem mw_X9_isStarted : q_mw yX9_isStarted cX9_isStarted 1 (Option.some Jvm.ClassFile.FieldType.boolean) 0 := ⟨q_t7 192 rfl rfl, by decide +kernel, by decide +kernel, q_init_QuillRelayModel⟩
set_option maxRecDepth 100000 in
theorem mi_X9_isStarted : Cond.instanceMethod yX9_isStarted ∈ q_W := q_t7 190 rfl rfl
set_option maxRecDepth 100000 in
theorem me_X9_isStarted : Cond.selects yX9_isStarted.cls yX9_isStarted yX9_isStarted ∈ q_W := q_t7 191 rfl rfl
def tb_X9_isStarted : List q_E := [(0, .aload_n 0, 1, 0, 0), (1, .iconst 0, 1, 0, 0), (2, .putfield 38, 3, 0, 0), (5, .aload_n 0, 1, 0, 0), (6, .invokevirtual 59, 3, 0, 0), (9, .ireturn, 1, 0, 0)]
set_option maxRecDepth 100000 in
theorem tk_X9_isStarted : q_tb cX9_isStarted 1 tb_X9_isStarted = true := by decide +kernel
set_option maxRecDepth 100000 in
theorem mw_X9_isFinished : q_mw yX9_isFinished cX9_isFinished 1 (Option.some Jvm.ClassFile.FieldType.boolean) 0 := ⟨q_t7 196 rfl rfl, by decide +kernel, by decide +kernel, q_init_QuillRelayModel⟩
set_option maxRecDepth 100000 in
theorem mi_X9_isFinished : Cond.instanceMethod yX9_isFinished ∈ q_W := q_t7 194 rfl rfl
set_option maxRecDepth 100000 in
theorem me_X9_isFinished : Cond.selects yX9_isFinished.cls yX9_isFinished yX9_isFinished ∈ q_W := q_t7 195 rfl rfl
def tb_X9_isFinished : List q_E := [(0, .aload_n 0, 1, 0, 0), (1, .iconst 0, 1, 0, 0), (2, .putfield 38, 3, 0, 0), (5, .aload_n 0, 1, 0, 0), (6, .invokevirtual 59, 3, 0, 0), (9, .ifCond .eq 15, 3, 0, 24), (12, .aload_n 0, 1, 0, 0), (13, .iconst 1, 1, 1, 0), (14, .invokevirtual 109, 3, 0, 0), (17, .ifCond .ne 7, 3, 0, 24), (20, .iconst 1, 1, 1, 0), (21, .goto 4, 3, 0, 25), (24, .iconst 0, 1, 0, 0), (25, .ireturn, 1, 0, 0)]
set_option maxRecDepth 100000 in
theorem tk_X9_isFinished : q_tb cX9_isFinished 1 tb_X9_isFinished = true := by decide +kernel
set_option maxRecDepth 100000 in
theorem mw_X9_clock : q_mw yX9_clock cX9_clock 1 (Option.some Jvm.ClassFile.FieldType.int) 0 := ⟨q_t7 200 rfl rfl, by decide +kernel, by decide +kernel, q_init_QuillRelayModel⟩
set_option maxRecDepth 100000 in
theorem mi_X9_clock : Cond.instanceMethod yX9_clock ∈ q_W := q_t7 198 rfl rfl
set_option maxRecDepth 100000 in
theorem me_X9_clock : Cond.selects yX9_clock.cls yX9_clock yX9_clock ∈ q_W := q_t7 199 rfl rfl
def tb_X9_clock : List q_E := [(0, .aload_n 0, 1, 0, 0), (1, .iconst 0, 1, 0, 0), (2, .putfield 38, 3, 0, 0), (5, .aload_n 0, 1, 0, 0), (6, .getfield 9, 3, 0, 0), (9, .iconst 2, 1, 2, 0), (10, .iaload, 1, 0, 0), (11, .ireturn, 1, 0, 0)]
set_option maxRecDepth 100000 in
theorem tk_X9_clock : q_tb cX9_clock 1 tb_X9_clock = true := by decide +kernel
set_option maxRecDepth 100000 in
theorem mw_X9_length : q_mw yX9_length cX9_length 1 (Option.some Jvm.ClassFile.FieldType.int) 0 := ⟨q_t7 204 rfl rfl, by decide +kernel, by decide +kernel, q_init_QuillRelayModel⟩
set_option maxRecDepth 100000 in
theorem mi_X9_length : Cond.instanceMethod yX9_length ∈ q_W := q_t7 202 rfl rfl
set_option maxRecDepth 100000 in
theorem me_X9_length : Cond.selects yX9_length.cls yX9_length yX9_length ∈ q_W := q_t7 203 rfl rfl
def tb_X9_length : List q_E := [(0, .aload_n 0, 1, 0, 0), (1, .iconst 0, 1, 0, 0), (2, .putfield 38, 3, 0, 0), (5, .aload_n 0, 1, 0, 0), (6, .getfield 9, 3, 0, 0), (9, .iconst 0, 1, 0, 0), (10, .iaload, 1, 0, 0), (11, .ireturn, 1, 0, 0)]
set_option maxRecDepth 100000 in
theorem tk_X9_length : q_tb cX9_length 1 tb_X9_length = true := by decide +kernel
set_option maxRecDepth 100000 in
theorem mw_X9_ofTeam : q_mw yX9_ofTeam cX9_ofTeam 3 (Option.some Jvm.ClassFile.FieldType.int) 2 := ⟨q_t7 212 rfl rfl, by decide +kernel, by decide +kernel, q_init_QuillRelayModel⟩
set_option maxRecDepth 100000 in
theorem mi_X9_ofTeam : Cond.instanceMethod yX9_ofTeam ∈ q_W := q_t7 211 rfl rfl
set_option maxRecDepth 100000 in
theorem me_X9_ofTeam : Cond.selects yX9_ofTeam.cls yX9_ofTeam yX9_ofTeam ∈ q_W := q_s 44 rfl rfl
def tb_X9_ofTeam : List q_E := [(0, .aload_n 0, 1, 0, 0), (1, .aload_n 0, 1, 0, 0), (2, .iload_n 1, 1, 0, 0), (3, .invokevirtual 75, 3, 0, 0), (6, .ifCond .ne 7, 3, 0, 13), (9, .iconst 1, 1, 1, 0), (10, .goto 4, 3, 0, 14), (13, .iconst 0, 1, 0, 0), (14, .iconst 1, 1, 1, 0), (15, .invokevirtual 63, 3, 0, 0), (18, .ifCond .eq 7, 3, 0, 25), (21, .iconst 0, 1, 0, 0), (22, .goto 9, 3, 0, 31), (25, .aload_n 0, 1, 0, 0), (26, .iload_n 1, 1, 0, 0), (27, .iload_n 2, 1, 0, 0), (28, .invokevirtual 52, 3, 0, 0), (31, .ireturn, 1, 0, 0)]
set_option maxRecDepth 100000 in
theorem tk_X9_ofTeam : q_tb cX9_ofTeam 3 tb_X9_ofTeam = true := by decide +kernel
set_option maxRecDepth 100000 in
theorem mw_X9_laneOf : q_mw yX9_laneOf cX9_laneOf 2 (Option.some Jvm.ClassFile.FieldType.int) 1 := ⟨q_t7 208 rfl rfl, by decide +kernel, by decide +kernel, q_init_QuillRelayModel⟩
set_option maxRecDepth 100000 in
theorem mi_X9_laneOf : Cond.instanceMethod yX9_laneOf ∈ q_W := q_t7 206 rfl rfl
set_option maxRecDepth 100000 in
theorem me_X9_laneOf : Cond.selects yX9_laneOf.cls yX9_laneOf yX9_laneOf ∈ q_W := q_t7 207 rfl rfl
def tb_X9_laneOf : List q_E := [(0, .aload_n 0, 1, 0, 0), (1, .iload_n 1, 1, 0, 0), (2, .iconst 4, 1, 4, 0), (3, .invokevirtual 145, 3, 0, 0), (6, .ireturn, 1, 0, 0)]
set_option maxRecDepth 100000 in
theorem tk_X9_laneOf : q_tb cX9_laneOf 2 tb_X9_laneOf = true := by decide +kernel
set_option maxRecDepth 100000 in
theorem mw_X9_teamInLane : q_mw yX9_teamInLane cX9_teamInLane 3 (Option.some Jvm.ClassFile.FieldType.int) 1 := ⟨q_t7 216 rfl rfl, by decide +kernel, by decide +kernel, q_init_QuillRelayModel⟩
set_option maxRecDepth 100000 in
theorem mi_X9_teamInLane : Cond.instanceMethod yX9_teamInLane ∈ q_W := q_t7 214 rfl rfl
set_option maxRecDepth 100000 in
theorem me_X9_teamInLane : Cond.selects yX9_teamInLane.cls yX9_teamInLane yX9_teamInLane ∈ q_W := q_t7 215 rfl rfl
def tb_X9_teamInLane : List q_E := [(0, .iconst 0, 1, 0, 0), (1, .istore_n 2, 1, 0, 0), (2, .iload_n 2, 1, 0, 0), (3, .aload_n 0, 1, 0, 0), (4, .getfield 9, 3, 0, 0), (7, .iconst 3, 1, 3, 0), (8, .iaload, 1, 0, 0), (9, .if_icmp .ge 26, 3, 0, 35), (12, .aload_n 0, 1, 0, 0), (13, .iload_n 2, 1, 0, 0), (14, .iconst 4, 1, 4, 0), (15, .invokevirtual 52, 3, 0, 0), (18, .iload_n 1, 1, 0, 0), (19, .if_icmp .ne 10, 3, 0, 29), (22, .aload_n 0, 1, 0, 0), (23, .iconst 0, 1, 0, 0), (24, .putfield 38, 3, 0, 0), (27, .iload_n 2, 1, 0, 0), (28, .ireturn, 1, 0, 0), (29, .iinc 2 1, 3, 1, 0), (32, .goto (-30), 3, 0, 2), (35, .aload_n 0, 1, 0, 0), (36, .iconst 1, 1, 1, 0), (37, .putfield 38, 3, 0, 0), (40, .iconst 0, 1, 0, 0), (41, .ireturn, 1, 0, 0)]
set_option maxRecDepth 100000 in
theorem tk_X9_teamInLane : q_tb cX9_teamInLane 3 tb_X9_teamInLane = true := by decide +kernel
set_option maxRecDepth 100000 in
theorem mw_X9_speedOf : q_mw yX9_speedOf cX9_speedOf 3 (Option.some Jvm.ClassFile.FieldType.int) 2 := ⟨q_t7 220 rfl rfl, by decide +kernel, by decide +kernel, q_init_QuillRelayModel⟩
set_option maxRecDepth 100000 in
theorem mi_X9_speedOf : Cond.instanceMethod yX9_speedOf ∈ q_W := q_t7 218 rfl rfl
set_option maxRecDepth 100000 in
theorem me_X9_speedOf : Cond.selects yX9_speedOf.cls yX9_speedOf yX9_speedOf ∈ q_W := q_t7 219 rfl rfl
def tb_X9_speedOf : List q_E := [(0, .aload_n 0, 1, 0, 0), (1, .aload_n 0, 1, 0, 0), (2, .iload_n 1, 1, 0, 0), (3, .invokevirtual 75, 3, 0, 0), (6, .ifCond .eq 10, 3, 0, 16), (9, .iload_n 2, 1, 0, 0), (10, .invokestatic 79, 3, 0, 0), (13, .ifCond .ne 7, 3, 0, 20), (16, .iconst 1, 1, 1, 0), (17, .goto 4, 3, 0, 21), (20, .iconst 0, 1, 0, 0), (21, .iconst 1, 1, 1, 0), (22, .invokevirtual 63, 3, 0, 0), (25, .ifCond .eq 7, 3, 0, 32), (28, .iconst 0, 1, 0, 0), (29, .goto 11, 3, 0, 40), (32, .aload_n 0, 1, 0, 0), (33, .iload_n 1, 1, 0, 0), (34, .iconst 0, 1, 0, 0), (35, .iload_n 2, 1, 0, 0), (36, .iadd, 1, 0, 0), (37, .invokevirtual 52, 3, 0, 0), (40, .ireturn, 1, 0, 0)]
set_option maxRecDepth 100000 in
theorem tk_X9_speedOf : q_tb cX9_speedOf 3 tb_X9_speedOf = true := by decide +kernel
set_option maxRecDepth 100000 in
theorem mw_X9_positionOf : q_mw yX9_positionOf cX9_positionOf 2 (Option.some Jvm.ClassFile.FieldType.int) 1 := ⟨q_t7 224 rfl rfl, by decide +kernel, by decide +kernel, q_init_QuillRelayModel⟩
set_option maxRecDepth 100000 in
theorem mi_X9_positionOf : Cond.instanceMethod yX9_positionOf ∈ q_W := q_t7 222 rfl rfl
set_option maxRecDepth 100000 in
theorem me_X9_positionOf : Cond.selects yX9_positionOf.cls yX9_positionOf yX9_positionOf ∈ q_W := q_t7 223 rfl rfl
def tb_X9_positionOf : List q_E := [(0, .aload_n 0, 1, 0, 0), (1, .iload_n 1, 1, 0, 0), (2, .bipush 7, 2, 7, 0), (4, .invokevirtual 145, 3, 0, 0), (7, .ireturn, 1, 0, 0)]
set_option maxRecDepth 100000 in
theorem tk_X9_positionOf : q_tb cX9_positionOf 2 tb_X9_positionOf = true := by decide +kernel
set_option maxRecDepth 100000 in
theorem mw_X9_legOf : q_mw yX9_legOf cX9_legOf 2 (Option.some Jvm.ClassFile.FieldType.int) 1 := ⟨q_t7 228 rfl rfl, by decide +kernel, by decide +kernel, q_init_QuillRelayModel⟩
set_option maxRecDepth 100000 in
theorem mi_X9_legOf : Cond.instanceMethod yX9_legOf ∈ q_W := q_t7 226 rfl rfl
set_option maxRecDepth 100000 in
theorem me_X9_legOf : Cond.selects yX9_legOf.cls yX9_legOf yX9_legOf ∈ q_W := q_t7 227 rfl rfl
def tb_X9_legOf : List q_E := [(0, .aload_n 0, 1, 0, 0), (1, .iload_n 1, 1, 0, 0), (2, .bipush 8, 2, 8, 0), (4, .invokevirtual 145, 3, 0, 0), (7, .ireturn, 1, 0, 0)]
set_option maxRecDepth 100000 in
theorem tk_X9_legOf : q_tb cX9_legOf 2 tb_X9_legOf = true := by decide +kernel
set_option maxRecDepth 100000 in
theorem mw_X9_isRunning : q_mw yX9_isRunning cX9_isRunning 2 (Option.some Jvm.ClassFile.FieldType.boolean) 1 := ⟨q_t7 232 rfl rfl, by decide +kernel, by decide +kernel, q_init_QuillRelayModel⟩
set_option maxRecDepth 100000 in
theorem mi_X9_isRunning : Cond.instanceMethod yX9_isRunning ∈ q_W := q_t7 230 rfl rfl
set_option maxRecDepth 100000 in
theorem me_X9_isRunning : Cond.selects yX9_isRunning.cls yX9_isRunning yX9_isRunning ∈ q_W := q_t7 231 rfl rfl
def tb_X9_isRunning : List q_E := [(0, .aload_n 0, 1, 0, 0), (1, .iload_n 1, 1, 0, 0), (2, .bipush 6, 2, 6, 0), (4, .invokevirtual 145, 3, 0, 0), (7, .iconst 1, 1, 1, 0), (8, .if_icmp .ne 7, 3, 0, 15), (11, .iconst 1, 1, 1, 0), (12, .goto 4, 3, 0, 16), (15, .iconst 0, 1, 0, 0), (16, .ireturn, 1, 0, 0)]
set_option maxRecDepth 100000 in
theorem tk_X9_isRunning : q_tb cX9_isRunning 2 tb_X9_isRunning = true := by decide +kernel
set_option maxRecDepth 100000 in
theorem mw_X9_isInZone : q_mw yX9_isInZone cX9_isInZone 2 (Option.some Jvm.ClassFile.FieldType.boolean) 1 := ⟨q_t7 236 rfl rfl, by decide +kernel, by decide +kernel, q_init_QuillRelayModel⟩
set_option maxRecDepth 100000 in
theorem mi_X9_isInZone : Cond.instanceMethod yX9_isInZone ∈ q_W := q_t7 234 rfl rfl
set_option maxRecDepth 100000 in
theorem me_X9_isInZone : Cond.selects yX9_isInZone.cls yX9_isInZone yX9_isInZone ∈ q_W := q_t7 235 rfl rfl
def tb_X9_isInZone : List q_E := [(0, .aload_n 0, 1, 0, 0), (1, .aload_n 0, 1, 0, 0), (2, .iload_n 1, 1, 0, 0), (3, .invokevirtual 75, 3, 0, 0), (6, .ifCond .ne 7, 3, 0, 13), (9, .iconst 1, 1, 1, 0), (10, .goto 4, 3, 0, 14), (13, .iconst 0, 1, 0, 0), (14, .iconst 1, 1, 1, 0), (15, .invokevirtual 63, 3, 0, 0), (18, .ifCond .ne 15, 3, 0, 33), (21, .aload_n 0, 1, 0, 0), (22, .iload_n 1, 1, 0, 0), (23, .invokevirtual 133, 3, 0, 0), (26, .ifCond .eq 7, 3, 0, 33), (29, .iconst 1, 1, 1, 0), (30, .goto 4, 3, 0, 34), (33, .iconst 0, 1, 0, 0), (34, .ireturn, 1, 0, 0)]
set_option maxRecDepth 100000 in
theorem tk_X9_isInZone : q_tb cX9_isInZone 2 tb_X9_isInZone = true := by decide +kernel
set_option maxRecDepth 100000 in
theorem mw_X9_standingOf : q_mw yX9_standingOf cX9_standingOf 2 (Option.some Jvm.ClassFile.FieldType.int) 1 := ⟨q_t8 0 rfl rfl, by decide +kernel, by decide +kernel, q_init_QuillRelayModel⟩
set_option maxRecDepth 100000 in
theorem mi_X9_standingOf : Cond.instanceMethod yX9_standingOf ∈ q_W := q_t7 238 rfl rfl
set_option maxRecDepth 100000 in
theorem me_X9_standingOf : Cond.selects yX9_standingOf.cls yX9_standingOf yX9_standingOf ∈ q_W := q_t7 239 rfl rfl
def tb_X9_standingOf : List q_E := [(0, .aload_n 0, 1, 0, 0), (1, .iload_n 1, 1, 0, 0), (2, .bipush 10, 2, 10, 0), (4, .invokevirtual 145, 3, 0, 0), (7, .ireturn, 1, 0, 0)]
set_option maxRecDepth 100000 in
theorem tk_X9_standingOf : q_tb cX9_standingOf 2 tb_X9_standingOf = true := by decide +kernel
set_option maxRecDepth 100000 in
theorem mw_X9_penaltyOf : q_mw yX9_penaltyOf cX9_penaltyOf 2 (Option.some Jvm.ClassFile.FieldType.int) 1 := ⟨q_t8 4 rfl rfl, by decide +kernel, by decide +kernel, q_init_QuillRelayModel⟩
set_option maxRecDepth 100000 in
theorem mi_X9_penaltyOf : Cond.instanceMethod yX9_penaltyOf ∈ q_W := q_t8 2 rfl rfl
set_option maxRecDepth 100000 in
theorem me_X9_penaltyOf : Cond.selects yX9_penaltyOf.cls yX9_penaltyOf yX9_penaltyOf ∈ q_W := q_t8 3 rfl rfl
def tb_X9_penaltyOf : List q_E := [(0, .aload_n 0, 1, 0, 0), (1, .iload_n 1, 1, 0, 0), (2, .iconst 5, 1, 5, 0), (3, .invokevirtual 145, 3, 0, 0), (6, .ireturn, 1, 0, 0)]
set_option maxRecDepth 100000 in
theorem tk_X9_penaltyOf : q_tb cX9_penaltyOf 2 tb_X9_penaltyOf = true := by decide +kernel
set_option maxRecDepth 100000 in
theorem mw_X9_hasFoul : q_mw yX9_hasFoul cX9_hasFoul 3 (Option.some Jvm.ClassFile.FieldType.boolean) 2 := ⟨q_t8 8 rfl rfl, by decide +kernel, by decide +kernel, q_init_QuillRelayModel⟩
set_option maxRecDepth 100000 in
theorem mi_X9_hasFoul : Cond.instanceMethod yX9_hasFoul ∈ q_W := q_t8 6 rfl rfl
set_option maxRecDepth 100000 in
theorem me_X9_hasFoul : Cond.selects yX9_hasFoul.cls yX9_hasFoul yX9_hasFoul ∈ q_W := q_t8 7 rfl rfl
def tb_X9_hasFoul : List q_E := [(0, .aload_n 0, 1, 0, 0), (1, .aload_n 0, 1, 0, 0), (2, .iload_n 1, 1, 0, 0), (3, .invokevirtual 75, 3, 0, 0), (6, .ifCond .ne 7, 3, 0, 13), (9, .iconst 1, 1, 1, 0), (10, .goto 4, 3, 0, 14), (13, .iconst 0, 1, 0, 0), (14, .iconst 1, 1, 1, 0), (15, .invokevirtual 63, 3, 0, 0), (18, .ifCond .ne 42, 3, 0, 60), (21, .aload_n 0, 1, 0, 0), (22, .iload_n 2, 1, 0, 0), (23, .iconst 0, 1, 0, 0), (24, .iconst 1, 1, 1, 0), (25, .invokestatic 48, 3, 0, 0), (28, .ifCond .ne 7, 3, 0, 35), (31, .iconst 1, 1, 1, 0), (32, .goto 4, 3, 0, 36), (35, .iconst 0, 1, 0, 0), (36, .iconst 2, 1, 2, 0), (37, .invokevirtual 63, 3, 0, 0), (40, .ifCond .ne 20, 3, 0, 60), (43, .aload_n 0, 1, 0, 0), (44, .iload_n 1, 1, 0, 0), (45, .bipush 11, 2, 11, 0), (47, .iload_n 2, 1, 0, 0), (48, .iadd, 1, 0, 0), (49, .invokevirtual 52, 3, 0, 0), (52, .iconst 1, 1, 1, 0), (53, .if_icmp .ne 7, 3, 0, 60), (56, .iconst 1, 1, 1, 0), (57, .goto 4, 3, 0, 61), (60, .iconst 0, 1, 0, 0), (61, .ireturn, 1, 0, 0)]
set_option maxRecDepth 100000 in
theorem tk_X9_hasFoul : q_tb cX9_hasFoul 3 tb_X9_hasFoul = true := by decide +kernel
set_option maxRecDepth 100000 in
theorem mw_X9_splitOf : q_mw yX9_splitOf cX9_splitOf 4 (Option.some Jvm.ClassFile.FieldType.int) 2 := ⟨q_t8 12 rfl rfl, by decide +kernel, by decide +kernel, q_init_QuillRelayModel⟩
set_option maxRecDepth 100000 in
theorem mi_X9_splitOf : Cond.instanceMethod yX9_splitOf ∈ q_W := q_t8 10 rfl rfl
set_option maxRecDepth 100000 in
theorem me_X9_splitOf : Cond.selects yX9_splitOf.cls yX9_splitOf yX9_splitOf ∈ q_W := q_t8 11 rfl rfl
def tb_X9_splitOf : List q_E := [(0, .aload_n 0, 1, 0, 0), (1, .aload_n 0, 1, 0, 0), (2, .iload_n 1, 1, 0, 0), (3, .invokevirtual 75, 3, 0, 0), (6, .ifCond .eq 10, 3, 0, 16), (9, .iload_n 2, 1, 0, 0), (10, .invokestatic 79, 3, 0, 0), (13, .ifCond .ne 7, 3, 0, 20), (16, .iconst 1, 1, 1, 0), (17, .goto 4, 3, 0, 21), (20, .iconst 0, 1, 0, 0), (21, .iconst 1, 1, 1, 0), (22, .invokevirtual 63, 3, 0, 0), (25, .ifCond .eq 5, 3, 0, 30), (28, .iconst 0, 1, 0, 0), (29, .ireturn, 1, 0, 0), (30, .aload_n 0, 1, 0, 0), (31, .iload_n 1, 1, 0, 0), (32, .bipush 14, 2, 14, 0), (34, .iload_n 2, 1, 0, 0), (35, .iadd, 1, 0, 0), (36, .invokevirtual 52, 3, 0, 0), (39, .iconst 1, 1, 1, 0), (40, .isub, 1, 0, 0), (41, .istore_n 3, 1, 0, 0), (42, .aload_n 0, 1, 0, 0), (43, .iload_n 3, 1, 0, 0), (44, .ifCond .ge 7, 3, 0, 51), (47, .iconst 1, 1, 1, 0), (48, .goto 4, 3, 0, 52), (51, .iconst 0, 1, 0, 0), (52, .iconst 2, 1, 2, 0), (53, .invokevirtual 63, 3, 0, 0), (56, .ifCond .eq 7, 3, 0, 63), (59, .iconst 0, 1, 0, 0), (60, .goto 4, 3, 0, 64), (63, .iload_n 3, 1, 0, 0), (64, .ireturn, 1, 0, 0)]
set_option maxRecDepth 100000 in
theorem tk_X9_splitOf : q_tb cX9_splitOf 4 tb_X9_splitOf = true := by decide +kernel
set_option maxRecDepth 100000 in
theorem mw_X9_splitSum : q_mw yX9_splitSum cX9_splitSum 5 (Option.some Jvm.ClassFile.FieldType.int) 1 := ⟨q_t8 16 rfl rfl, by decide +kernel, by decide +kernel, q_init_QuillRelayModel⟩
set_option maxRecDepth 100000 in
theorem mi_X9_splitSum : Cond.instanceMethod yX9_splitSum ∈ q_W := q_t8 14 rfl rfl
set_option maxRecDepth 100000 in
theorem me_X9_splitSum : Cond.selects yX9_splitSum.cls yX9_splitSum yX9_splitSum ∈ q_W := q_t8 15 rfl rfl
def tb_X9_splitSum : List q_E := [(0, .aload_n 0, 1, 0, 0), (1, .aload_n 0, 1, 0, 0), (2, .iload_n 1, 1, 0, 0), (3, .invokevirtual 75, 3, 0, 0), (6, .ifCond .ne 7, 3, 0, 13), (9, .iconst 1, 1, 1, 0), (10, .goto 4, 3, 0, 14), (13, .iconst 0, 1, 0, 0), (14, .iconst 1, 1, 1, 0), (15, .invokevirtual 63, 3, 0, 0), (18, .ifCond .eq 5, 3, 0, 23), (21, .iconst 0, 1, 0, 0), (22, .ireturn, 1, 0, 0), (23, .iconst 0, 1, 0, 0), (24, .istore_n 2, 1, 0, 0), (25, .iconst 0, 1, 0, 0), (26, .istore_n 3, 1, 0, 0), (27, .iload_n 3, 1, 0, 0), (28, .iconst 4, 1, 4, 0), (29, .if_icmp .ge 36, 3, 0, 65), (32, .aload_n 0, 1, 0, 0), (33, .iload_n 1, 1, 0, 0), (34, .bipush 14, 2, 14, 0), (36, .iload_n 3, 1, 0, 0), (37, .iadd, 1, 0, 0), (38, .invokevirtual 52, 3, 0, 0), (41, .iconst 1, 1, 1, 0), (42, .isub, 1, 0, 0), (43, .istore 4, 2, 0, 0), (45, .iload_n 2, 1, 0, 0), (46, .iload 4, 2, 0, 0), (48, .ifCond .ge 7, 3, 0, 55), (51, .iconst 0, 1, 0, 0), (52, .goto 5, 3, 0, 57), (55, .iload 4, 2, 0, 0), (57, .iadd, 1, 0, 0), (58, .istore_n 2, 1, 0, 0), (59, .iinc 3 1, 3, 1, 0), (62, .goto (-35), 3, 0, 27), (65, .iload_n 2, 1, 0, 0), (66, .ireturn, 1, 0, 0)]
set_option maxRecDepth 100000 in
theorem tk_X9_splitSum : q_tb cX9_splitSum 5 tb_X9_splitSum = true := by decide +kernel
set_option maxRecDepth 100000 in
theorem mw_X9_isNoResult : q_mw yX9_isNoResult cX9_isNoResult 2 (Option.some Jvm.ClassFile.FieldType.boolean) 1 := ⟨q_t8 24 rfl rfl, by decide +kernel, by decide +kernel, q_init_QuillRelayModel⟩
set_option maxRecDepth 100000 in
theorem mi_X9_isNoResult : Cond.instanceMethod yX9_isNoResult ∈ q_W := q_t8 23 rfl rfl
set_option maxRecDepth 100000 in
theorem me_X9_isNoResult : Cond.selects yX9_isNoResult.cls yX9_isNoResult yX9_isNoResult ∈ q_W := q_s 45 rfl rfl
def tb_X9_isNoResult : List q_E := [(0, .aload_n 0, 1, 0, 0), (1, .aload_n 0, 1, 0, 0), (2, .iload_n 1, 1, 0, 0), (3, .invokevirtual 75, 3, 0, 0), (6, .ifCond .ne 7, 3, 0, 13), (9, .iconst 1, 1, 1, 0), (10, .goto 4, 3, 0, 14), (13, .iconst 0, 1, 0, 0), (14, .iconst 1, 1, 1, 0), (15, .invokevirtual 63, 3, 0, 0), (18, .ifCond .ne 27, 3, 0, 45), (21, .aload_n 0, 1, 0, 0), (22, .aload_n 0, 1, 0, 0), (23, .iload_n 1, 1, 0, 0), (24, .bipush 6, 2, 6, 0), (26, .invokevirtual 52, 3, 0, 0), (29, .iconst 2, 1, 2, 0), (30, .if_icmp .eq 7, 3, 0, 37), (33, .iconst 1, 1, 1, 0), (34, .goto 4, 3, 0, 38), (37, .iconst 0, 1, 0, 0), (38, .iconst 2, 1, 2, 0), (39, .invokevirtual 63, 3, 0, 0), (42, .ifCond .eq 7, 3, 0, 49), (45, .iconst 1, 1, 1, 0), (46, .goto 4, 3, 0, 50), (49, .iconst 0, 1, 0, 0), (50, .ireturn, 1, 0, 0)]
set_option maxRecDepth 100000 in
theorem tk_X9_isNoResult : q_tb cX9_isNoResult 2 tb_X9_isNoResult = true := by decide +kernel
set_option maxRecDepth 100000 in
theorem mw_X9_result : q_mw yX9_result cX9_result 2 (Option.some Jvm.ClassFile.FieldType.int) 1 := ⟨q_t8 32 rfl rfl, by decide +kernel, by decide +kernel, q_init_QuillRelayModel⟩
set_option maxRecDepth 100000 in
theorem mi_X9_result : Cond.instanceMethod yX9_result ∈ q_W := q_t8 31 rfl rfl
set_option maxRecDepth 100000 in
theorem me_X9_result : Cond.selects yX9_result.cls yX9_result yX9_result ∈ q_W := q_s 46 rfl rfl
def tb_X9_result : List q_E := [(0, .aload_n 0, 1, 0, 0), (1, .iload_n 1, 1, 0, 0), (2, .bipush 18, 2, 18, 0), (4, .invokevirtual 52, 3, 0, 0), (7, .aload_n 0, 1, 0, 0), (8, .iload_n 1, 1, 0, 0), (9, .iconst 5, 1, 5, 0), (10, .invokevirtual 52, 3, 0, 0), (13, .iadd, 1, 0, 0), (14, .ireturn, 1, 0, 0)]
set_option maxRecDepth 100000 in
theorem tk_X9_result : q_tb cX9_result 2 tb_X9_result = true := by decide +kernel
set_option maxRecDepth 100000 in
theorem mw_X9_timeOf : q_mw yX9_timeOf cX9_timeOf 2 (Option.some Jvm.ClassFile.FieldType.int) 1 := ⟨q_t8 20 rfl rfl, by decide +kernel, by decide +kernel, q_init_QuillRelayModel⟩
set_option maxRecDepth 100000 in
theorem mi_X9_timeOf : Cond.instanceMethod yX9_timeOf ∈ q_W := q_t8 18 rfl rfl
set_option maxRecDepth 100000 in
theorem me_X9_timeOf : Cond.selects yX9_timeOf.cls yX9_timeOf yX9_timeOf ∈ q_W := q_t8 19 rfl rfl
def tb_X9_timeOf : List q_E := [(0, .aload_n 0, 1, 0, 0), (1, .iload_n 1, 1, 0, 0), (2, .invokevirtual 148, 3, 0, 0), (5, .ifCond .eq 7, 3, 0, 12), (8, .iconst 0, 1, 0, 0), (9, .goto 10, 3, 0, 19), (12, .aload_n 0, 1, 0, 0), (13, .iload_n 1, 1, 0, 0), (14, .bipush 18, 2, 18, 0), (16, .invokevirtual 52, 3, 0, 0), (19, .ireturn, 1, 0, 0)]
set_option maxRecDepth 100000 in
theorem tk_X9_timeOf : q_tb cX9_timeOf 2 tb_X9_timeOf = true := by decide +kernel
set_option maxRecDepth 100000 in
theorem mw_X9_resultOf : q_mw yX9_resultOf cX9_resultOf 2 (Option.some Jvm.ClassFile.FieldType.int) 1 := ⟨q_t8 28 rfl rfl, by decide +kernel, by decide +kernel, q_init_QuillRelayModel⟩
set_option maxRecDepth 100000 in
theorem mi_X9_resultOf : Cond.instanceMethod yX9_resultOf ∈ q_W := q_t8 26 rfl rfl
set_option maxRecDepth 100000 in
theorem me_X9_resultOf : Cond.selects yX9_resultOf.cls yX9_resultOf yX9_resultOf ∈ q_W := q_t8 27 rfl rfl
def tb_X9_resultOf : List q_E := [(0, .aload_n 0, 1, 0, 0), (1, .iload_n 1, 1, 0, 0), (2, .invokevirtual 148, 3, 0, 0), (5, .ifCond .eq 7, 3, 0, 12), (8, .iconst 0, 1, 0, 0), (9, .goto 8, 3, 0, 17), (12, .aload_n 0, 1, 0, 0), (13, .iload_n 1, 1, 0, 0), (14, .invokevirtual 151, 3, 0, 0), (17, .ireturn, 1, 0, 0)]
set_option maxRecDepth 100000 in
theorem tk_X9_resultOf : q_tb cX9_resultOf 2 tb_X9_resultOf = true := by decide +kernel
set_option maxRecDepth 100000 in
theorem mw_X9_group : q_mw yX9_group cX9_group 3 (Option.some Jvm.ClassFile.FieldType.int) 1 := ⟨q_t8 48 rfl rfl, by decide +kernel, by decide +kernel, q_init_QuillRelayModel⟩
set_option maxRecDepth 100000 in
theorem mi_X9_group : Cond.instanceMethod yX9_group ∈ q_W := q_t8 47 rfl rfl
set_option maxRecDepth 100000 in
theorem me_X9_group : Cond.selects yX9_group.cls yX9_group yX9_group ∈ q_W := q_s 49 rfl rfl
def tb_X9_group : List q_E := [(0, .aload_n 0, 1, 0, 0), (1, .iload_n 1, 1, 0, 0), (2, .bipush 6, 2, 6, 0), (4, .invokevirtual 52, 3, 0, 0), (7, .istore_n 2, 1, 0, 0), (8, .iload_n 2, 1, 0, 0), (9, .iconst 2, 1, 2, 0), (10, .if_icmp .ne 7, 3, 0, 17), (13, .iconst 0, 1, 0, 0), (14, .goto 13, 3, 0, 27), (17, .iload_n 2, 1, 0, 0), (18, .iconst 3, 1, 3, 0), (19, .if_icmp .ne 7, 3, 0, 26), (22, .iconst 2, 1, 2, 0), (23, .goto 4, 3, 0, 27), (26, .iconst 1, 1, 1, 0), (27, .ireturn, 1, 0, 0)]
set_option maxRecDepth 100000 in
theorem tk_X9_group : q_tb cX9_group 3 tb_X9_group = true := by decide +kernel
set_option maxRecDepth 100000 in
theorem mw_X9_isAhead : q_mw yX9_isAhead cX9_isAhead 4 (Option.some Jvm.ClassFile.FieldType.boolean) 2 := ⟨q_t8 44 rfl rfl, by decide +kernel, by decide +kernel, q_init_QuillRelayModel⟩
set_option maxRecDepth 100000 in
theorem mi_X9_isAhead : Cond.instanceMethod yX9_isAhead ∈ q_W := q_t8 43 rfl rfl
set_option maxRecDepth 100000 in
theorem me_X9_isAhead : Cond.selects yX9_isAhead.cls yX9_isAhead yX9_isAhead ∈ q_W := q_s 48 rfl rfl
def tb_X9_isAhead : List q_E := [(0, .aload_n 0, 1, 0, 0), (1, .iload_n 1, 1, 0, 0), (2, .invokevirtual 154, 3, 0, 0), (5, .aload_n 0, 1, 0, 0), (6, .iload_n 2, 1, 0, 0), (7, .invokevirtual 154, 3, 0, 0), (10, .if_icmp .eq 22, 3, 0, 32), (13, .aload_n 0, 1, 0, 0), (14, .iload_n 1, 1, 0, 0), (15, .invokevirtual 154, 3, 0, 0), (18, .aload_n 0, 1, 0, 0), (19, .iload_n 2, 1, 0, 0), (20, .invokevirtual 154, 3, 0, 0), (23, .if_icmp .ge 7, 3, 0, 30), (26, .iconst 1, 1, 1, 0), (27, .goto 4, 3, 0, 31), (30, .iconst 0, 1, 0, 0), (31, .ireturn, 1, 0, 0), (32, .aload_n 0, 1, 0, 0), (33, .iload_n 1, 1, 0, 0), (34, .invokevirtual 154, 3, 0, 0), (37, .ifCond .ne 17, 3, 0, 54), (40, .aload_n 0, 1, 0, 0), (41, .iload_n 2, 1, 0, 0), (42, .invokevirtual 151, 3, 0, 0), (45, .aload_n 0, 1, 0, 0), (46, .iload_n 1, 1, 0, 0), (47, .invokevirtual 151, 3, 0, 0), (50, .isub, 1, 0, 0), (51, .goto 18, 3, 0, 69), (54, .aload_n 0, 1, 0, 0), (55, .iload_n 1, 1, 0, 0), (56, .bipush 7, 2, 7, 0), (58, .invokevirtual 52, 3, 0, 0), (61, .aload_n 0, 1, 0, 0), (62, .iload_n 2, 1, 0, 0), (63, .bipush 7, 2, 7, 0), (65, .invokevirtual 52, 3, 0, 0), (68, .isub, 1, 0, 0), (69, .istore_n 3, 1, 0, 0), (70, .iload_n 3, 1, 0, 0), (71, .ifCond .eq 15, 3, 0, 86), (74, .iload_n 3, 1, 0, 0), (75, .ifCond .le 7, 3, 0, 82), (78, .iconst 1, 1, 1, 0), (79, .goto 27, 3, 0, 106), (82, .iconst 0, 1, 0, 0), (83, .goto 23, 3, 0, 106), (86, .aload_n 0, 1, 0, 0), (87, .iload_n 1, 1, 0, 0), (88, .iconst 4, 1, 4, 0), (89, .invokevirtual 52, 3, 0, 0), (92, .aload_n 0, 1, 0, 0), (93, .iload_n 2, 1, 0, 0), (94, .iconst 4, 1, 4, 0), (95, .invokevirtual 52, 3, 0, 0), (98, .if_icmp .ge 7, 3, 0, 105), (101, .iconst 1, 1, 1, 0), (102, .goto 4, 3, 0, 106), (105, .iconst 0, 1, 0, 0), (106, .ireturn, 1, 0, 0)]
set_option maxRecDepth 100000 in
theorem tk_X9_isAhead : q_tb cX9_isAhead 4 tb_X9_isAhead = true := by decide +kernel
set_option maxRecDepth 100000 in
theorem mw_X9_rank : q_mw yX9_rank cX9_rank 4 (Option.some Jvm.ClassFile.FieldType.int) 1 := ⟨q_t8 40 rfl rfl, by decide +kernel, by decide +kernel, q_init_QuillRelayModel⟩
set_option maxRecDepth 100000 in
theorem mi_X9_rank : Cond.instanceMethod yX9_rank ∈ q_W := q_t8 39 rfl rfl
set_option maxRecDepth 100000 in
theorem me_X9_rank : Cond.selects yX9_rank.cls yX9_rank yX9_rank ∈ q_W := q_s 47 rfl rfl
def tb_X9_rank : List q_E := [(0, .iconst 0, 1, 0, 0), (1, .istore_n 2, 1, 0, 0), (2, .iconst 0, 1, 0, 0), (3, .istore_n 3, 1, 0, 0), (4, .iload_n 3, 1, 0, 0), (5, .aload_n 0, 1, 0, 0), (6, .getfield 9, 3, 0, 0), (9, .iconst 3, 1, 3, 0), (10, .iaload, 1, 0, 0), (11, .if_icmp .ge 31, 3, 0, 42), (14, .iload_n 2, 1, 0, 0), (15, .iload_n 3, 1, 0, 0), (16, .iload_n 1, 1, 0, 0), (17, .if_icmp .eq 16, 3, 0, 33), (20, .aload_n 0, 1, 0, 0), (21, .iload_n 3, 1, 0, 0), (22, .iload_n 1, 1, 0, 0), (23, .invokevirtual 157, 3, 0, 0), (26, .ifCond .eq 7, 3, 0, 33), (29, .iconst 1, 1, 1, 0), (30, .goto 4, 3, 0, 34), (33, .iconst 0, 1, 0, 0), (34, .iadd, 1, 0, 0), (35, .istore_n 2, 1, 0, 0), (36, .iinc 3 1, 3, 1, 0), (39, .goto (-35), 3, 0, 4), (42, .iload_n 2, 1, 0, 0), (43, .ireturn, 1, 0, 0)]
set_option maxRecDepth 100000 in
theorem tk_X9_rank : q_tb cX9_rank 4 tb_X9_rank = true := by decide +kernel
set_option maxRecDepth 100000 in
theorem mw_X9_teamAtRank : q_mw yX9_teamAtRank cX9_teamAtRank 3 (Option.some Jvm.ClassFile.FieldType.int) 1 := ⟨q_t8 36 rfl rfl, by decide +kernel, by decide +kernel, q_init_QuillRelayModel⟩
set_option maxRecDepth 100000 in
theorem mi_X9_teamAtRank : Cond.instanceMethod yX9_teamAtRank ∈ q_W := q_t8 34 rfl rfl
set_option maxRecDepth 100000 in
theorem me_X9_teamAtRank : Cond.selects yX9_teamAtRank.cls yX9_teamAtRank yX9_teamAtRank ∈ q_W := q_t8 35 rfl rfl
def tb_X9_teamAtRank : List q_E := [(0, .iconst 0, 1, 0, 0), (1, .istore_n 2, 1, 0, 0), (2, .iload_n 2, 1, 0, 0), (3, .aload_n 0, 1, 0, 0), (4, .getfield 9, 3, 0, 0), (7, .iconst 3, 1, 3, 0), (8, .iaload, 1, 0, 0), (9, .if_icmp .ge 25, 3, 0, 34), (12, .aload_n 0, 1, 0, 0), (13, .iload_n 2, 1, 0, 0), (14, .invokevirtual 161, 3, 0, 0), (17, .iload_n 1, 1, 0, 0), (18, .if_icmp .ne 10, 3, 0, 28), (21, .aload_n 0, 1, 0, 0), (22, .iconst 0, 1, 0, 0), (23, .putfield 38, 3, 0, 0), (26, .iload_n 2, 1, 0, 0), (27, .ireturn, 1, 0, 0), (28, .iinc 2 1, 3, 1, 0), (31, .goto (-29), 3, 0, 2), (34, .aload_n 0, 1, 0, 0), (35, .iconst 1, 1, 1, 0), (36, .putfield 38, 3, 0, 0), (39, .iconst 0, 1, 0, 0), (40, .ireturn, 1, 0, 0)]
set_option maxRecDepth 100000 in
theorem tk_X9_teamAtRank : q_tb cX9_teamAtRank 3 tb_X9_teamAtRank = true := by decide +kernel
set_option maxRecDepth 100000 in
theorem mw_X9_rankOf : q_mw yX9_rankOf cX9_rankOf 2 (Option.some Jvm.ClassFile.FieldType.int) 1 := ⟨q_t8 52 rfl rfl, by decide +kernel, by decide +kernel, q_init_QuillRelayModel⟩
set_option maxRecDepth 100000 in
theorem mi_X9_rankOf : Cond.instanceMethod yX9_rankOf ∈ q_W := q_t8 50 rfl rfl
set_option maxRecDepth 100000 in
theorem me_X9_rankOf : Cond.selects yX9_rankOf.cls yX9_rankOf yX9_rankOf ∈ q_W := q_t8 51 rfl rfl
def tb_X9_rankOf : List q_E := [(0, .aload_n 0, 1, 0, 0), (1, .aload_n 0, 1, 0, 0), (2, .iload_n 1, 1, 0, 0), (3, .invokevirtual 75, 3, 0, 0), (6, .ifCond .ne 7, 3, 0, 13), (9, .iconst 1, 1, 1, 0), (10, .goto 4, 3, 0, 14), (13, .iconst 0, 1, 0, 0), (14, .iconst 1, 1, 1, 0), (15, .invokevirtual 63, 3, 0, 0), (18, .ifCond .eq 7, 3, 0, 25), (21, .iconst 0, 1, 0, 0), (22, .goto 8, 3, 0, 30), (25, .aload_n 0, 1, 0, 0), (26, .iload_n 1, 1, 0, 0), (27, .invokevirtual 161, 3, 0, 0), (30, .ireturn, 1, 0, 0)]
set_option maxRecDepth 100000 in
theorem tk_X9_rankOf : q_tb cX9_rankOf 2 tb_X9_rankOf = true := by decide +kernel
set_option maxRecDepth 100000 in
theorem mw_X9_meanTime : q_mw yX9_meanTime cX9_meanTime 4 (Option.some Jvm.ClassFile.FieldType.double) 0 := ⟨q_t8 56 rfl rfl, by decide +kernel, by decide +kernel, q_init_QuillRelayModel⟩
set_option maxRecDepth 100000 in
theorem mi_X9_meanTime : Cond.instanceMethod yX9_meanTime ∈ q_W := q_t8 54 rfl rfl
set_option maxRecDepth 100000 in
theorem me_X9_meanTime : Cond.selects yX9_meanTime.cls yX9_meanTime yX9_meanTime ∈ q_W := q_t8 55 rfl rfl
def tb_X9_meanTime : List q_E := [(0, .aload_n 0, 1, 0, 0), (1, .iconst 2, 1, 2, 0), (2, .invokevirtual 109, 3, 0, 0), (5, .istore_n 1, 1, 0, 0), (6, .iconst 0, 1, 0, 0), (7, .istore_n 2, 1, 0, 0), (8, .iconst 0, 1, 0, 0), (9, .istore_n 3, 1, 0, 0), (10, .iload_n 3, 1, 0, 0), (11, .aload_n 0, 1, 0, 0), (12, .getfield 9, 3, 0, 0), (15, .iconst 3, 1, 3, 0), (16, .iaload, 1, 0, 0), (17, .if_icmp .ge 34, 3, 0, 51), (20, .iload_n 2, 1, 0, 0), (21, .aload_n 0, 1, 0, 0), (22, .iload_n 3, 1, 0, 0), (23, .bipush 6, 2, 6, 0), (25, .invokevirtual 52, 3, 0, 0), (28, .iconst 2, 1, 2, 0), (29, .if_icmp .ne 13, 3, 0, 42), (32, .aload_n 0, 1, 0, 0), (33, .iload_n 3, 1, 0, 0), (34, .bipush 18, 2, 18, 0), (36, .invokevirtual 52, 3, 0, 0), (39, .goto 4, 3, 0, 43), (42, .iconst 0, 1, 0, 0), (43, .iadd, 1, 0, 0), (44, .istore_n 2, 1, 0, 0), (45, .iinc 3 1, 3, 1, 0), (48, .goto (-38), 3, 0, 10), (51, .aload_n 0, 1, 0, 0), (52, .iload_n 1, 1, 0, 0), (53, .ifCond .ne 7, 3, 0, 60), (56, .iconst 1, 1, 1, 0), (57, .goto 4, 3, 0, 61), (60, .iconst 0, 1, 0, 0), (61, .iconst 1, 1, 1, 0), (62, .invokevirtual 63, 3, 0, 0), (65, .ifCond .eq 7, 3, 0, 72), (68, .dconst 0, 1, 0, 0), (69, .goto 8, 3, 0, 77), (72, .iload_n 2, 1, 0, 0), (73, .i2d, 1, 0, 0), (74, .iload_n 1, 1, 0, 0), (75, .i2d, 1, 0, 0), (76, .ddiv, 1, 0, 0), (77, .dreturn, 1, 0, 0)]
set_option maxRecDepth 100000 in
theorem tk_X9_meanTime : q_tb cX9_meanTime 4 tb_X9_meanTime = true := by decide +kernel
set_option maxRecDepth 100000 in
theorem mw_X9_reach : q_mw yX9_reach cX9_reach 6 (Option.some Jvm.ClassFile.FieldType.int) 3 := ⟨q_t8 60 rfl rfl, by decide +kernel, by decide +kernel, q_init_QuillRelayModel⟩
set_option maxRecDepth 100000 in
theorem mi_X9_reach : Cond.instanceMethod yX9_reach ∈ q_W := q_t8 58 rfl rfl
set_option maxRecDepth 100000 in
theorem me_X9_reach : Cond.selects yX9_reach.cls yX9_reach yX9_reach ∈ q_W := q_t8 59 rfl rfl
def tb_X9_reach : List q_E := [(0, .aload_n 0, 1, 0, 0), (1, .aload_n 0, 1, 0, 0), (2, .iload_n 1, 1, 0, 0), (3, .invokevirtual 75, 3, 0, 0), (6, .ifCond .eq 10, 3, 0, 16), (9, .iload_n 2, 1, 0, 0), (10, .invokestatic 79, 3, 0, 0), (13, .ifCond .ne 7, 3, 0, 20), (16, .iconst 1, 1, 1, 0), (17, .goto 4, 3, 0, 21), (20, .iconst 0, 1, 0, 0), (21, .iconst 1, 1, 1, 0), (22, .invokevirtual 63, 3, 0, 0), (25, .ifCond .ne 27, 3, 0, 52), (28, .aload_n 0, 1, 0, 0), (29, .iload_n 3, 1, 0, 0), (30, .iconst 0, 1, 0, 0), (31, .sipush 999, 3, 999, 0), (34, .invokestatic 48, 3, 0, 0), (37, .ifCond .ne 7, 3, 0, 44), (40, .iconst 1, 1, 1, 0), (41, .goto 4, 3, 0, 45), (44, .iconst 0, 1, 0, 0), (45, .iconst 2, 1, 2, 0), (46, .invokevirtual 63, 3, 0, 0), (49, .ifCond .eq 5, 3, 0, 54), (52, .iconst 0, 1, 0, 0), (53, .ireturn, 1, 0, 0), (54, .iconst 0, 1, 0, 0), (55, .istore 4, 2, 0, 0), (57, .iconst 0, 1, 0, 0), (58, .istore 5, 2, 0, 0), (60, .iload 5, 2, 0, 0), (62, .iload_n 3, 1, 0, 0), (63, .if_icmp .ge 27, 3, 0, 90), (66, .iload 4, 2, 0, 0), (68, .aload_n 0, 1, 0, 0), (69, .iload_n 1, 1, 0, 0), (70, .iconst 0, 1, 0, 0), (71, .iload_n 2, 1, 0, 0), (72, .iadd, 1, 0, 0), (73, .invokevirtual 52, 3, 0, 0), (76, .iload 5, 2, 0, 0), (78, .invokestatic 99, 3, 0, 0), (81, .iadd, 1, 0, 0), (82, .istore 4, 2, 0, 0), (84, .iinc 5 1, 3, 1, 0), (87, .goto (-27), 3, 0, 60), (90, .iload 4, 2, 0, 0), (92, .ireturn, 1, 0, 0)]
set_option maxRecDepth 100000 in
theorem tk_X9_reach : q_tb cX9_reach 6 tb_X9_reach = true := by decide +kernel
set_option maxRecDepth 100000 in
theorem mw_X9_reachByStretches : q_mw yX9_reachByStretches cX9_reachByStretches 4 (Option.some Jvm.ClassFile.FieldType.int) 3 := ⟨q_t8 64 rfl rfl, by decide +kernel, by decide +kernel, q_init_QuillRelayModel⟩
set_option maxRecDepth 100000 in
theorem mi_X9_reachByStretches : Cond.instanceMethod yX9_reachByStretches ∈ q_W := q_t8 62 rfl rfl
set_option maxRecDepth 100000 in
theorem me_X9_reachByStretches : Cond.selects yX9_reachByStretches.cls yX9_reachByStretches yX9_reachByStretches ∈ q_W := q_t8 63 rfl rfl
def tb_X9_reachByStretches : List q_E := [(0, .aload_n 0, 1, 0, 0), (1, .iload_n 1, 1, 0, 0), (2, .iload_n 2, 1, 0, 0), (3, .iload_n 3, 1, 0, 0), (4, .invokevirtual 164, 3, 0, 0), (7, .ireturn, 1, 0, 0)]
set_option maxRecDepth 100000 in
theorem tk_X9_reachByStretches : q_tb cX9_reachByStretches 4 tb_X9_reachByStretches = true := by decide +kernel
set_option maxRecDepth 100000 in
theorem mw_X9_secondsToZone : q_mw yX9_secondsToZone cX9_secondsToZone 6 (Option.some Jvm.ClassFile.FieldType.int) 1 := ⟨q_t8 69 rfl rfl, by decide +kernel, by decide +kernel, q_init_QuillRelayModel⟩
set_option maxRecDepth 100000 in
theorem mi_X9_secondsToZone : Cond.instanceMethod yX9_secondsToZone ∈ q_W := q_t8 67 rfl rfl
set_option maxRecDepth 100000 in
theorem me_X9_secondsToZone : Cond.selects yX9_secondsToZone.cls yX9_secondsToZone yX9_secondsToZone ∈ q_W := q_t8 68 rfl rfl
def tb_X9_secondsToZone : List q_E := [(0, .aload_n 0, 1, 0, 0), (1, .aload_n 0, 1, 0, 0), (2, .iload_n 1, 1, 0, 0), (3, .invokevirtual 75, 3, 0, 0), (6, .ifCond .ne 7, 3, 0, 13), (9, .iconst 1, 1, 1, 0), (10, .goto 4, 3, 0, 14), (13, .iconst 0, 1, 0, 0), (14, .iconst 1, 1, 1, 0), (15, .invokevirtual 63, 3, 0, 0), (18, .ifCond .ne 51, 3, 0, 69), (21, .aload_n 0, 1, 0, 0), (22, .aload_n 0, 1, 0, 0), (23, .iload_n 1, 1, 0, 0), (24, .bipush 6, 2, 6, 0), (26, .invokevirtual 52, 3, 0, 0), (29, .iconst 1, 1, 1, 0), (30, .if_icmp .eq 7, 3, 0, 37), (33, .iconst 1, 1, 1, 0), (34, .goto 4, 3, 0, 38), (37, .iconst 0, 1, 0, 0), (38, .iconst 2, 1, 2, 0), (39, .invokevirtual 63, 3, 0, 0), (42, .ifCond .ne 27, 3, 0, 69), (45, .aload_n 0, 1, 0, 0), (46, .aload_n 0, 1, 0, 0), (47, .iload_n 1, 1, 0, 0), (48, .bipush 8, 2, 8, 0), (50, .invokevirtual 52, 3, 0, 0), (53, .iconst 3, 1, 3, 0), (54, .if_icmp .ne 7, 3, 0, 61), (57, .iconst 1, 1, 1, 0), (58, .goto 4, 3, 0, 62), (61, .iconst 0, 1, 0, 0), (62, .iconst 3, 1, 3, 0), (63, .invokevirtual 63, 3, 0, 0), (66, .ifCond .eq 5, 3, 0, 71), (69, .iconst 0, 1, 0, 0), (70, .ireturn, 1, 0, 0), (71, .aload_n 0, 1, 0, 0), (72, .iload_n 1, 1, 0, 0), (73, .bipush 8, 2, 8, 0), (75, .invokevirtual 52, 3, 0, 0), (78, .istore_n 2, 1, 0, 0), (79, .aload_n 0, 1, 0, 0), (80, .iload_n 1, 1, 0, 0), (81, .bipush 7, 2, 7, 0), (83, .invokevirtual 52, 3, 0, 0), (86, .istore_n 3, 1, 0, 0), (87, .aload_n 0, 1, 0, 0), (88, .iload_n 1, 1, 0, 0), (89, .bipush 9, 2, 9, 0), (91, .invokevirtual 52, 3, 0, 0), (94, .istore 4, 2, 0, 0), (96, .iconst 0, 1, 0, 0), (97, .istore 5, 2, 0, 0), (99, .iload_n 3, 1, 0, 0), (100, .aload_n 0, 1, 0, 0), (101, .iload_n 2, 1, 0, 0), (102, .invokevirtual 96, 3, 0, 0), (105, .bipush 100, 2, 100, 0), (107, .isub, 1, 0, 0), (108, .if_icmp .ge 28, 3, 0, 136), (111, .iload_n 3, 1, 0, 0), (112, .aload_n 0, 1, 0, 0), (113, .iload_n 1, 1, 0, 0), (114, .iconst 0, 1, 0, 0), (115, .iload_n 2, 1, 0, 0), (116, .iadd, 1, 0, 0), (117, .invokevirtual 52, 3, 0, 0), (120, .iload 4, 2, 0, 0), (122, .invokestatic 99, 3, 0, 0), (125, .iadd, 1, 0, 0), (126, .istore_n 3, 1, 0, 0), (127, .iinc 4 1, 3, 1, 0), (130, .iinc 5 1, 3, 1, 0), (133, .goto (-34), 3, 0, 99), (136, .iload 5, 2, 0, 0), (138, .ifCond .ne 7, 3, 0, 145), (141, .iconst 0, 1, 0, 0), (142, .goto 13, 3, 0, 155), (145, .iload 5, 2, 0, 0), (147, .aload_n 0, 1, 0, 0), (148, .iload_n 1, 1, 0, 0), (149, .bipush 10, 2, 10, 0), (151, .invokevirtual 52, 3, 0, 0), (154, .iadd, 1, 0, 0), (155, .ireturn, 1, 0, 0)]
set_option maxRecDepth 100000 in
theorem tk_X9_secondsToZone : q_tb cX9_secondsToZone 6 tb_X9_secondsToZone = true := by decide +kernel
set_option maxRecDepth 100000 in
theorem mw_X9_refusalReason : q_mw yX9_refusalReason cX9_refusalReason 1 (Option.some Jvm.ClassFile.FieldType.int) 0 := ⟨q_t8 73 rfl rfl, by decide +kernel, by decide +kernel, q_init_QuillRelayModel⟩
set_option maxRecDepth 100000 in
theorem mi_X9_refusalReason : Cond.instanceMethod yX9_refusalReason ∈ q_W := q_t8 71 rfl rfl
set_option maxRecDepth 100000 in
theorem me_X9_refusalReason : Cond.selects yX9_refusalReason.cls yX9_refusalReason yX9_refusalReason ∈ q_W := q_t8 72 rfl rfl
def tb_X9_refusalReason : List q_E := [(0, .aload_n 0, 1, 0, 0), (1, .aload_n 0, 1, 0, 0), (2, .getfield 121, 3, 0, 0), (5, .ifCond .ne 7, 3, 0, 12), (8, .iconst 1, 1, 1, 0), (9, .goto 4, 3, 0, 13), (12, .iconst 0, 1, 0, 0), (13, .iconst 1, 1, 1, 0), (14, .invokevirtual 63, 3, 0, 0), (17, .ifCond .eq 7, 3, 0, 24), (20, .iconst 0, 1, 0, 0), (21, .goto 7, 3, 0, 28), (24, .aload_n 0, 1, 0, 0), (25, .getfield 121, 3, 0, 0), (28, .ireturn, 1, 0, 0)]
set_option maxRecDepth 100000 in
theorem tk_X9_refusalReason : q_tb cX9_refusalReason 1 tb_X9_refusalReason = true := by decide +kernel
set_option maxRecDepth 100000 in
theorem mw_X9_refusedTeam : q_mw yX9_refusedTeam cX9_refusedTeam 1 (Option.some Jvm.ClassFile.FieldType.int) 0 := ⟨q_t8 77 rfl rfl, by decide +kernel, by decide +kernel, q_init_QuillRelayModel⟩
set_option maxRecDepth 100000 in
theorem mi_X9_refusedTeam : Cond.instanceMethod yX9_refusedTeam ∈ q_W := q_t8 75 rfl rfl
set_option maxRecDepth 100000 in
theorem me_X9_refusedTeam : Cond.selects yX9_refusedTeam.cls yX9_refusedTeam yX9_refusedTeam ∈ q_W := q_t8 76 rfl rfl
def tb_X9_refusedTeam : List q_E := [(0, .aload_n 0, 1, 0, 0), (1, .aload_n 0, 1, 0, 0), (2, .getfield 121, 3, 0, 0), (5, .ifCond .ne 7, 3, 0, 12), (8, .iconst 1, 1, 1, 0), (9, .goto 4, 3, 0, 13), (12, .iconst 0, 1, 0, 0), (13, .iconst 1, 1, 1, 0), (14, .invokevirtual 63, 3, 0, 0), (17, .ifCond .eq 7, 3, 0, 24), (20, .iconst 0, 1, 0, 0), (21, .goto 7, 3, 0, 28), (24, .aload_n 0, 1, 0, 0), (25, .getfield 124, 3, 0, 0), (28, .ireturn, 1, 0, 0)]
set_option maxRecDepth 100000 in
theorem tk_X9_refusedTeam : q_tb cX9_refusedTeam 1 tb_X9_refusedTeam = true := by decide +kernel
set_option maxRecDepth 100000 in
theorem mw_X9_puts : q_mw yX9_puts cX9_puts 2 (Option.none : Option Jvm.ClassFile.FieldType) 1 := ⟨q_t8 85 rfl rfl, by decide +kernel, by decide +kernel, q_init_QuillRelayModel⟩
set_option maxRecDepth 100000 in
theorem mi_X9_puts : Cond.instanceMethod yX9_puts ∈ q_W := q_t8 84 rfl rfl
set_option maxRecDepth 100000 in
theorem me_X9_puts : Cond.selects yX9_puts.cls yX9_puts yX9_puts ∈ q_W := q_s 50 rfl rfl
def tb_X9_puts : List q_E := [(0, .aload_n 0, 1, 0, 0), (1, .getfield 29, 3, 0, 0), (4, .aload_n 0, 1, 0, 0), (5, .getfield 167, 3, 0, 0), (8, .iload_n 1, 1, 0, 0), (9, .iastore, 1, 0, 0), (10, .aload_n 0, 1, 0, 0), (11, .dup, 1, 0, 0), (12, .getfield 167, 3, 0, 0), (15, .iconst 1, 1, 1, 0), (16, .iadd, 1, 0, 0), (17, .putfield 167, 3, 0, 0), (20, .return_, 1, 0, 0)]
set_option maxRecDepth 100000 in
theorem tk_X9_puts : q_tb cX9_puts 2 tb_X9_puts = true := by decide +kernel
set_option maxRecDepth 100000 in
theorem mw_X9_number : q_mw yX9_number cX9_number 2 (Option.none : Option Jvm.ClassFile.FieldType) 1 := ⟨q_t8 89 rfl rfl, by decide +kernel, by decide +kernel, q_init_QuillRelayModel⟩
set_option maxRecDepth 100000 in
theorem mi_X9_number : Cond.instanceMethod yX9_number ∈ q_W := q_t8 88 rfl rfl
set_option maxRecDepth 100000 in
theorem me_X9_number : Cond.selects yX9_number.cls yX9_number yX9_number ∈ q_W := q_s 51 rfl rfl
def tb_X9_number : List q_E := [(0, .iload_n 1, 1, 0, 0), (1, .bipush 10, 2, 10, 0), (3, .if_icmp .lt 11, 3, 0, 14), (6, .aload_n 0, 1, 0, 0), (7, .iload_n 1, 1, 0, 0), (8, .bipush 10, 2, 10, 0), (10, .idiv, 1, 0, 0), (11, .invokevirtual 170, 3, 0, 0), (14, .aload_n 0, 1, 0, 0), (15, .bipush 48, 2, 48, 0), (17, .iload_n 1, 1, 0, 0), (18, .bipush 10, 2, 10, 0), (20, .irem, 1, 0, 0), (21, .iadd, 1, 0, 0), (22, .invokevirtual 173, 3, 0, 0), (25, .return_, 1, 0, 0)]
set_option maxRecDepth 100000 in
theorem tk_X9_number : q_tb cX9_number 2 tb_X9_number = true := by decide +kernel
set_option maxRecDepth 100000 in
theorem mw_X9_writeBanner : q_mw yX9_writeBanner cX9_writeBanner 3 (Option.some Jvm.ClassFile.FieldType.int) 1 := ⟨q_t8 81 rfl rfl, by decide +kernel, by decide +kernel, q_init_QuillRelayModel⟩
set_option maxRecDepth 100000 in
theorem mi_X9_writeBanner : Cond.instanceMethod yX9_writeBanner ∈ q_W := q_t8 79 rfl rfl
set_option maxRecDepth 100000 in
theorem me_X9_writeBanner : Cond.selects yX9_writeBanner.cls yX9_writeBanner yX9_writeBanner ∈ q_W := q_t8 80 rfl rfl
def tb_X9_writeBanner : List q_E := [(0, .aload_n 0, 1, 0, 0), (1, .aload_n 0, 1, 0, 0), (2, .iload_n 1, 1, 0, 0), (3, .invokevirtual 75, 3, 0, 0), (6, .ifCond .ne 7, 3, 0, 13), (9, .iconst 1, 1, 1, 0), (10, .goto 4, 3, 0, 14), (13, .iconst 0, 1, 0, 0), (14, .iconst 1, 1, 1, 0), (15, .invokevirtual 63, 3, 0, 0), (18, .ifCond .eq 5, 3, 0, 23), (21, .iconst 0, 1, 0, 0), (22, .ireturn, 1, 0, 0), (23, .aload_n 0, 1, 0, 0), (24, .iload_n 1, 1, 0, 0), (25, .bipush 6, 2, 6, 0), (27, .invokevirtual 52, 3, 0, 0), (30, .istore_n 2, 1, 0, 0), (31, .aload_n 0, 1, 0, 0), (32, .iconst 0, 1, 0, 0), (33, .putfield 167, 3, 0, 0), (36, .aload_n 0, 1, 0, 0), (37, .bipush 76, 2, 76, 0), (39, .invokevirtual 173, 3, 0, 0), (42, .aload_n 0, 1, 0, 0), (43, .aload_n 0, 1, 0, 0), (44, .iload_n 1, 1, 0, 0), (45, .iconst 4, 1, 4, 0), (46, .invokevirtual 52, 3, 0, 0), (49, .invokevirtual 170, 3, 0, 0), (52, .aload_n 0, 1, 0, 0), (53, .bipush 32, 2, 32, 0), (55, .invokevirtual 173, 3, 0, 0), (58, .aload_n 0, 1, 0, 0), (59, .ldc 176, 2, 0, 0), (61, .iload_n 2, 1, 0, 0), (62, .invokevirtual 178, 3, 0, 0), (65, .invokevirtual 173, 3, 0, 0), (68, .iload_n 2, 1, 0, 0), (69, .iconst 1, 1, 1, 0), (70, .if_icmp .ne 17, 3, 0, 87), (73, .aload_n 0, 1, 0, 0), (74, .aload_n 0, 1, 0, 0), (75, .iload_n 1, 1, 0, 0), (76, .bipush 8, 2, 8, 0), (78, .invokevirtual 52, 3, 0, 0), (81, .invokevirtual 170, 3, 0, 0), (84, .goto 17, 3, 0, 101), (87, .iload_n 2, 1, 0, 0), (88, .iconst 2, 1, 2, 0), (89, .if_icmp .ne 12, 3, 0, 101), (92, .aload_n 0, 1, 0, 0), (93, .aload_n 0, 1, 0, 0), (94, .iload_n 1, 1, 0, 0), (95, .invokevirtual 151, 3, 0, 0), (98, .invokevirtual 170, 3, 0, 0), (101, .aload_n 0, 1, 0, 0), (102, .bipush 32, 2, 32, 0), (104, .invokevirtual 173, 3, 0, 0), (107, .aload_n 0, 1, 0, 0), (108, .aload_n 0, 1, 0, 0), (109, .iload_n 1, 1, 0, 0), (110, .bipush 7, 2, 7, 0), (112, .invokevirtual 52, 3, 0, 0), (115, .invokevirtual 170, 3, 0, 0), (118, .aload_n 0, 1, 0, 0), (119, .iload_n 1, 1, 0, 0), (120, .iconst 5, 1, 5, 0), (121, .invokevirtual 52, 3, 0, 0), (124, .ifCond .le 19, 3, 0, 143), (127, .aload_n 0, 1, 0, 0), (128, .bipush 43, 2, 43, 0), (130, .invokevirtual 173, 3, 0, 0), (133, .aload_n 0, 1, 0, 0), (134, .aload_n 0, 1, 0, 0), (135, .iload_n 1, 1, 0, 0), (136, .iconst 5, 1, 5, 0), (137, .invokevirtual 52, 3, 0, 0), (140, .invokevirtual 170, 3, 0, 0), (143, .aload_n 0, 1, 0, 0), (144, .getfield 167, 3, 0, 0), (147, .ireturn, 1, 0, 0)]
set_option maxRecDepth 100000 in
theorem tk_X9_writeBanner : q_tb cX9_writeBanner 3 tb_X9_writeBanner = true := by decide +kernel
set_option maxRecDepth 100000 in
theorem mw_X9_bannerAt : q_mw yX9_bannerAt cX9_bannerAt 2 (Option.some Jvm.ClassFile.FieldType.char) 1 := ⟨q_t8 95 rfl rfl, by decide +kernel, by decide +kernel, q_init_QuillRelayModel⟩
set_option maxRecDepth 100000 in
theorem mi_X9_bannerAt : Cond.instanceMethod yX9_bannerAt ∈ q_W := q_t8 93 rfl rfl
set_option maxRecDepth 100000 in
theorem me_X9_bannerAt : Cond.selects yX9_bannerAt.cls yX9_bannerAt yX9_bannerAt ∈ q_W := q_t8 94 rfl rfl
def tb_X9_bannerAt : List q_E := [(0, .aload_n 0, 1, 0, 0), (1, .iload_n 1, 1, 0, 0), (2, .iconst 0, 1, 0, 0), (3, .aload_n 0, 1, 0, 0), (4, .getfield 167, 3, 0, 0), (7, .iconst 1, 1, 1, 0), (8, .isub, 1, 0, 0), (9, .invokestatic 48, 3, 0, 0), (12, .ifCond .ne 7, 3, 0, 19), (15, .iconst 1, 1, 1, 0), (16, .goto 4, 3, 0, 20), (19, .iconst 0, 1, 0, 0), (20, .iconst 1, 1, 1, 0), (21, .invokevirtual 63, 3, 0, 0), (24, .ifCond .eq 7, 3, 0, 31), (27, .iconst 0, 1, 0, 0), (28, .goto 10, 3, 0, 38), (31, .aload_n 0, 1, 0, 0), (32, .getfield 29, 3, 0, 0), (35, .iload_n 1, 1, 0, 0), (36, .iaload, 1, 0, 0), (37, .i2c, 1, 0, 0), (38, .ireturn, 1, 0, 0)]
set_option maxRecDepth 100000 in
theorem tk_X9_bannerAt : q_tb cX9_bannerAt 2 tb_X9_bannerAt = true := by decide +kernel
set_option maxRecDepth 100000 in
theorem mw_X9_type : q_mw yX9_type cX9_type 2 (Option.some Jvm.ClassFile.FieldType.int) 1 := ⟨q_t8 99 rfl rfl, by decide +kernel, by decide +kernel, q_init_QuillRelayModel⟩
set_option maxRecDepth 100000 in
theorem mi_X9_type : Cond.instanceMethod yX9_type ∈ q_W := q_t8 97 rfl rfl
set_option maxRecDepth 100000 in
theorem me_X9_type : Cond.selects yX9_type.cls yX9_type yX9_type ∈ q_W := q_t8 98 rfl rfl
def tb_X9_type : List q_E := [(0, .aload_n 0, 1, 0, 0), (1, .iload_n 1, 1, 0, 0), (2, .bipush 32, 2, 32, 0), (4, .bipush 126, 2, 126, 0), (6, .invokestatic 48, 3, 0, 0), (9, .ifCond .ne 7, 3, 0, 16), (12, .iconst 1, 1, 1, 0), (13, .goto 4, 3, 0, 17), (16, .iconst 0, 1, 0, 0), (17, .iconst 1, 1, 1, 0), (18, .invokevirtual 63, 3, 0, 0), (21, .ifCond .ne 25, 3, 0, 46), (24, .aload_n 0, 1, 0, 0), (25, .aload_n 0, 1, 0, 0), (26, .getfield 184, 3, 0, 0), (29, .bipush 60, 2, 60, 0), (31, .if_icmp .ne 7, 3, 0, 38), (34, .iconst 1, 1, 1, 0), (35, .goto 4, 3, 0, 39), (38, .iconst 0, 1, 0, 0), (39, .iconst 2, 1, 2, 0), (40, .invokevirtual 63, 3, 0, 0), (43, .ifCond .eq 5, 3, 0, 48), (46, .iconst 0, 1, 0, 0), (47, .ireturn, 1, 0, 0), (48, .aload_n 0, 1, 0, 0), (49, .getfield 32, 3, 0, 0), (52, .aload_n 0, 1, 0, 0), (53, .getfield 184, 3, 0, 0), (56, .iload_n 1, 1, 0, 0), (57, .iastore, 1, 0, 0), (58, .aload_n 0, 1, 0, 0), (59, .dup, 1, 0, 0), (60, .getfield 184, 3, 0, 0), (63, .iconst 1, 1, 1, 0), (64, .iadd, 1, 0, 0), (65, .putfield 184, 3, 0, 0), (68, .aload_n 0, 1, 0, 0), (69, .getfield 184, 3, 0, 0), (72, .ireturn, 1, 0, 0)]
set_option maxRecDepth 100000 in
theorem tk_X9_type : q_tb cX9_type 2 tb_X9_type = true := by decide +kernel
set_option maxRecDepth 100000 in
theorem mw_X9_sign : q_mw yX9_sign cX9_sign 1 (Option.some Jvm.ClassFile.FieldType.int) 0 := ⟨q_t8 115 rfl rfl, by decide +kernel, by decide +kernel, q_init_QuillRelayModel⟩
set_option maxRecDepth 100000 in
theorem mi_X9_sign : Cond.instanceMethod yX9_sign ∈ q_W := q_t8 114 rfl rfl
set_option maxRecDepth 100000 in
theorem me_X9_sign : Cond.selects yX9_sign.cls yX9_sign yX9_sign ∈ q_W := q_s 54 rfl rfl
def tb_X9_sign : List q_E := [(0, .aload_n 0, 1, 0, 0), (1, .getfield 187, 3, 0, 0), (4, .aload_n 0, 1, 0, 0), (5, .getfield 184, 3, 0, 0), (8, .if_icmp .ge 15, 3, 0, 23), (11, .aload_n 0, 1, 0, 0), (12, .getfield 32, 3, 0, 0), (15, .aload_n 0, 1, 0, 0), (16, .getfield 187, 3, 0, 0), (19, .iaload, 1, 0, 0), (20, .goto 4, 3, 0, 24), (23, .iconst (-1), 1, (-1), 0), (24, .ireturn, 1, 0, 0)]
set_option maxRecDepth 100000 in
theorem tk_X9_sign : q_tb cX9_sign 1 tb_X9_sign = true := by decide +kernel
set_option maxRecDepth 100000 in
theorem mw_X9_isSign : q_mw yX9_isSign cX9_isSign 3 (Option.some Jvm.ClassFile.FieldType.boolean) 1 := ⟨q_t8 130 rfl rfl, by decide +kernel, by decide +kernel, q_init_QuillRelayModel⟩
set_option maxRecDepth 100000 in
theorem mi_X9_isSign : Cond.instanceMethod yX9_isSign ∈ q_W := q_t8 129 rfl rfl
set_option maxRecDepth 100000 in
theorem me_X9_isSign : Cond.selects yX9_isSign.cls yX9_isSign yX9_isSign ∈ q_W := q_s 57 rfl rfl
def tb_X9_isSign : List q_E := [(0, .aload_n 0, 1, 0, 0), (1, .invokevirtual 190, 3, 0, 0), (4, .iload_n 1, 1, 0, 0), (5, .if_icmp .ne 7, 3, 0, 12), (8, .iconst 1, 1, 1, 0), (9, .goto 4, 3, 0, 13), (12, .iconst 0, 1, 0, 0), (13, .istore_n 2, 1, 0, 0), (14, .aload_n 0, 1, 0, 0), (15, .dup, 1, 0, 0), (16, .getfield 187, 3, 0, 0), (19, .iload_n 2, 1, 0, 0), (20, .ifCond .eq 7, 3, 0, 27), (23, .iconst 1, 1, 1, 0), (24, .goto 4, 3, 0, 28), (27, .iconst 0, 1, 0, 0), (28, .iadd, 1, 0, 0), (29, .putfield 187, 3, 0, 0), (32, .iload_n 2, 1, 0, 0), (33, .ireturn, 1, 0, 0)]
set_option maxRecDepth 100000 in
theorem tk_X9_isSign : q_tb cX9_isSign 3 tb_X9_isSign = true := by decide +kernel
set_option maxRecDepth 100000 in
theorem mw_X9_isNumber : q_mw yX9_isNumber cX9_isNumber 5 (Option.some Jvm.ClassFile.FieldType.boolean) 2 := ⟨q_t8 145 rfl rfl, by decide +kernel, by decide +kernel, q_init_QuillRelayModel⟩
set_option maxRecDepth 100000 in
theorem mi_X9_isNumber : Cond.instanceMethod yX9_isNumber ∈ q_W := q_t8 144 rfl rfl
set_option maxRecDepth 100000 in
theorem me_X9_isNumber : Cond.selects yX9_isNumber.cls yX9_isNumber yX9_isNumber ∈ q_W := q_s 60 rfl rfl
def tb_X9_isNumber : List q_E := [(0, .iconst 0, 1, 0, 0), (1, .istore_n 3, 1, 0, 0), (2, .iconst 0, 1, 0, 0), (3, .istore 4, 2, 0, 0), (5, .iload 4, 2, 0, 0), (7, .iload_n 1, 1, 0, 0), (8, .if_icmp .ge 46, 3, 0, 54), (11, .aload_n 0, 1, 0, 0), (12, .invokevirtual 190, 3, 0, 0), (15, .bipush 48, 2, 48, 0), (17, .bipush 57, 2, 57, 0), (19, .invokestatic 48, 3, 0, 0), (22, .ifCond .eq 32, 3, 0, 54), (25, .bipush 10, 2, 10, 0), (27, .iload_n 3, 1, 0, 0), (28, .imul, 1, 0, 0), (29, .aload_n 0, 1, 0, 0), (30, .invokevirtual 190, 3, 0, 0), (33, .iadd, 1, 0, 0), (34, .bipush 48, 2, 48, 0), (36, .isub, 1, 0, 0), (37, .istore_n 3, 1, 0, 0), (38, .aload_n 0, 1, 0, 0), (39, .dup, 1, 0, 0), (40, .getfield 187, 3, 0, 0), (43, .iconst 1, 1, 1, 0), (44, .iadd, 1, 0, 0), (45, .putfield 187, 3, 0, 0), (48, .iinc 4 1, 3, 1, 0), (51, .goto (-46), 3, 0, 5), (54, .aload_n 0, 1, 0, 0), (55, .getfield 35, 3, 0, 0), (58, .iload_n 2, 1, 0, 0), (59, .iload_n 3, 1, 0, 0), (60, .iastore, 1, 0, 0), (61, .iload 4, 2, 0, 0), (63, .ifCond .le 7, 3, 0, 70), (66, .iconst 1, 1, 1, 0), (67, .goto 4, 3, 0, 71), (70, .iconst 0, 1, 0, 0), (71, .ireturn, 1, 0, 0)]
set_option maxRecDepth 100000 in
theorem tk_X9_isNumber : q_tb cX9_isNumber 5 tb_X9_isNumber = true := by decide +kernel
set_option maxRecDepth 100000 in
theorem mw_X9_isSpaced : q_mw yX9_isSpaced cX9_isSpaced 3 (Option.some Jvm.ClassFile.FieldType.boolean) 2 := ⟨q_t8 141 rfl rfl, by decide +kernel, by decide +kernel, q_init_QuillRelayModel⟩
set_option maxRecDepth 100000 in
theorem mi_X9_isSpaced : Cond.instanceMethod yX9_isSpaced ∈ q_W := q_t8 140 rfl rfl
set_option maxRecDepth 100000 in
theorem me_X9_isSpaced : Cond.selects yX9_isSpaced.cls yX9_isSpaced yX9_isSpaced ∈ q_W := q_s 59 rfl rfl
def tb_X9_isSpaced : List q_E := [(0, .aload_n 0, 1, 0, 0), (1, .bipush 32, 2, 32, 0), (3, .invokevirtual 193, 3, 0, 0), (6, .ifCond .eq 16, 3, 0, 22), (9, .aload_n 0, 1, 0, 0), (10, .iload_n 1, 1, 0, 0), (11, .iload_n 2, 1, 0, 0), (12, .invokevirtual 196, 3, 0, 0), (15, .ifCond .eq 7, 3, 0, 22), (18, .iconst 1, 1, 1, 0), (19, .goto 4, 3, 0, 23), (22, .iconst 0, 1, 0, 0), (23, .ireturn, 1, 0, 0)]
set_option maxRecDepth 100000 in
theorem tk_X9_isSpaced : q_tb cX9_isSpaced 3 tb_X9_isSpaced = true := by decide +kernel
set_option maxRecDepth 100000 in
theorem mw_X9_isWord : q_mw yX9_isWord cX9_isWord 3 (Option.some Jvm.ClassFile.FieldType.boolean) 1 := ⟨q_t8 135 rfl rfl, by decide +kernel, by decide +kernel, q_init_QuillRelayModel⟩
set_option maxRecDepth 100000 in
theorem mi_X9_isWord : Cond.instanceMethod yX9_isWord ∈ q_W := q_t8 134 rfl rfl
set_option maxRecDepth 100000 in
theorem me_X9_isWord : Cond.selects yX9_isWord.cls yX9_isWord yX9_isWord ∈ q_W := q_s 58 rfl rfl
def tb_X9_isWord : List q_E := [(0, .iconst 0, 1, 0, 0), (1, .istore_n 2, 1, 0, 0), (2, .iload_n 2, 1, 0, 0), (3, .aload_n 1, 1, 0, 0), (4, .invokevirtual 199, 3, 0, 0), (7, .if_icmp .ge 23, 3, 0, 30), (10, .aload_n 0, 1, 0, 0), (11, .aload_n 1, 1, 0, 0), (12, .iload_n 2, 1, 0, 0), (13, .invokevirtual 178, 3, 0, 0), (16, .invokevirtual 193, 3, 0, 0), (19, .ifCond .ne 5, 3, 0, 24), (22, .iconst 0, 1, 0, 0), (23, .ireturn, 1, 0, 0), (24, .iinc 2 1, 3, 1, 0), (27, .goto (-25), 3, 0, 2), (30, .iconst 1, 1, 1, 0), (31, .ireturn, 1, 0, 0)]
set_option maxRecDepth 100000 in
theorem tk_X9_isWord : q_tb cX9_isWord 3 tb_X9_isWord = true := by decide +kernel
set_option maxRecDepth 100000 in
theorem mw_X9_isKind : q_mw yX9_isKind cX9_isKind 2 (Option.some Jvm.ClassFile.FieldType.boolean) 1 := ⟨q_t8 155 rfl rfl, by decide +kernel, by decide +kernel, q_init_QuillRelayModel⟩
set_option maxRecDepth 100000 in
theorem mi_X9_isKind : Cond.instanceMethod yX9_isKind ∈ q_W := q_t8 154 rfl rfl
set_option maxRecDepth 100000 in
theorem me_X9_isKind : Cond.selects yX9_isKind.cls yX9_isKind yX9_isKind ∈ q_W := q_s 62 rfl rfl
def tb_X9_isKind : List q_E := [(0, .aload_n 0, 1, 0, 0), (1, .getfield 35, 3, 0, 0), (4, .iload_n 1, 1, 0, 0), (5, .aload_n 0, 1, 0, 0), (6, .invokevirtual 190, 3, 0, 0), (9, .bipush 100, 2, 100, 0), (11, .if_icmp .ne 7, 3, 0, 18), (14, .iconst 1, 1, 1, 0), (15, .goto 4, 3, 0, 19), (18, .iconst 0, 1, 0, 0), (19, .iastore, 1, 0, 0), (20, .aload_n 0, 1, 0, 0), (21, .bipush 108, 2, 108, 0), (23, .invokevirtual 193, 3, 0, 0), (26, .ifCond .ne 12, 3, 0, 38), (29, .aload_n 0, 1, 0, 0), (30, .bipush 100, 2, 100, 0), (32, .invokevirtual 193, 3, 0, 0), (35, .ifCond .eq 7, 3, 0, 42), (38, .iconst 1, 1, 1, 0), (39, .goto 4, 3, 0, 43), (42, .iconst 0, 1, 0, 0), (43, .ireturn, 1, 0, 0)]
set_option maxRecDepth 100000 in
theorem tk_X9_isKind : q_tb cX9_isKind 2 tb_X9_isKind = true := by decide +kernel
set_option maxRecDepth 100000 in
theorem mw_X9_readsS : q_mw yX9_readsS cX9_readsS 2 (Option.some Jvm.ClassFile.FieldType.boolean) 1 := ⟨q_t8 126 rfl rfl, by decide +kernel, by decide +kernel, q_init_QuillRelayModel⟩
set_option maxRecDepth 100000 in
theorem mi_X9_readsS : Cond.instanceMethod yX9_readsS ∈ q_W := q_t8 125 rfl rfl
set_option maxRecDepth 100000 in
theorem me_X9_readsS : Cond.selects yX9_readsS.cls yX9_readsS yX9_readsS ∈ q_W := q_s 56 rfl rfl
def tb_X9_readsS : List q_E := [(0, .aload_n 0, 1, 0, 0), (1, .bipush 116, 2, 116, 0), (3, .invokevirtual 193, 3, 0, 0), (6, .ifCond .eq 10, 3, 0, 16), (9, .aload_n 0, 1, 0, 0), (10, .ldc 202, 2, 0, 0), (12, .invokevirtual 204, 3, 0, 0), (15, .ireturn, 1, 0, 0), (16, .aload_n 0, 1, 0, 0), (17, .getfield 35, 3, 0, 0), (20, .iload_n 1, 1, 0, 0), (21, .bipush 118, 2, 118, 0), (23, .iastore, 1, 0, 0), (24, .aload_n 0, 1, 0, 0), (25, .ldc 208, 2, 0, 0), (27, .invokevirtual 204, 3, 0, 0), (30, .ifCond .eq 40, 3, 0, 70), (33, .aload_n 0, 1, 0, 0), (34, .iconst 1, 1, 1, 0), (35, .iload_n 1, 1, 0, 0), (36, .iconst 1, 1, 1, 0), (37, .iadd, 1, 0, 0), (38, .invokevirtual 210, 3, 0, 0), (41, .ifCond .eq 29, 3, 0, 70), (44, .aload_n 0, 1, 0, 0), (45, .iconst 1, 1, 1, 0), (46, .iload_n 1, 1, 0, 0), (47, .iconst 2, 1, 2, 0), (48, .iadd, 1, 0, 0), (49, .invokevirtual 210, 3, 0, 0), (52, .ifCond .eq 18, 3, 0, 70), (55, .aload_n 0, 1, 0, 0), (56, .iconst 3, 1, 3, 0), (57, .iload_n 1, 1, 0, 0), (58, .iconst 3, 1, 3, 0), (59, .iadd, 1, 0, 0), (60, .invokevirtual 210, 3, 0, 0), (63, .ifCond .eq 7, 3, 0, 70), (66, .iconst 1, 1, 1, 0), (67, .goto 4, 3, 0, 71), (70, .iconst 0, 1, 0, 0), (71, .ireturn, 1, 0, 0)]
set_option maxRecDepth 100000 in
theorem tk_X9_readsS : q_tb cX9_readsS 2 tb_X9_readsS = true := by decide +kernel
set_option maxRecDepth 100000 in
theorem mw_X9_readsP : q_mw yX9_readsP cX9_readsP 2 (Option.some Jvm.ClassFile.FieldType.boolean) 1 := ⟨q_t8 149 rfl rfl, by decide +kernel, by decide +kernel, q_init_QuillRelayModel⟩
set_option maxRecDepth 100000 in
theorem mi_X9_readsP : Cond.instanceMethod yX9_readsP ∈ q_W := q_t8 148 rfl rfl
set_option maxRecDepth 100000 in
theorem me_X9_readsP : Cond.selects yX9_readsP.cls yX9_readsP yX9_readsP ∈ q_W := q_s 61 rfl rfl
def tb_X9_readsP : List q_E := [(0, .aload_n 0, 1, 0, 0), (1, .bipush 97, 2, 97, 0), (3, .invokevirtual 193, 3, 0, 0), (6, .ifCond .eq 29, 3, 0, 35), (9, .aload_n 0, 1, 0, 0), (10, .ldc 213, 2, 0, 0), (12, .invokevirtual 204, 3, 0, 0), (15, .ifCond .eq 18, 3, 0, 33), (18, .aload_n 0, 1, 0, 0), (19, .iconst 1, 1, 1, 0), (20, .iload_n 1, 1, 0, 0), (21, .iconst 1, 1, 1, 0), (22, .iadd, 1, 0, 0), (23, .invokevirtual 210, 3, 0, 0), (26, .ifCond .eq 7, 3, 0, 33), (29, .iconst 1, 1, 1, 0), (30, .goto 4, 3, 0, 34), (33, .iconst 0, 1, 0, 0), (34, .ireturn, 1, 0, 0), (35, .aload_n 0, 1, 0, 0), (36, .getfield 35, 3, 0, 0), (39, .iload_n 1, 1, 0, 0), (40, .bipush 111, 2, 111, 0), (42, .iastore, 1, 0, 0), (43, .aload_n 0, 1, 0, 0), (44, .ldc 215, 2, 0, 0), (46, .invokevirtual 204, 3, 0, 0), (49, .ifCond .eq 39, 3, 0, 88), (52, .aload_n 0, 1, 0, 0), (53, .iconst 1, 1, 1, 0), (54, .iload_n 1, 1, 0, 0), (55, .iconst 1, 1, 1, 0), (56, .iadd, 1, 0, 0), (57, .invokevirtual 210, 3, 0, 0), (60, .ifCond .eq 28, 3, 0, 88), (63, .aload_n 0, 1, 0, 0), (64, .iconst 1, 1, 1, 0), (65, .iload_n 1, 1, 0, 0), (66, .iconst 2, 1, 2, 0), (67, .iadd, 1, 0, 0), (68, .invokevirtual 196, 3, 0, 0), (71, .ifCond .eq 17, 3, 0, 88), (74, .aload_n 0, 1, 0, 0), (75, .iload_n 1, 1, 0, 0), (76, .iconst 3, 1, 3, 0), (77, .iadd, 1, 0, 0), (78, .invokevirtual 217, 3, 0, 0), (81, .ifCond .eq 7, 3, 0, 88), (84, .iconst 1, 1, 1, 0), (85, .goto 4, 3, 0, 89), (88, .iconst 0, 1, 0, 0), (89, .ireturn, 1, 0, 0)]
set_option maxRecDepth 100000 in
theorem tk_X9_readsP : q_tb cX9_readsP 2 tb_X9_readsP = true := by decide +kernel
set_option maxRecDepth 100000 in
theorem mw_X9_readsD : q_mw yX9_readsD cX9_readsD 2 (Option.some Jvm.ClassFile.FieldType.boolean) 1 := ⟨q_t8 159 rfl rfl, by decide +kernel, by decide +kernel, q_init_QuillRelayModel⟩
set_option maxRecDepth 100000 in
theorem mi_X9_readsD : Cond.instanceMethod yX9_readsD ∈ q_W := q_t8 158 rfl rfl
set_option maxRecDepth 100000 in
theorem me_X9_readsD : Cond.selects yX9_readsD.cls yX9_readsD yX9_readsD ∈ q_W := q_s 63 rfl rfl
def tb_X9_readsD : List q_E := [(0, .aload_n 0, 1, 0, 0), (1, .bipush 114, 2, 114, 0), (3, .invokevirtual 193, 3, 0, 0), (6, .ifCond .ne 5, 3, 0, 11), (9, .iconst 0, 1, 0, 0), (10, .ireturn, 1, 0, 0), (11, .aload_n 0, 1, 0, 0), (12, .bipush 111, 2, 111, 0), (14, .invokevirtual 193, 3, 0, 0), (17, .ifCond .eq 40, 3, 0, 57), (20, .aload_n 0, 1, 0, 0), (21, .ldc 220, 2, 0, 0), (23, .invokevirtual 204, 3, 0, 0), (26, .ifCond .eq 29, 3, 0, 55), (29, .aload_n 0, 1, 0, 0), (30, .iconst 1, 1, 1, 0), (31, .iload_n 1, 1, 0, 0), (32, .iconst 1, 1, 1, 0), (33, .iadd, 1, 0, 0), (34, .invokevirtual 210, 3, 0, 0), (37, .ifCond .eq 18, 3, 0, 55), (40, .aload_n 0, 1, 0, 0), (41, .iconst 3, 1, 3, 0), (42, .iload_n 1, 1, 0, 0), (43, .iconst 2, 1, 2, 0), (44, .iadd, 1, 0, 0), (45, .invokevirtual 210, 3, 0, 0), (48, .ifCond .eq 7, 3, 0, 55), (51, .iconst 1, 1, 1, 0), (52, .goto 4, 3, 0, 56), (55, .iconst 0, 1, 0, 0), (56, .ireturn, 1, 0, 0), (57, .aload_n 0, 1, 0, 0), (58, .getfield 35, 3, 0, 0), (61, .iload_n 1, 1, 0, 0), (62, .bipush 119, 2, 119, 0), (64, .iastore, 1, 0, 0), (65, .aload_n 0, 1, 0, 0), (66, .ldc 222, 2, 0, 0), (68, .invokevirtual 204, 3, 0, 0), (71, .ifCond .eq 18, 3, 0, 89), (74, .aload_n 0, 1, 0, 0), (75, .iconst 3, 1, 3, 0), (76, .iload_n 1, 1, 0, 0), (77, .iconst 1, 1, 1, 0), (78, .iadd, 1, 0, 0), (79, .invokevirtual 210, 3, 0, 0), (82, .ifCond .eq 7, 3, 0, 89), (85, .iconst 1, 1, 1, 0), (86, .goto 4, 3, 0, 90), (89, .iconst 0, 1, 0, 0), (90, .ireturn, 1, 0, 0)]
set_option maxRecDepth 100000 in
theorem tk_X9_readsD : q_tb cX9_readsD 2 tb_X9_readsD = true := by decide +kernel
set_option maxRecDepth 100000 in
theorem mw_X9_readsRest : q_mw yX9_readsRest cX9_readsRest 3 (Option.some Jvm.ClassFile.FieldType.boolean) 2 := ⟨q_t8 122 rfl rfl, by decide +kernel, by decide +kernel, q_init_QuillRelayModel⟩
set_option maxRecDepth 100000 in
theorem mi_X9_readsRest : Cond.instanceMethod yX9_readsRest ∈ q_W := q_t8 121 rfl rfl
set_option maxRecDepth 100000 in
theorem me_X9_readsRest : Cond.selects yX9_readsRest.cls yX9_readsRest yX9_readsRest ∈ q_W := q_s 55 rfl rfl
def tb_X9_readsRest : List q_E := [(0, .iload_n 1, 1, 0, 0), (1, .lookupswitch 87 #[(100, 55), (112, 49), (114, 61), (115, 43)], 43, 0, 0), (44, .aload_n 0, 1, 0, 0), (45, .iload_n 2, 1, 0, 0), (46, .invokevirtual 224, 3, 0, 0), (49, .ireturn, 1, 0, 0), (50, .aload_n 0, 1, 0, 0), (51, .iload_n 2, 1, 0, 0), (52, .invokevirtual 227, 3, 0, 0), (55, .ireturn, 1, 0, 0), (56, .aload_n 0, 1, 0, 0), (57, .iload_n 2, 1, 0, 0), (58, .invokevirtual 230, 3, 0, 0), (61, .ireturn, 1, 0, 0), (62, .aload_n 0, 1, 0, 0), (63, .ldc 233, 2, 0, 0), (65, .invokevirtual 204, 3, 0, 0), (68, .ifCond .eq 18, 3, 0, 86), (71, .aload_n 0, 1, 0, 0), (72, .iconst 3, 1, 3, 0), (73, .iload_n 2, 1, 0, 0), (74, .iconst 1, 1, 1, 0), (75, .iadd, 1, 0, 0), (76, .invokevirtual 210, 3, 0, 0), (79, .ifCond .eq 7, 3, 0, 86), (82, .iconst 1, 1, 1, 0), (83, .goto 4, 3, 0, 87), (86, .iconst 0, 1, 0, 0), (87, .ireturn, 1, 0, 0), (88, .aload_n 0, 1, 0, 0), (89, .ldc 235, 2, 0, 0), (91, .invokevirtual 204, 3, 0, 0), (94, .ifCond .eq 18, 3, 0, 112), (97, .aload_n 0, 1, 0, 0), (98, .iconst 1, 1, 1, 0), (99, .iload_n 2, 1, 0, 0), (100, .iconst 1, 1, 1, 0), (101, .iadd, 1, 0, 0), (102, .invokevirtual 210, 3, 0, 0), (105, .ifCond .eq 7, 3, 0, 112), (108, .iconst 1, 1, 1, 0), (109, .goto 4, 3, 0, 113), (112, .iconst 0, 1, 0, 0), (113, .ireturn, 1, 0, 0)]
set_option maxRecDepth 100000 in
theorem tk_X9_readsRest : q_tb cX9_readsRest 3 tb_X9_readsRest = true := by decide +kernel
set_option maxRecDepth 100000 in
theorem mw_X9_isFirst : q_mw yX9_isFirst cX9_isFirst 1 (Option.some Jvm.ClassFile.FieldType.boolean) 1 := ⟨q_t8 118 rfl rfl, by decide +kernel, by decide +kernel, q_init_QuillRelayModel⟩
set_option maxRecDepth 100000 in
theorem ms_X9_isFirst : Cond.static yX9_isFirst ∈ q_W := q_t8 117 rfl rfl
def tb_X9_isFirst : List q_E := [(0, .iload_n 0, 1, 0, 0), (1, .bipush 115, 2, 115, 0), (3, .if_icmp .eq 27, 3, 0, 30), (6, .iload_n 0, 1, 0, 0), (7, .bipush 112, 2, 112, 0), (9, .if_icmp .eq 21, 3, 0, 30), (12, .iload_n 0, 1, 0, 0), (13, .bipush 100, 2, 100, 0), (15, .if_icmp .eq 15, 3, 0, 30), (18, .iload_n 0, 1, 0, 0), (19, .bipush 114, 2, 114, 0), (21, .if_icmp .eq 9, 3, 0, 30), (24, .iload_n 0, 1, 0, 0), (25, .bipush 113, 2, 113, 0), (27, .if_icmp .ne 7, 3, 0, 34), (30, .iconst 1, 1, 1, 0), (31, .goto 4, 3, 0, 35), (34, .iconst 0, 1, 0, 0), (35, .ireturn, 1, 0, 0)]
set_option maxRecDepth 100000 in
theorem tk_X9_isFirst : q_tb cX9_isFirst 1 tb_X9_isFirst = true := by decide +kernel
set_option maxRecDepth 100000 in
theorem mw_X9_readsCommand : q_mw yX9_readsCommand cX9_readsCommand 3 (Option.some Jvm.ClassFile.FieldType.boolean) 0 := ⟨q_t8 111 rfl rfl, by decide +kernel, by decide +kernel, q_init_QuillRelayModel⟩
set_option maxRecDepth 100000 in
theorem mi_X9_readsCommand : Cond.instanceMethod yX9_readsCommand ∈ q_W := q_t8 110 rfl rfl
set_option maxRecDepth 100000 in
theorem me_X9_readsCommand : Cond.selects yX9_readsCommand.cls yX9_readsCommand yX9_readsCommand ∈ q_W := q_s 53 rfl rfl
def tb_X9_readsCommand : List q_E := [(0, .iconst 4, 1, 4, 0), (1, .aload_n 0, 1, 0, 0), (2, .getfield 237, 3, 0, 0), (5, .imul, 1, 0, 0), (6, .istore_n 1, 1, 0, 0), (7, .aload_n 0, 1, 0, 0), (8, .invokevirtual 190, 3, 0, 0), (11, .istore_n 2, 1, 0, 0), (12, .iload_n 2, 1, 0, 0), (13, .invokestatic 240, 3, 0, 0), (16, .ifCond .ne 5, 3, 0, 21), (19, .iconst 0, 1, 0, 0), (20, .ireturn, 1, 0, 0), (21, .aload_n 0, 1, 0, 0), (22, .getfield 35, 3, 0, 0), (25, .iload_n 1, 1, 0, 0), (26, .iload_n 2, 1, 0, 0), (27, .iastore, 1, 0, 0), (28, .aload_n 0, 1, 0, 0), (29, .dup, 1, 0, 0), (30, .getfield 187, 3, 0, 0), (33, .iconst 1, 1, 1, 0), (34, .iadd, 1, 0, 0), (35, .putfield 187, 3, 0, 0), (38, .aload_n 0, 1, 0, 0), (39, .dup, 1, 0, 0), (40, .getfield 237, 3, 0, 0), (43, .iconst 1, 1, 1, 0), (44, .iadd, 1, 0, 0), (45, .putfield 237, 3, 0, 0), (48, .aload_n 0, 1, 0, 0), (49, .iload_n 2, 1, 0, 0), (50, .iload_n 1, 1, 0, 0), (51, .invokevirtual 243, 3, 0, 0), (54, .ireturn, 1, 0, 0)]
set_option maxRecDepth 100000 in
theorem tk_X9_readsCommand : q_tb cX9_readsCommand 3 tb_X9_readsCommand = true := by decide +kernel
set_option maxRecDepth 100000 in
theorem mw_X9_isProgram : q_mw yX9_isProgram cX9_isProgram 2 (Option.some Jvm.ClassFile.FieldType.boolean) 0 := ⟨q_t8 107 rfl rfl, by decide +kernel, by decide +kernel, q_init_QuillRelayModel⟩
set_option maxRecDepth 100000 in
theorem mi_X9_isProgram : Cond.instanceMethod yX9_isProgram ∈ q_W := q_t8 106 rfl rfl
set_option maxRecDepth 100000 in
theorem me_X9_isProgram : Cond.selects yX9_isProgram.cls yX9_isProgram yX9_isProgram ∈ q_W := q_s 52 rfl rfl
def tb_X9_isProgram : List q_E := [(0, .aload_n 0, 1, 0, 0), (1, .iconst 0, 1, 0, 0), (2, .putfield 187, 3, 0, 0), (5, .aload_n 0, 1, 0, 0), (6, .iconst 0, 1, 0, 0), (7, .putfield 237, 3, 0, 0), (10, .aload_n 0, 1, 0, 0), (11, .invokevirtual 246, 3, 0, 0), (14, .istore_n 1, 1, 0, 0), (15, .iload_n 1, 1, 0, 0), (16, .ifCond .eq 20, 3, 0, 36), (19, .aload_n 0, 1, 0, 0), (20, .bipush 59, 2, 59, 0), (22, .invokevirtual 193, 3, 0, 0), (25, .ifCond .eq 11, 3, 0, 36), (28, .aload_n 0, 1, 0, 0), (29, .invokevirtual 246, 3, 0, 0), (32, .istore_n 1, 1, 0, 0), (33, .goto (-18), 3, 0, 15), (36, .iload_n 1, 1, 0, 0), (37, .ifCond .eq 18, 3, 0, 55), (40, .aload_n 0, 1, 0, 0), (41, .getfield 187, 3, 0, 0), (44, .aload_n 0, 1, 0, 0), (45, .getfield 184, 3, 0, 0), (48, .if_icmp .ne 7, 3, 0, 55), (51, .iconst 1, 1, 1, 0), (52, .goto 4, 3, 0, 56), (55, .iconst 0, 1, 0, 0), (56, .ireturn, 1, 0, 0)]
set_option maxRecDepth 100000 in
theorem tk_X9_isProgram : q_tb cX9_isProgram 2 tb_X9_isProgram = true := by decide +kernel
set_option maxRecDepth 100000 in
theorem mw_X9_does : q_mw yX9_does cX9_does 5 (Option.some Jvm.ClassFile.FieldType.int) 1 := ⟨q_t8 167 rfl rfl, by decide +kernel, by decide +kernel, q_init_QuillRelayModel⟩
set_option maxRecDepth 100000 in
theorem mi_X9_does : Cond.instanceMethod yX9_does ∈ q_W := q_t8 166 rfl rfl
set_option maxRecDepth 100000 in
theorem me_X9_does : Cond.selects yX9_does.cls yX9_does yX9_does ∈ q_W := q_s 64 rfl rfl
def tb_X9_does : List q_E := [(0, .aload_n 0, 1, 0, 0), (1, .getfield 35, 3, 0, 0), (4, .iload_n 1, 1, 0, 0), (5, .iconst 1, 1, 1, 0), (6, .iadd, 1, 0, 0), (7, .iaload, 1, 0, 0), (8, .istore_n 2, 1, 0, 0), (9, .aload_n 0, 1, 0, 0), (10, .getfield 35, 3, 0, 0), (13, .iload_n 1, 1, 0, 0), (14, .iconst 2, 1, 2, 0), (15, .iadd, 1, 0, 0), (16, .iaload, 1, 0, 0), (17, .istore_n 3, 1, 0, 0), (18, .aload_n 0, 1, 0, 0), (19, .getfield 35, 3, 0, 0), (22, .iload_n 1, 1, 0, 0), (23, .iconst 3, 1, 3, 0), (24, .iadd, 1, 0, 0), (25, .iaload, 1, 0, 0), (26, .istore 4, 2, 0, 0), (28, .aload_n 0, 1, 0, 0), (29, .getfield 35, 3, 0, 0), (32, .iload_n 1, 1, 0, 0), (33, .iaload, 1, 0, 0), (34, .tableswitch 142 100 119 #[123, 142, 142, 142, 142, 142, 142, 142, 142, 142, 142, 114, 108, 142, 136, 94, 142, 142, 99, 130], 94, 0, 0), (128, .aload_n 0, 1, 0, 0), (129, .invokevirtual 92, 3, 0, 0), (132, .ireturn, 1, 0, 0), (133, .aload_n 0, 1, 0, 0), (134, .iload_n 2, 1, 0, 0), (135, .iload_n 3, 1, 0, 0), (136, .iload 4, 2, 0, 0), (138, .invokevirtual 82, 3, 0, 0), (141, .ireturn, 1, 0, 0), (142, .aload_n 0, 1, 0, 0), (143, .iload_n 2, 1, 0, 0), (144, .invokevirtual 130, 3, 0, 0), (147, .ireturn, 1, 0, 0), (148, .aload_n 0, 1, 0, 0), (149, .iload_n 2, 1, 0, 0), (150, .iload_n 3, 1, 0, 0), (151, .iload 4, 2, 0, 0), (153, .invokevirtual 142, 3, 0, 0), (156, .ireturn, 1, 0, 0), (157, .aload_n 0, 1, 0, 0), (158, .iload_n 2, 1, 0, 0), (159, .iload_n 3, 1, 0, 0), (160, .invokevirtual 136, 3, 0, 0), (163, .ireturn, 1, 0, 0), (164, .aload_n 0, 1, 0, 0), (165, .iload_n 2, 1, 0, 0), (166, .invokevirtual 89, 3, 0, 0), (169, .ireturn, 1, 0, 0), (170, .aload_n 0, 1, 0, 0), (171, .iload_n 2, 1, 0, 0), (172, .invokevirtual 115, 3, 0, 0), (175, .ireturn, 1, 0, 0), (176, .aload_n 0, 1, 0, 0), (177, .iload_n 2, 1, 0, 0), (178, .invokevirtual 139, 3, 0, 0), (181, .ireturn, 1, 0, 0)]
set_option maxRecDepth 100000 in
theorem tk_X9_does : q_tb cX9_does 5 tb_X9_does = true := by decide +kernel
set_option maxRecDepth 100000 in
theorem mw_X9_execute : q_mw yX9_execute cX9_execute 3 (Option.some Jvm.ClassFile.FieldType.int) 0 := ⟨q_t8 103 rfl rfl, by decide +kernel, by decide +kernel, q_init_QuillRelayModel⟩
set_option maxRecDepth 100000 in
theorem mi_X9_execute : Cond.instanceMethod yX9_execute ∈ q_W := q_t8 101 rfl rfl
set_option maxRecDepth 100000 in
theorem me_X9_execute : Cond.selects yX9_execute.cls yX9_execute yX9_execute ∈ q_W := q_t8 102 rfl rfl
def tb_X9_execute : List q_E := [(0, .aload_n 0, 1, 0, 0), (1, .invokevirtual 249, 3, 0, 0), (4, .istore_n 1, 1, 0, 0), (5, .aload_n 0, 1, 0, 0), (6, .iconst 0, 1, 0, 0), (7, .putfield 184, 3, 0, 0), (10, .aload_n 0, 1, 0, 0), (11, .iload_n 1, 1, 0, 0), (12, .ifCond .ne 7, 3, 0, 19), (15, .iconst 1, 1, 1, 0), (16, .goto 4, 3, 0, 20), (19, .iconst 0, 1, 0, 0), (20, .iconst 1, 1, 1, 0), (21, .invokevirtual 63, 3, 0, 0), (24, .ifCond .eq 13, 3, 0, 37), (27, .aload_n 0, 1, 0, 0), (28, .aload_n 0, 1, 0, 0), (29, .getfield 187, 3, 0, 0), (32, .putfield 22, 3, 0, 0), (35, .iconst 0, 1, 0, 0), (36, .ireturn, 1, 0, 0), (37, .aload_n 0, 1, 0, 0), (38, .invokevirtual 56, 3, 0, 0), (41, .iconst 0, 1, 0, 0), (42, .istore_n 2, 1, 0, 0), (43, .iload_n 2, 1, 0, 0), (44, .aload_n 0, 1, 0, 0), (45, .getfield 237, 3, 0, 0), (48, .if_icmp .ge 57, 3, 0, 105), (51, .aload_n 0, 1, 0, 0), (52, .iconst 0, 1, 0, 0), (53, .putfield 38, 3, 0, 0), (56, .aload_n 0, 1, 0, 0), (57, .aload_n 0, 1, 0, 0), (58, .iconst 4, 1, 4, 0), (59, .iload_n 2, 1, 0, 0), (60, .imul, 1, 0, 0), (61, .invokevirtual 252, 3, 0, 0), (64, .putfield 255, 3, 0, 0), (67, .aload_n 0, 1, 0, 0), (68, .getfield 38, 3, 0, 0), (71, .ifCond .eq 28, 3, 0, 99), (74, .aload_n 0, 1, 0, 0), (75, .getfield 13, 3, 0, 0), (78, .iconst 0, 1, 0, 0), (79, .aload_n 0, 1, 0, 0), (80, .getfield 9, 3, 0, 0), (83, .iconst 0, 1, 0, 0), (84, .invokestatic 41, 3, 0, 0), (87, .aload_n 0, 1, 0, 0), (88, .iload_n 2, 1, 0, 0), (89, .putfield 26, 3, 0, 0), (92, .aload_n 0, 1, 0, 0), (93, .iconst 2, 1, 2, 0), (94, .putfield 38, 3, 0, 0), (97, .iconst 0, 1, 0, 0), (98, .ireturn, 1, 0, 0), (99, .iinc 2 1, 3, 1, 0), (102, .goto (-59), 3, 0, 43), (105, .aload_n 0, 1, 0, 0), (106, .aload_n 0, 1, 0, 0), (107, .getfield 237, 3, 0, 0), (110, .invokevirtual 71, 3, 0, 0), (113, .ireturn, 1, 0, 0)]
set_option maxRecDepth 100000 in
theorem tk_X9_execute : q_tb cX9_execute 3 tb_X9_execute = true := by decide +kernel
set_option maxRecDepth 100000 in
theorem mw_X9_errorPosition : q_mw yX9_errorPosition cX9_errorPosition 1 (Option.some Jvm.ClassFile.FieldType.int) 0 := ⟨q_t8 171 rfl rfl, by decide +kernel, by decide +kernel, q_init_QuillRelayModel⟩
set_option maxRecDepth 100000 in
theorem mi_X9_errorPosition : Cond.instanceMethod yX9_errorPosition ∈ q_W := q_t8 169 rfl rfl
set_option maxRecDepth 100000 in
theorem me_X9_errorPosition : Cond.selects yX9_errorPosition.cls yX9_errorPosition yX9_errorPosition ∈ q_W := q_t8 170 rfl rfl
def tb_X9_errorPosition : List q_E := [(0, .aload_n 0, 1, 0, 0), (1, .aload_n 0, 1, 0, 0), (2, .getfield 22, 3, 0, 0), (5, .ifCond .ge 7, 3, 0, 12), (8, .iconst 1, 1, 1, 0), (9, .goto 4, 3, 0, 13), (12, .iconst 0, 1, 0, 0), (13, .iconst 1, 1, 1, 0), (14, .invokevirtual 63, 3, 0, 0), (17, .ifCond .eq 7, 3, 0, 24), (20, .iconst 0, 1, 0, 0), (21, .goto 7, 3, 0, 28), (24, .aload_n 0, 1, 0, 0), (25, .getfield 22, 3, 0, 0), (28, .ireturn, 1, 0, 0)]
set_option maxRecDepth 100000 in
theorem tk_X9_errorPosition : q_tb cX9_errorPosition 1 tb_X9_errorPosition = true := by decide +kernel
set_option maxRecDepth 100000 in
theorem mw_X9_failedCommand : q_mw yX9_failedCommand cX9_failedCommand 1 (Option.some Jvm.ClassFile.FieldType.int) 0 := ⟨q_t8 175 rfl rfl, by decide +kernel, by decide +kernel, q_init_QuillRelayModel⟩
set_option maxRecDepth 100000 in
theorem mi_X9_failedCommand : Cond.instanceMethod yX9_failedCommand ∈ q_W := q_t8 173 rfl rfl
set_option maxRecDepth 100000 in
theorem me_X9_failedCommand : Cond.selects yX9_failedCommand.cls yX9_failedCommand yX9_failedCommand ∈ q_W := q_t8 174 rfl rfl
def tb_X9_failedCommand : List q_E := [(0, .aload_n 0, 1, 0, 0), (1, .aload_n 0, 1, 0, 0), (2, .getfield 26, 3, 0, 0), (5, .ifCond .ge 7, 3, 0, 12), (8, .iconst 1, 1, 1, 0), (9, .goto 4, 3, 0, 13), (12, .iconst 0, 1, 0, 0), (13, .iconst 1, 1, 1, 0), (14, .invokevirtual 63, 3, 0, 0), (17, .ifCond .eq 7, 3, 0, 24), (20, .iconst 0, 1, 0, 0), (21, .goto 7, 3, 0, 28), (24, .aload_n 0, 1, 0, 0), (25, .getfield 26, 3, 0, 0), (28, .ireturn, 1, 0, 0)]
set_option maxRecDepth 100000 in
theorem tk_X9_failedCommand : q_tb cX9_failedCommand 1 tb_X9_failedCommand = true := by decide +kernel
set_option maxRecDepth 100000 in
theorem mw_X9_undo : q_mw yX9_undo cX9_undo 1 (Option.some Jvm.ClassFile.FieldType.int) 0 := ⟨q_t8 179 rfl rfl, by decide +kernel, by decide +kernel, q_init_QuillRelayModel⟩
set_option maxRecDepth 100000 in
theorem mi_X9_undo : Cond.instanceMethod yX9_undo ∈ q_W := q_t8 177 rfl rfl
set_option maxRecDepth 100000 in
theorem me_X9_undo : Cond.selects yX9_undo.cls yX9_undo yX9_undo ∈ q_W := q_t8 178 rfl rfl
def tb_X9_undo : List q_E := [(0, .aload_n 0, 1, 0, 0), (1, .aload_n 0, 1, 0, 0), (2, .getfield 45, 3, 0, 0), (5, .ifCond .ne 7, 3, 0, 12), (8, .iconst 1, 1, 1, 0), (9, .goto 4, 3, 0, 13), (12, .iconst 0, 1, 0, 0), (13, .iconst 1, 1, 1, 0), (14, .invokevirtual 63, 3, 0, 0), (17, .ifCond .eq 5, 3, 0, 22), (20, .iconst 0, 1, 0, 0), (21, .ireturn, 1, 0, 0), (22, .aload_n 0, 1, 0, 0), (23, .dup, 1, 0, 0), (24, .getfield 45, 3, 0, 0), (27, .iconst 1, 1, 1, 0), (28, .isub, 1, 0, 0), (29, .putfield 45, 3, 0, 0), (32, .aload_n 0, 1, 0, 0), (33, .getfield 19, 3, 0, 0), (36, .bipush 118, 2, 118, 0), (38, .aload_n 0, 1, 0, 0), (39, .getfield 45, 3, 0, 0), (42, .imul, 1, 0, 0), (43, .aload_n 0, 1, 0, 0), (44, .getfield 9, 3, 0, 0), (47, .iconst 0, 1, 0, 0), (48, .invokestatic 41, 3, 0, 0), (51, .aload_n 0, 1, 0, 0), (52, .getfield 45, 3, 0, 0), (55, .ireturn, 1, 0, 0)]
set_option maxRecDepth 100000 in
theorem tk_X9_undo : q_tb cX9_undo 1 tb_X9_undo = true := by decide +kernel
set_option maxRecDepth 100000 in
theorem mw_X9_save : q_mw yX9_save cX9_save 1 (Option.some Jvm.ClassFile.FieldType.int) 0 := ⟨q_t8 183 rfl rfl, by decide +kernel, by decide +kernel, q_init_QuillRelayModel⟩
set_option maxRecDepth 100000 in
theorem mi_X9_save : Cond.instanceMethod yX9_save ∈ q_W := q_t8 181 rfl rfl
set_option maxRecDepth 100000 in
theorem me_X9_save : Cond.selects yX9_save.cls yX9_save yX9_save ∈ q_W := q_t8 182 rfl rfl
def tb_X9_save : List q_E := [(0, .aload_n 0, 1, 0, 0), (1, .iconst 0, 1, 0, 0), (2, .putfield 38, 3, 0, 0), (5, .aload_n 0, 1, 0, 0), (6, .getfield 9, 3, 0, 0), (9, .iconst 0, 1, 0, 0), (10, .aload_n 0, 1, 0, 0), (11, .getfield 16, 3, 0, 0), (14, .iconst 0, 1, 0, 0), (15, .invokestatic 41, 3, 0, 0), (18, .aload_n 0, 1, 0, 0), (19, .iconst 1, 1, 1, 0), (20, .putfield 258, 3, 0, 0), (23, .aload_n 0, 1, 0, 0), (24, .getfield 9, 3, 0, 0), (27, .iconst 2, 1, 2, 0), (28, .iaload, 1, 0, 0), (29, .ireturn, 1, 0, 0)]
set_option maxRecDepth 100000 in
theorem tk_X9_save : q_tb cX9_save 1 tb_X9_save = true := by decide +kernel
set_option maxRecDepth 100000 in
theorem mw_X9_restore : q_mw yX9_restore cX9_restore 1 (Option.some Jvm.ClassFile.FieldType.int) 0 := ⟨q_t8 187 rfl rfl, by decide +kernel, by decide +kernel, q_init_QuillRelayModel⟩
set_option maxRecDepth 100000 in
theorem mi_X9_restore : Cond.instanceMethod yX9_restore ∈ q_W := q_t8 185 rfl rfl
set_option maxRecDepth 100000 in
theorem me_X9_restore : Cond.selects yX9_restore.cls yX9_restore yX9_restore ∈ q_W := q_t8 186 rfl rfl
def tb_X9_restore : List q_E := [(0, .aload_n 0, 1, 0, 0), (1, .aload_n 0, 1, 0, 0), (2, .getfield 258, 3, 0, 0), (5, .ifCond .ne 7, 3, 0, 12), (8, .iconst 1, 1, 1, 0), (9, .goto 4, 3, 0, 13), (12, .iconst 0, 1, 0, 0), (13, .iconst 1, 1, 1, 0), (14, .invokevirtual 63, 3, 0, 0), (17, .ifCond .eq 5, 3, 0, 22), (20, .iconst 0, 1, 0, 0), (21, .ireturn, 1, 0, 0), (22, .aload_n 0, 1, 0, 0), (23, .getfield 16, 3, 0, 0), (26, .iconst 0, 1, 0, 0), (27, .aload_n 0, 1, 0, 0), (28, .getfield 9, 3, 0, 0), (31, .iconst 0, 1, 0, 0), (32, .invokestatic 41, 3, 0, 0), (35, .aload_n 0, 1, 0, 0), (36, .iconst 0, 1, 0, 0), (37, .putfield 45, 3, 0, 0), (40, .aload_n 0, 1, 0, 0), (41, .getfield 9, 3, 0, 0), (44, .iconst 2, 1, 2, 0), (45, .iaload, 1, 0, 0), (46, .ireturn, 1, 0, 0)]
set_option maxRecDepth 100000 in
theorem tk_X9_restore : q_tb cX9_restore 1 tb_X9_restore = true := by decide +kernel
set_option maxRecDepth 100000 in
theorem lk_X8_9 : Cond.methodLink RX8 9 yX4_init ∈ q_W := q_t1 45 rfl rfl
set_option maxRecDepth 100000 in
theorem lk_X8_24 : Cond.methodLink RX8 24 yX2_init ∈ q_W := q_t1 139 rfl rfl
set_option maxRecDepth 100000 in
theorem lk_X8_31 : Cond.methodLink RX8 31 yX3_init ∈ q_W := q_t1 159 rfl rfl
set_option maxRecDepth 100000 in
theorem lk_X8_60 : Cond.methodLink RX8 60 yX4_faultOfEntering ∈ q_W := q_t2 82 rfl rfl
set_option maxRecDepth 100000 in
theorem lk_X8_64 : Cond.methodLink RX8 64 yX8_raise ∈ q_W := q_t2 91 rfl rfl
set_option maxRecDepth 100000 in
theorem lk_X8_68 : Cond.methodLink RX8 68 yX2_push ∈ q_W := q_t2 221 rfl rfl
set_option maxRecDepth 100000 in
theorem lk_X8_72 : Cond.methodLink RX8 72 yX4_enterTeam ∈ q_W := q_t2 229 rfl rfl
set_option maxRecDepth 100000 in
theorem lk_X8_76 : Cond.methodLink RX8 76 yX4_faultOfSpeed ∈ q_W := q_t3 24 rfl rfl
set_option maxRecDepth 100000 in
theorem lk_X8_80 : Cond.methodLink RX8 80 yX8_teamWith ∈ q_W := q_t3 37 rfl rfl
set_option maxRecDepth 100000 in
theorem lk_X8_84 : Cond.methodLink RX8 84 yX6_changeSpeed ∈ q_W := q_t3 43 rfl rfl
set_option maxRecDepth 100000 in
theorem lk_X8_90 : Cond.methodLink RX8 90 yX4_faultOfLength ∈ q_W := q_t3 58 rfl rfl
set_option maxRecDepth 100000 in
theorem lk_X8_97 : Cond.methodLink RX8 97 yX4_faultOfDrawing ∈ q_W := q_t3 69 rfl rfl
set_option maxRecDepth 100000 in
theorem lk_X8_100 : Cond.methodLink RX8 100 yX4_shuffleLanes ∈ q_W := q_t3 77 rfl rfl
set_option maxRecDepth 100000 in
theorem lk_X8_107 : Cond.methodLink RX8 107 yX4_faultOfStarting ∈ q_W := q_t3 96 rfl rfl
set_option maxRecDepth 100000 in
theorem lk_X8_110 : Cond.methodLink RX8 110 yX4_begin ∈ q_W := q_t3 97 rfl rfl
set_option maxRecDepth 100000 in
theorem lk_X8_113 : Cond.methodLink RX8 113 yX4_countEntered ∈ q_W := q_t2 21 rfl rfl
set_option maxRecDepth 100000 in
theorem lk_X8_116 : Cond.methodLink RX8 116 yX4_faultOfRunning ∈ q_W := q_t3 108 rfl rfl
set_option maxRecDepth 100000 in
theorem lk_X8_119 : Cond.methodLink RX8 119 yX4_letSecondsPass ∈ q_W := q_t3 112 rfl rfl
set_option maxRecDepth 100000 in
theorem lk_X8_123 : Cond.methodLink RX8 123 yX8_faultOfPassing ∈ q_W := q_t3 149 rfl rfl
set_option maxRecDepth 100000 in
theorem lk_X8_126 : Cond.methodLink RX8 126 yX4_handOver ∈ q_W := q_t3 159 rfl rfl
set_option maxRecDepth 100000 in
theorem lk_X8_130 : Cond.methodLink RX8 130 yX4_faultOfDropping ∈ q_W := q_t3 172 rfl rfl
set_option maxRecDepth 100000 in
theorem lk_X8_134 : Cond.methodLink RX8 134 yX4_dropQuill ∈ q_W := q_t3 180 rfl rfl
set_option maxRecDepth 100000 in
theorem lk_X8_138 : Cond.methodLink RX8 138 yX4_faultOfWithdrawing ∈ q_W := q_t3 195 rfl rfl
set_option maxRecDepth 100000 in
theorem lk_X8_150 : Cond.methodLink RX8 150 yX4_countRunning ∈ q_W := q_t2 34 rfl rfl
set_option maxRecDepth 100000 in
theorem lk_X8_153 : Cond.methodLink RX8 153 yX4_faultOfProtesting ∈ q_W := q_t3 205 rfl rfl
set_option maxRecDepth 100000 in
theorem lk_X8_156 : Cond.methodLink RX8 156 yX4_judge ∈ q_W := q_t3 212 rfl rfl
set_option maxRecDepth 100000 in
theorem lk_X8_166 : Cond.methodLink RX8 166 yX4_numberInLane ∈ q_W := q_t3 239 rfl rfl
set_option maxRecDepth 100000 in
theorem lk_X8_176 : Cond.methodLink RX8 176 yX8_teamWithLeg ∈ q_W := q_t4 26 rfl rfl
set_option maxRecDepth 100000 in
theorem lk_X8_180 : Cond.methodLink RX8 180 yX6_speedOn ∈ q_W := q_t4 32 rfl rfl
set_option maxRecDepth 100000 in
theorem lk_X8_192 : Cond.methodLink RX8 192 yX6_inZone ∈ q_W := q_t4 64 rfl rfl
set_option maxRecDepth 100000 in
theorem lk_X8_202 : Cond.methodLink RX8 202 yX8_isKind ∈ q_W := q_t4 86 rfl rfl
set_option maxRecDepth 100000 in
theorem lk_X8_210 : Cond.methodLink RX8 210 yX6_committed ∈ q_W := q_t4 88 rfl rfl
set_option maxRecDepth 100000 in
theorem lk_X8_213 : Cond.methodLink RX8 213 yX6_hasEnded ∈ q_W := q_t4 96 rfl rfl
set_option maxRecDepth 100000 in
theorem lk_X8_222 : Cond.methodLink RX8 222 yX8_at ∈ q_W := q_t2 71 rfl rfl
set_option maxRecDepth 100000 in
theorem lk_X8_226 : Cond.methodLink RX8 226 yX8_finishedTeamWith ∈ q_W := q_t4 115 rfl rfl
set_option maxRecDepth 100000 in
theorem lk_X8_232 : Cond.methodLink RX8 232 yX6_result ∈ q_W := q_t4 128 rfl rfl
set_option maxRecDepth 100000 in
theorem lk_X8_235 : Cond.methodLink RX8 235 yX4_numberAtRank ∈ q_W := q_t4 139 rfl rfl
set_option maxRecDepth 100000 in
theorem lk_X8_240 : Cond.methodLink RX8 240 yX4_countAhead ∈ q_W := q_t4 160 rfl rfl
set_option maxRecDepth 100000 in
theorem lk_X8_243 : Cond.methodLink RX8 243 yX4_countFinished ∈ q_W := q_t4 182 rfl rfl
set_option maxRecDepth 100000 in
theorem lk_X8_251 : Cond.methodLink RX8 251 yX4_sumOfTimes ∈ q_W := q_t4 190 rfl rfl
set_option maxRecDepth 100000 in
theorem lk_X8_254 : Cond.methodLink RX8 254 yX8_speedForReach ∈ q_W := q_t4 201 rfl rfl
set_option maxRecDepth 100000 in
theorem lk_X8_258 : Cond.methodLink RX8 258 yX8_pace ∈ q_W := q_t4 206 rfl rfl
set_option maxRecDepth 100000 in
theorem lk_X8_271 : Cond.methodLink RX8 271 yX6_secondsUntilZone ∈ q_W := q_t4 223 rfl rfl
set_option maxRecDepth 100000 in
theorem lk_X8_286 : Cond.methodLink RX8 286 yX8_appendStage ∈ q_W := q_t6 46 rfl rfl
set_option maxRecDepth 100000 in
theorem lk_X8_309 : Cond.methodLink RX8 309 yX3_findError ∈ q_W := q_t6 85 rfl rfl
set_option maxRecDepth 100000 in
theorem lk_X8_312 : Cond.methodLink RX8 312 yX8_performAll ∈ q_W := q_t6 145 rfl rfl
set_option maxRecDepth 100000 in
theorem lk_X8_331 : Cond.methodLink RX8 331 yX2_popInto ∈ q_W := q_t6 193 rfl rfl
set_option maxRecDepth 100000 in
theorem lk_X8_334 : Cond.methodLink RX8 334 yX4_copyFrom ∈ q_W := q_t2 60 rfl rfl
set_option maxRecDepth 100000 in
theorem lk_X8_362 : Cond.methodLink RX8 362 yX4_find ∈ q_W := q_t3 41 rfl rfl
set_option maxRecDepth 100000 in
theorem lk_X8_367 : Cond.methodLink RX8 367 yX8_isLeg ∈ q_W := q_t4 30 rfl rfl
set_option maxRecDepth 100000 in
theorem lk_X8_379 : Cond.methodLink RX8 379 yX6_reasonToRefuse ∈ q_W := q_t3 154 rfl rfl
set_option maxRecDepth 100000 in
theorem lk_X8_385 : Cond.methodLink RX8 385 yX3_rewind ∈ q_W := q_t6 149 rfl rfl
set_option maxRecDepth 100000 in
theorem lk_X8_388 : Cond.methodLink RX8 388 yX3_readNext ∈ q_W := q_t6 150 rfl rfl
set_option maxRecDepth 100000 in
theorem lk_X8_399 : Cond.methodLink RX8 399 yX8_faultOf ∈ q_W := q_t6 151 rfl rfl
set_option maxRecDepth 100000 in
theorem lk_X8_403 : Cond.methodLink RX8 403 yX8_apply ∈ q_W := q_t6 163 rfl rfl
set_option maxRecDepth 100000 in
theorem lk_X2_17 : Cond.methodLink RX2 17 yX4_init ∈ q_W := q_t1 145 rfl rfl
set_option maxRecDepth 100000 in
theorem lk_X2_22 : Cond.methodLink RX2 22 yX4_copyFrom ∈ q_W := q_t2 225 rfl rfl
set_option maxRecDepth 100000 in
theorem lk_X3_31 : Cond.methodLink RX3 31 yX3_rewind ∈ q_W := q_t6 89 rfl rfl
set_option maxRecDepth 100000 in
theorem lk_X3_42 : Cond.methodLink RX3 42 yX3_readNext ∈ q_W := q_t6 94 rfl rfl
set_option maxRecDepth 100000 in
theorem lk_X3_49 : Cond.methodLink RX3 49 yX3_readCharacter ∈ q_W := q_t6 98 rfl rfl
set_option maxRecDepth 100000 in
theorem lk_X3_61 : Cond.methodLink RX3 61 yX3_readPattern ∈ q_W := q_t6 105 rfl rfl
set_option maxRecDepth 100000 in
theorem lk_X3_81 : Cond.methodLink RX3 81 yX3_readSign ∈ q_W := q_t6 125 rfl rfl
set_option maxRecDepth 100000 in
theorem lk_X3_84 : Cond.methodLink RX3 84 yX3_readDigits ∈ q_W := q_t6 129 rfl rfl
set_option maxRecDepth 100000 in
theorem lk_X3_88 : Cond.methodLink RX3 88 yX3_readKind ∈ q_W := q_t6 140 rfl rfl
set_option maxRecDepth 100000 in
theorem lk_X3_92 : Cond.methodLink RX3 92 yX3_isDigit ∈ q_W := q_t6 133 rfl rfl
set_option maxRecDepth 100000 in
theorem lk_X3_95 : Cond.methodLink RX3 95 yX3_addArgument ∈ q_W := q_t6 136 rfl rfl
set_option maxRecDepth 100000 in
theorem lk_X4_17 : Cond.methodLink RX4 17 yX6_init ∈ q_W := q_t1 52 rfl rfl
set_option maxRecDepth 100000 in
theorem lk_X4_24 : Cond.methodLink RX4 24 yX6_copyFrom ∈ q_W := q_t2 64 rfl rfl
set_option maxRecDepth 100000 in
theorem lk_X4_44 : Cond.methodLink RX4 44 yX4_countIn ∈ q_W := q_t2 26 rfl rfl
set_option maxRecDepth 100000 in
theorem lk_X4_63 : Cond.methodLink RX4 63 yX4_countAhead ∈ q_W := q_t4 143 rfl rfl
set_option maxRecDepth 100000 in
theorem lk_X4_67 : Cond.methodLink RX4 67 yX6_isAheadOf ∈ q_W := q_t4 147 rfl rfl
set_option maxRecDepth 100000 in
theorem lk_X4_71 : Cond.methodLink RX4 71 yX4_countEntered ∈ q_W := q_t2 86 rfl rfl
set_option maxRecDepth 100000 in
theorem lk_X4_84 : Cond.methodLink RX4 84 yX4_find ∈ q_W := q_t3 28 rfl rfl
set_option maxRecDepth 100000 in
theorem lk_X4_98 : Cond.methodLink RX4 98 yX4_faultOfStarting ∈ q_W := q_t3 73 rfl rfl
set_option maxRecDepth 100000 in
theorem lk_X4_102 : Cond.methodLink RX4 102 yX4_faultOfWithdrawing ∈ q_W := q_t3 176 rfl rfl
set_option maxRecDepth 100000 in
theorem lk_X4_112 : Cond.methodLink RX4 112 yX4_freeLane ∈ q_W := q_t3 81 rfl rfl
set_option maxRecDepth 100000 in
theorem lk_X4_116 : Cond.methodLink RX4 116 yX4_isTaken ∈ q_W := q_t3 85 rfl rfl
set_option maxRecDepth 100000 in
theorem lk_X4_120 : Cond.methodLink RX4 120 yX6_moveOneSecond ∈ q_W := q_t3 116 rfl rfl
set_option maxRecDepth 100000 in
theorem lk_X4_126 : Cond.methodLink RX4 126 yX6_legEnd ∈ q_W := q_t3 163 rfl rfl
set_option maxRecDepth 100000 in
theorem lk_X4_133 : Cond.methodLink RX4 133 yX6_endLeg ∈ q_W := q_t3 164 rfl rfl
set_option maxRecDepth 100000 in
theorem lk_X4_142 : Cond.methodLink RX4 142 yX6_inZone ∈ q_W := q_t3 184 rfl rfl
set_option maxRecDepth 100000 in
theorem lk_X4_151 : Cond.methodLink RX4 151 yX6_committed ∈ q_W := q_t3 216 rfl rfl
set_option maxRecDepth 100000 in
theorem lk_X4_154 : Cond.methodLink RX4 154 yX6_removeFoul ∈ q_W := q_t3 220 rfl rfl
set_option maxRecDepth 100000 in
theorem lk_X6_74 : Cond.methodLink RX6 74 yX6_legEnd ∈ q_W := q_t3 124 rfl rfl
set_option maxRecDepth 100000 in
theorem lk_X6_78 : Cond.methodLink RX6 78 yX6_runOneSecond ∈ q_W := q_t3 120 rfl rfl
set_option maxRecDepth 100000 in
theorem lk_X6_85 : Cond.methodLink RX6 85 yX6_endLeg ∈ q_W := q_t3 137 rfl rfl
set_option maxRecDepth 100000 in
theorem lk_X6_101 : Cond.methodLink RX6 101 yX6_result ∈ q_W := q_t4 151 rfl rfl
set_option maxRecDepth 100000 in
theorem lk_L_7 : Cond.methodLink RL 7 yX8_addTeam ∈ q_W := q_t2 78 rfl rfl
set_option maxRecDepth 100000 in
theorem lk_L_15 : Cond.methodLink RL 15 yX8_setSpeed ∈ q_W := q_t3 20 rfl rfl
set_option maxRecDepth 100000 in
theorem lk_L_23 : Cond.methodLink RL 23 yX8_setLength ∈ q_W := q_t3 54 rfl rfl
set_option maxRecDepth 100000 in
theorem lk_L_27 : Cond.methodLink RL 27 yX8_drawLanes ∈ q_W := q_t3 65 rfl rfl
set_option maxRecDepth 100000 in
theorem lk_L_30 : Cond.methodLink RL 30 yX8_start ∈ q_W := q_t3 92 rfl rfl
set_option maxRecDepth 100000 in
theorem lk_L_33 : Cond.methodLink RL 33 yX8_run ∈ q_W := q_t3 104 rfl rfl
set_option maxRecDepth 100000 in
theorem lk_L_36 : Cond.methodLink RL 36 yX8_pass ∈ q_W := q_t3 145 rfl rfl
set_option maxRecDepth 100000 in
theorem lk_L_41 : Cond.methodLink RL 41 yX8_drop ∈ q_W := q_t3 168 rfl rfl
set_option maxRecDepth 100000 in
theorem lk_L_45 : Cond.methodLink RL 45 yX8_withdraw ∈ q_W := q_t3 191 rfl rfl
set_option maxRecDepth 100000 in
theorem lk_L_48 : Cond.methodLink RL 48 yX8_protest ∈ q_W := q_t3 201 rfl rfl
set_option maxRecDepth 100000 in
theorem lk_L_52 : Cond.methodLink RL 52 yX8_laneOf ∈ q_W := q_t3 227 rfl rfl
set_option maxRecDepth 100000 in
theorem lk_L_55 : Cond.methodLink RL 55 yX8_teamInLane ∈ q_W := q_t3 235 rfl rfl
set_option maxRecDepth 100000 in
theorem lk_L_60 : Cond.methodLink RL 60 yX8_speedOf ∈ q_W := q_t4 22 rfl rfl
set_option maxRecDepth 100000 in
theorem lk_L_63 : Cond.methodLink RL 63 yX8_positionOf ∈ q_W := q_t4 39 rfl rfl
set_option maxRecDepth 100000 in
theorem lk_L_66 : Cond.methodLink RL 66 yX8_legOf ∈ q_W := q_t4 46 rfl rfl
set_option maxRecDepth 100000 in
theorem lk_L_69 : Cond.methodLink RL 69 yX8_isRunning ∈ q_W := q_t4 53 rfl rfl
set_option maxRecDepth 100000 in
theorem lk_L_73 : Cond.methodLink RL 73 yX8_isInZone ∈ q_W := q_t4 60 rfl rfl
set_option maxRecDepth 100000 in
theorem lk_L_76 : Cond.methodLink RL 76 yX8_standingOf ∈ q_W := q_t4 68 rfl rfl
set_option maxRecDepth 100000 in
theorem lk_L_79 : Cond.methodLink RL 79 yX8_penaltyOf ∈ q_W := q_t4 75 rfl rfl
set_option maxRecDepth 100000 in
theorem lk_L_82 : Cond.methodLink RL 82 yX8_hasFoul ∈ q_W := q_t4 82 rfl rfl
set_option maxRecDepth 100000 in
theorem lk_L_86 : Cond.methodLink RL 86 yX8_splitOf ∈ q_W := q_t4 92 rfl rfl
set_option maxRecDepth 100000 in
theorem lk_L_89 : Cond.methodLink RL 89 yX8_splitSum ∈ q_W := q_t4 104 rfl rfl
set_option maxRecDepth 100000 in
theorem lk_L_92 : Cond.methodLink RL 92 yX8_timeOf ∈ q_W := q_t4 111 rfl rfl
set_option maxRecDepth 100000 in
theorem lk_L_95 : Cond.methodLink RL 95 yX8_resultOf ∈ q_W := q_t4 124 rfl rfl
set_option maxRecDepth 100000 in
theorem lk_L_98 : Cond.methodLink RL 98 yX8_teamAtRank ∈ q_W := q_t4 135 rfl rfl
set_option maxRecDepth 100000 in
theorem lk_L_101 : Cond.methodLink RL 101 yX8_rankOf ∈ q_W := q_t4 156 rfl rfl
set_option maxRecDepth 100000 in
theorem lk_L_104 : Cond.methodLink RL 104 yX8_meanTime ∈ q_W := q_t4 178 rfl rfl
set_option maxRecDepth 100000 in
theorem lk_L_110 : Cond.methodLink RL 110 yX8_reach ∈ q_W := q_t4 197 rfl rfl
set_option maxRecDepth 100000 in
theorem lk_L_113 : Cond.methodLink RL 113 yX8_reachByStretches ∈ q_W := q_t4 210 rfl rfl
set_option maxRecDepth 100000 in
theorem lk_L_116 : Cond.methodLink RL 116 yX8_secondsToZone ∈ q_W := q_t4 217 rfl rfl
set_option maxRecDepth 100000 in
theorem lk_L_119 : Cond.methodLink RL 119 yX8_refusalReason ∈ q_W := q_t4 231 rfl rfl
set_option maxRecDepth 100000 in
theorem lk_L_122 : Cond.methodLink RL 122 yX8_refusedTeam ∈ q_W := q_t4 239 rfl rfl
set_option maxRecDepth 100000 in
theorem lk_L_125 : Cond.methodLink RL 125 yX8_writeBanner ∈ q_W := q_t5 6 rfl rfl
set_option maxRecDepth 100000 in
theorem lk_L_128 : Cond.methodLink RL 128 yX8_bannerAt ∈ q_W := q_t6 54 rfl rfl
set_option maxRecDepth 100000 in
theorem lk_L_132 : Cond.methodLink RL 132 yX8_type ∈ q_W := q_t6 72 rfl rfl
set_option maxRecDepth 100000 in
theorem lk_L_136 : Cond.methodLink RL 136 yX8_execute ∈ q_W := q_t6 81 rfl rfl
set_option maxRecDepth 100000 in
theorem lk_L_139 : Cond.methodLink RL 139 yX8_errorPosition ∈ q_W := q_t6 172 rfl rfl
set_option maxRecDepth 100000 in
theorem lk_L_142 : Cond.methodLink RL 142 yX8_failedCommand ∈ q_W := q_t6 180 rfl rfl
set_option maxRecDepth 100000 in
theorem lk_L_145 : Cond.methodLink RL 145 yX8_undo ∈ q_W := q_t6 188 rfl rfl
set_option maxRecDepth 100000 in
theorem lk_L_148 : Cond.methodLink RL 148 yX8_restore ∈ q_W := q_t6 200 rfl rfl
set_option maxRecDepth 100000 in
theorem lk_L_151 : Cond.methodLink RL 151 yX8_init ∈ q_W := q_t1 37 rfl rfl
set_option maxRecDepth 100000 in
theorem lk_L_154 : Cond.methodLink RL 154 yX9_init ∈ q_W := q_t6 207 rfl rfl
set_option maxRecDepth 100000 in
theorem lk_L_160 : Cond.methodLink RL 160 yX9_addTeam ∈ q_W := q_t7 33 rfl rfl
set_option maxRecDepth 100000 in
theorem lk_L_161 : Cond.methodLink RL 161 yX9_thrown ∈ q_W := q_t7 29 rfl rfl
set_option maxRecDepth 100000 in
theorem lk_L_167 : Cond.methodLink RL 167 yX9_setSpeed ∈ q_W := q_t7 60 rfl rfl
set_option maxRecDepth 100000 in
theorem lk_L_171 : Cond.methodLink RL 171 yX9_setLength ∈ q_W := q_t7 82 rfl rfl
set_option maxRecDepth 100000 in
theorem lk_L_174 : Cond.methodLink RL 174 yX9_drawLanes ∈ q_W := q_t7 86 rfl rfl
set_option maxRecDepth 100000 in
theorem lk_L_177 : Cond.methodLink RL 177 yX9_start ∈ q_W := q_t7 98 rfl rfl
set_option maxRecDepth 100000 in
theorem lk_L_180 : Cond.methodLink RL 180 yX9_run ∈ q_W := q_t7 106 rfl rfl
set_option maxRecDepth 100000 in
theorem lk_L_183 : Cond.methodLink RL 183 yX9_pass ∈ q_W := q_t7 137 rfl rfl
set_option maxRecDepth 100000 in
theorem lk_L_187 : Cond.methodLink RL 187 yX9_drop ∈ q_W := q_t7 153 rfl rfl
set_option maxRecDepth 100000 in
theorem lk_L_190 : Cond.methodLink RL 190 yX9_withdraw ∈ q_W := q_t7 165 rfl rfl
set_option maxRecDepth 100000 in
theorem lk_L_193 : Cond.methodLink RL 193 yX9_protest ∈ q_W := q_t7 173 rfl rfl
set_option maxRecDepth 100000 in
theorem lk_L_194 : Cond.methodLink RL 194 yX8_teamCount ∈ q_W := q_t2 17 rfl rfl
set_option maxRecDepth 100000 in
theorem lk_L_197 : Cond.methodLink RL 197 yX9_teamCount ∈ q_W := q_t7 181 rfl rfl
set_option maxRecDepth 100000 in
theorem lk_L_198 : Cond.methodLink RL 198 yX8_runningCount ∈ q_W := q_t2 30 rfl rfl
set_option maxRecDepth 100000 in
theorem lk_L_201 : Cond.methodLink RL 201 yX9_runningCount ∈ q_W := q_t7 185 rfl rfl
set_option maxRecDepth 100000 in
theorem lk_L_202 : Cond.methodLink RL 202 yX8_isStarted ∈ q_W := q_t2 40 rfl rfl
set_option maxRecDepth 100000 in
theorem lk_L_206 : Cond.methodLink RL 206 yX9_isStarted ∈ q_W := q_t7 189 rfl rfl
set_option maxRecDepth 100000 in
theorem lk_L_207 : Cond.methodLink RL 207 yX8_isFinished ∈ q_W := q_t2 44 rfl rfl
set_option maxRecDepth 100000 in
theorem lk_L_210 : Cond.methodLink RL 210 yX9_isFinished ∈ q_W := q_t7 193 rfl rfl
set_option maxRecDepth 100000 in
theorem lk_L_211 : Cond.methodLink RL 211 yX8_clock ∈ q_W := q_t2 48 rfl rfl
set_option maxRecDepth 100000 in
theorem lk_L_214 : Cond.methodLink RL 214 yX9_clock ∈ q_W := q_t7 197 rfl rfl
set_option maxRecDepth 100000 in
theorem lk_L_215 : Cond.methodLink RL 215 yX8_length ∈ q_W := q_t2 52 rfl rfl
set_option maxRecDepth 100000 in
theorem lk_L_218 : Cond.methodLink RL 218 yX9_length ∈ q_W := q_t7 201 rfl rfl
set_option maxRecDepth 100000 in
theorem lk_L_221 : Cond.methodLink RL 221 yX9_laneOf ∈ q_W := q_t7 205 rfl rfl
set_option maxRecDepth 100000 in
theorem lk_L_224 : Cond.methodLink RL 224 yX9_teamInLane ∈ q_W := q_t7 213 rfl rfl
set_option maxRecDepth 100000 in
theorem lk_L_227 : Cond.methodLink RL 227 yX9_speedOf ∈ q_W := q_t7 217 rfl rfl
set_option maxRecDepth 100000 in
theorem lk_L_230 : Cond.methodLink RL 230 yX9_positionOf ∈ q_W := q_t7 221 rfl rfl
set_option maxRecDepth 100000 in
theorem lk_L_233 : Cond.methodLink RL 233 yX9_legOf ∈ q_W := q_t7 225 rfl rfl
set_option maxRecDepth 100000 in
theorem lk_L_236 : Cond.methodLink RL 236 yX9_isRunning ∈ q_W := q_t7 229 rfl rfl
set_option maxRecDepth 100000 in
theorem lk_L_239 : Cond.methodLink RL 239 yX9_isInZone ∈ q_W := q_t7 233 rfl rfl
set_option maxRecDepth 100000 in
theorem lk_L_242 : Cond.methodLink RL 242 yX9_standingOf ∈ q_W := q_t7 237 rfl rfl
set_option maxRecDepth 100000 in
theorem lk_L_245 : Cond.methodLink RL 245 yX9_penaltyOf ∈ q_W := q_t8 1 rfl rfl
set_option maxRecDepth 100000 in
theorem lk_L_248 : Cond.methodLink RL 248 yX9_hasFoul ∈ q_W := q_t8 5 rfl rfl
set_option maxRecDepth 100000 in
theorem lk_L_251 : Cond.methodLink RL 251 yX9_splitOf ∈ q_W := q_t8 9 rfl rfl
set_option maxRecDepth 100000 in
theorem lk_L_254 : Cond.methodLink RL 254 yX9_splitSum ∈ q_W := q_t8 13 rfl rfl
set_option maxRecDepth 100000 in
theorem lk_L_257 : Cond.methodLink RL 257 yX9_timeOf ∈ q_W := q_t8 17 rfl rfl
set_option maxRecDepth 100000 in
theorem lk_L_260 : Cond.methodLink RL 260 yX9_resultOf ∈ q_W := q_t8 25 rfl rfl
set_option maxRecDepth 100000 in
theorem lk_L_263 : Cond.methodLink RL 263 yX9_teamAtRank ∈ q_W := q_t8 33 rfl rfl
set_option maxRecDepth 100000 in
theorem lk_L_266 : Cond.methodLink RL 266 yX9_rankOf ∈ q_W := q_t8 49 rfl rfl
set_option maxRecDepth 100000 in
theorem lk_L_270 : Cond.methodLink RL 270 yX9_meanTime ∈ q_W := q_t8 53 rfl rfl
set_option maxRecDepth 100000 in
theorem lk_L_273 : Cond.methodLink RL 273 yX9_reach ∈ q_W := q_t8 57 rfl rfl
set_option maxRecDepth 100000 in
theorem lk_L_276 : Cond.methodLink RL 276 yX9_reachByStretches ∈ q_W := q_t8 61 rfl rfl
set_option maxRecDepth 100000 in
theorem lk_L_279 : Cond.methodLink RL 279 yX9_secondsToZone ∈ q_W := q_t8 66 rfl rfl
set_option maxRecDepth 100000 in
theorem lk_L_282 : Cond.methodLink RL 282 yX9_refusalReason ∈ q_W := q_t8 70 rfl rfl
set_option maxRecDepth 100000 in
theorem lk_L_285 : Cond.methodLink RL 285 yX9_refusedTeam ∈ q_W := q_t8 74 rfl rfl
set_option maxRecDepth 100000 in
theorem lk_L_288 : Cond.methodLink RL 288 yX9_writeBanner ∈ q_W := q_t8 78 rfl rfl
set_option maxRecDepth 100000 in
theorem lk_L_291 : Cond.methodLink RL 291 yX9_bannerAt ∈ q_W := q_t8 92 rfl rfl
set_option maxRecDepth 100000 in
theorem lk_L_295 : Cond.methodLink RL 295 yX9_type ∈ q_W := q_t8 96 rfl rfl
set_option maxRecDepth 100000 in
theorem lk_L_298 : Cond.methodLink RL 298 yX9_execute ∈ q_W := q_t8 100 rfl rfl
set_option maxRecDepth 100000 in
theorem lk_L_301 : Cond.methodLink RL 301 yX9_errorPosition ∈ q_W := q_t8 168 rfl rfl
set_option maxRecDepth 100000 in
theorem lk_L_304 : Cond.methodLink RL 304 yX9_failedCommand ∈ q_W := q_t8 172 rfl rfl
set_option maxRecDepth 100000 in
theorem lk_L_307 : Cond.methodLink RL 307 yX9_undo ∈ q_W := q_t8 176 rfl rfl
set_option maxRecDepth 100000 in
theorem lk_L_308 : Cond.methodLink RL 308 yX8_save ∈ q_W := q_t2 56 rfl rfl
set_option maxRecDepth 100000 in
theorem lk_L_311 : Cond.methodLink RL 311 yX9_save ∈ q_W := q_t8 180 rfl rfl
set_option maxRecDepth 100000 in
theorem lk_L_314 : Cond.methodLink RL 314 yX9_restore ∈ q_W := q_t8 184 rfl rfl
set_option maxRecDepth 100000 in
theorem lk_X9_41 : Cond.methodLink RX9 41 yX9_copies ∈ q_W := q_t7 41 rfl rfl
set_option maxRecDepth 100000 in
theorem lk_X9_48 : Cond.methodLink RX9 48 yX9_isIn ∈ q_W := q_t7 72 rfl rfl
set_option maxRecDepth 100000 in
theorem lk_X9_52 : Cond.methodLink RX9 52 yX9_of ∈ q_W := q_t7 78 rfl rfl
set_option maxRecDepth 100000 in
theorem lk_X9_56 : Cond.methodLink RX9 56 yX9_keeps ∈ q_W := q_t7 37 rfl rfl
set_option maxRecDepth 100000 in
theorem lk_X9_59 : Cond.methodLink RX9 59 yX9_isUnprepared ∈ q_W := q_t7 44 rfl rfl
set_option maxRecDepth 100000 in
theorem lk_X9_63 : Cond.methodLink RX9 63 yX9_isThrown ∈ q_W := q_t7 48 rfl rfl
set_option maxRecDepth 100000 in
theorem lk_X9_67 : Cond.methodLink RX9 67 yX9_sets ∈ q_W := q_t7 52 rfl rfl
set_option maxRecDepth 100000 in
theorem lk_X9_71 : Cond.methodLink RX9 71 yX9_ends ∈ q_W := q_t7 56 rfl rfl
set_option maxRecDepth 100000 in
theorem lk_X9_75 : Cond.methodLink RX9 75 yX9_isTeam ∈ q_W := q_t7 68 rfl rfl
set_option maxRecDepth 100000 in
theorem lk_X9_79 : Cond.methodLink RX9 79 yX9_isLeg ∈ q_W := q_t7 75 rfl rfl
set_option maxRecDepth 100000 in
theorem lk_X9_82 : Cond.methodLink RX9 82 yX9_speeds ∈ q_W := q_t7 64 rfl rfl
set_option maxRecDepth 100000 in
theorem lk_X9_86 : Cond.methodLink RX9 86 yX9_freeLane ∈ q_W := q_t7 94 rfl rfl
set_option maxRecDepth 100000 in
theorem lk_X9_89 : Cond.methodLink RX9 89 yX9_draws ∈ q_W := q_t7 90 rfl rfl
set_option maxRecDepth 100000 in
theorem lk_X9_92 : Cond.methodLink RX9 92 yX9_starts ∈ q_W := q_t7 102 rfl rfl
set_option maxRecDepth 100000 in
theorem lk_X9_96 : Cond.methodLink RX9 96 yX9_endOf ∈ q_W := q_t7 126 rfl rfl
set_option maxRecDepth 100000 in
theorem lk_X9_99 : Cond.methodLink RX9 99 yX9_step ∈ q_W := q_t7 134 rfl rfl
set_option maxRecDepth 100000 in
theorem lk_X9_102 : Cond.methodLink RX9 102 yX9_standsAtBound ∈ q_W := q_t7 122 rfl rfl
set_option maxRecDepth 100000 in
theorem lk_X9_105 : Cond.methodLink RX9 105 yX9_carries ∈ q_W := q_t7 130 rfl rfl
set_option maxRecDepth 100000 in
theorem lk_X9_109 : Cond.methodLink RX9 109 yX9_inStatus ∈ q_W := q_t7 114 rfl rfl
set_option maxRecDepth 100000 in
theorem lk_X9_112 : Cond.methodLink RX9 112 yX9_moves ∈ q_W := q_t7 118 rfl rfl
set_option maxRecDepth 100000 in
theorem lk_X9_115 : Cond.methodLink RX9 115 yX9_secondsPass ∈ q_W := q_t7 110 rfl rfl
set_option maxRecDepth 100000 in
theorem lk_X9_118 : Cond.methodLink RX9 118 yX9_reason ∈ q_W := q_t7 149 rfl rfl
set_option maxRecDepth 100000 in
theorem lk_X9_127 : Cond.methodLink RX9 127 yX9_isRefused ∈ q_W := q_t7 145 rfl rfl
set_option maxRecDepth 100000 in
theorem lk_X9_130 : Cond.methodLink RX9 130 yX9_passes ∈ q_W := q_t7 141 rfl rfl
set_option maxRecDepth 100000 in
theorem lk_X9_133 : Cond.methodLink RX9 133 yX9_inZone ∈ q_W := q_t7 161 rfl rfl
set_option maxRecDepth 100000 in
theorem lk_X9_136 : Cond.methodLink RX9 136 yX9_drops ∈ q_W := q_t7 157 rfl rfl
set_option maxRecDepth 100000 in
theorem lk_X9_139 : Cond.methodLink RX9 139 yX9_leaves ∈ q_W := q_t7 169 rfl rfl
set_option maxRecDepth 100000 in
theorem lk_X9_142 : Cond.methodLink RX9 142 yX9_protests ∈ q_W := q_t7 177 rfl rfl
set_option maxRecDepth 100000 in
theorem lk_X9_145 : Cond.methodLink RX9 145 yX9_ofTeam ∈ q_W := q_t7 209 rfl rfl
set_option maxRecDepth 100000 in
theorem lk_X9_148 : Cond.methodLink RX9 148 yX9_isNoResult ∈ q_W := q_t8 21 rfl rfl
set_option maxRecDepth 100000 in
theorem lk_X9_151 : Cond.methodLink RX9 151 yX9_result ∈ q_W := q_t8 29 rfl rfl
set_option maxRecDepth 100000 in
theorem lk_X9_154 : Cond.methodLink RX9 154 yX9_group ∈ q_W := q_t8 45 rfl rfl
set_option maxRecDepth 100000 in
theorem lk_X9_157 : Cond.methodLink RX9 157 yX9_isAhead ∈ q_W := q_t8 41 rfl rfl
set_option maxRecDepth 100000 in
theorem lk_X9_161 : Cond.methodLink RX9 161 yX9_rank ∈ q_W := q_t8 37 rfl rfl
set_option maxRecDepth 100000 in
theorem lk_X9_164 : Cond.methodLink RX9 164 yX9_reach ∈ q_W := q_t8 65 rfl rfl
set_option maxRecDepth 100000 in
theorem lk_X9_170 : Cond.methodLink RX9 170 yX9_number ∈ q_W := q_t8 86 rfl rfl
set_option maxRecDepth 100000 in
theorem lk_X9_173 : Cond.methodLink RX9 173 yX9_puts ∈ q_W := q_t8 82 rfl rfl
set_option maxRecDepth 100000 in
theorem lk_X9_190 : Cond.methodLink RX9 190 yX9_sign ∈ q_W := q_t8 112 rfl rfl
set_option maxRecDepth 100000 in
theorem lk_X9_193 : Cond.methodLink RX9 193 yX9_isSign ∈ q_W := q_t8 127 rfl rfl
set_option maxRecDepth 100000 in
theorem lk_X9_196 : Cond.methodLink RX9 196 yX9_isNumber ∈ q_W := q_t8 142 rfl rfl
set_option maxRecDepth 100000 in
theorem lk_X9_204 : Cond.methodLink RX9 204 yX9_isWord ∈ q_W := q_t8 132 rfl rfl
set_option maxRecDepth 100000 in
theorem lk_X9_210 : Cond.methodLink RX9 210 yX9_isSpaced ∈ q_W := q_t8 138 rfl rfl
set_option maxRecDepth 100000 in
theorem lk_X9_217 : Cond.methodLink RX9 217 yX9_isKind ∈ q_W := q_t8 152 rfl rfl
set_option maxRecDepth 100000 in
theorem lk_X9_224 : Cond.methodLink RX9 224 yX9_readsS ∈ q_W := q_t8 123 rfl rfl
set_option maxRecDepth 100000 in
theorem lk_X9_227 : Cond.methodLink RX9 227 yX9_readsP ∈ q_W := q_t8 146 rfl rfl
set_option maxRecDepth 100000 in
theorem lk_X9_230 : Cond.methodLink RX9 230 yX9_readsD ∈ q_W := q_t8 156 rfl rfl
set_option maxRecDepth 100000 in
theorem lk_X9_240 : Cond.methodLink RX9 240 yX9_isFirst ∈ q_W := q_t8 116 rfl rfl
set_option maxRecDepth 100000 in
theorem lk_X9_243 : Cond.methodLink RX9 243 yX9_readsRest ∈ q_W := q_t8 119 rfl rfl
set_option maxRecDepth 100000 in
theorem lk_X9_246 : Cond.methodLink RX9 246 yX9_readsCommand ∈ q_W := q_t8 108 rfl rfl
set_option maxRecDepth 100000 in
theorem lk_X9_249 : Cond.methodLink RX9 249 yX9_isProgram ∈ q_W := q_t8 104 rfl rfl
set_option maxRecDepth 100000 in
theorem lk_X9_252 : Cond.methodLink RX9 252 yX9_does ∈ q_W := q_t8 164 rfl rfl
end
section
/-! More rows: outcomes of methods that may throw, Math, places. -/
/-- a value by a name -/
def q_L {α β : Type} (x : α) (f : α → β) : β := f x
theorem q_let {α β : Type} {X : α} {f : α → β} {r : β} {x : α} (e : X = x) (h : q_L X f = r) : f x = r := by
  rw [← e]
  exact h
def q_oo (r : Option Nat) : q_O := match r with | none => q_on | some k => q_or k
def q_oxi (r : Int32 ⊕ String) : q_O := match r with | .inl x => q_oi x | .inr E => q_ox E
def q_oxr (r : Nat ⊕ String) : q_O := match r with | .inl k => q_or k | .inr E => q_ox E
def q_oxv (r : Option String) : q_O := match r with | none => q_ov | some E => q_ox E
def q_max (x y : Int32) : Int32 := if x < y then y else x
def q_min (x y : Int32) : Int32 := if y < x then y else x
theorem q_u32 {x y : Int32} (h : x.toUInt32 = y.toUInt32) : x = y := congrArg Int32.ofUInt32 h
theorem q_kd_sp {t : Nat} (h : q_kd t = 7) : q_kd (t + 1) = 20 := by
  have := q_kd_lt h (by decide)
  revert h
  revert t
  decide +kernel
theorem q_kd_sl {t : Nat} (h : q_kd t = 7) : q_kd (t + 2) = 20 := by
  have := q_kd_lt h (by decide)
  revert h
  revert t
  decide +kernel
theorem q_kd_ta {t : Nat} (h : q_kd t = 6) : q_kd (t + 1) = 30 := by
  have := q_kd_lt h (by decide)
  revert h
  revert t
  decide +kernel
theorem q_kd_te' : ∀ r, r < 239 → q_kd r = 30 → ∀ i, i < 6 → q_kd (r + 1 + 3 * i) = 7 := by decide +kernel
theorem q_vi {x : Int32} {n : Nat} (h : vp_in x n) : x.toNatClampNeg < n := by
  unfold vp_in at h
  rcases Nat.lt_or_ge x.toNatClampNeg n with q | q
  · exact q
  · exact absurd (Or.inr q) h
theorem q_kd_te {t : Nat} {x : Int32} (h : q_kd t = 30) (hx : vp_in x 6) : q_kd (t + 1 + 3 * x.toNatClampNeg) = 7 := q_kd_te' t (q_kd_lt h (by decide)) h _ (q_vi hx)
theorem q_kd_ro' : ∀ i, i < 8 → q_kd (60 + 20 * i) = 6 := by decide +kernel
theorem q_kd_ro {x : Int32} (hx : vp_in x 8) : q_kd (60 + 20 * x.toNatClampNeg) = 6 := q_kd_ro' _ (q_vi hx)
theorem q_len7 {t : Nat} (h : q_kd t = 7) : q_len (t + 1) = 4 ∧ q_len (t + 2) = 4 := by
  have := q_kd_lt h (by decide)
  revert h
  revert t
  decide +kernel
set_option maxRecDepth 100000 in
theorem q_mx1 : Cond.static Lib.Math.max.name ∈ q_W := q_t3 132 rfl rfl
set_option maxRecDepth 100000 in
theorem q_mx2 : Cond.code Lib.Math.max.name Lib.Math.max.code 2 (some .int) ∈ q_W := q_t3 133 rfl rfl
set_option maxRecDepth 100000 in
theorem q_mn1 : Cond.static Lib.Math.min.name ∈ q_W := q_t2 227 rfl rfl
set_option maxRecDepth 100000 in
theorem q_mn2 : Cond.code Lib.Math.min.name Lib.Math.min.code 2 (some .int) ∈ q_W := q_t2 228 rfl rfl
set_option maxRecDepth 100000 in
theorem lk_X8_417 : Cond.methodLink RX8 417 Lib.Math.max.name ∈ q_W := q_t3 131 rfl rfl
set_option maxRecDepth 100000 in
theorem lk_X2_29 : Cond.methodLink RX2 29 Lib.Math.min.name ∈ q_W := q_t2 226 rfl rfl
set_option maxRecDepth 100000 in
theorem lk_X3_65 : Cond.methodLink RX3 65 Lib.Math.max.name ∈ q_W := q_t6 144 rfl rfl
set_option maxRecDepth 100000 in
theorem lk_X6_92 : Cond.methodLink RX6 92 Lib.Math.min.name ∈ q_W := q_t3 134 rfl rfl
theorem nl_X4_88 : Cond.methodLinkNest RX4 88 yX8_isLeg "QuillRelay" ∈ q_NW := List.mem_of_getElem? (i := 1) rfl
theorem nl_X4_106 : Cond.methodLinkNest RX4 106 yX8_isKind "QuillRelay" ∈ q_NW := List.mem_of_getElem? (i := 5) rfl
theorem nl_X6_34 : Cond.methodLinkNest RX6 34 yX8_copyRow "QuillRelay" ∈ q_NW := List.mem_of_getElem? (i := 0) rfl
theorem nl_X6_66 : Cond.methodLinkNest RX6 66 yX8_at "QuillRelay" ∈ q_NW := List.mem_of_getElem? (i := 2) rfl
theorem nl_X6_70 : Cond.methodLinkNest RX6 70 yX8_put "QuillRelay" ∈ q_NW := List.mem_of_getElem? (i := 3) rfl
theorem nl_X6_88 : Cond.methodLinkNest RX6 88 yX8_pace "QuillRelay" ∈ q_NW := List.mem_of_getElem? (i := 4) rfl
section q13
variable {α β : Nat → Nat} {D : va_G} {κ : Nat → ClassId} {p : Program} {l : Launch} {e : Env} {R : Room} {s : State} {m : MethodId} {args : Array Value} {below : List Frame} {meth : Method} {c : Code} {cc : ByteArray} {own : String} {F : Nat → Option (Nat × Nat)} {G : Nat → Option Int32} {nL : Nat} {A : Nat → Prop} {Q : State → Prop} {n1 n2 : Nat}
theorem q_mmax (C : q_Cx α β D κ p s m args meth c cc own F G nL A) {idx pc : Nat} {σ : q_M} {lv : q_Lv} {rest : List Value} {x y : Int32} (hlnk : Cond.methodLink own idx Lib.Math.max.name ∈ q_W) (hd : decode cc pc = .ok (.invokestatic idx, 3)) (hrest : (rest.map fun v => v.category).sum ≤ 8) (hR : 1 ≤ R.frames ∧ 21 ≤ R.locals) (hcs : n1 ≤ R.cells ∧ n2 ≤ R.slots) (kk : q_St α β D κ p l e R s m args below meth c nL A Q (n1) (n2) σ lv (pc + 3) (.int (q_max x y) :: rest)) : q_St α β D κ p l e R s m args below meth c nL A Q (n1) (n2) σ lv pc (.int y :: .int x :: rest) := by
  obtain ⟨hx, hb, hml, hown, hts, hK, hE, hA, hlk, hF, hG⟩ := C
  intro Y H locs ls hY hP hD hS hl
  exact va_mmax hx hb (hml.trans hl.1.symm) hown (hts _ hlnk) (hts _ q_mx1) (hts _ q_init_java_lang_Math) (hts _ q_mx2) hR.1 (Nat.le_trans (Nat.add_le_add_right (q_sum_cat hrest) _) hR.2) hcs.1 hcs.2 hd (kk Y H locs ls hY hP hD hS hl)
theorem q_mmin (C : q_Cx α β D κ p s m args meth c cc own F G nL A) {idx pc : Nat} {σ : q_M} {lv : q_Lv} {rest : List Value} {x y : Int32} (hlnk : Cond.methodLink own idx Lib.Math.min.name ∈ q_W) (hd : decode cc pc = .ok (.invokestatic idx, 3)) (hrest : (rest.map fun v => v.category).sum ≤ 8) (hR : 1 ≤ R.frames ∧ 21 ≤ R.locals) (hcs : n1 ≤ R.cells ∧ n2 ≤ R.slots) (kk : q_St α β D κ p l e R s m args below meth c nL A Q (n1) (n2) σ lv (pc + 3) (.int (q_min x y) :: rest)) : q_St α β D κ p l e R s m args below meth c nL A Q (n1) (n2) σ lv pc (.int y :: .int x :: rest) := by
  obtain ⟨hx, hb, hml, hown, hts, hK, hE, hA, hlk, hF, hG⟩ := C
  intro Y H locs ls hY hP hD hS hl
  exact va_mmin hx hb (hml.trans hl.1.symm) hown (hts _ hlnk) (hts _ q_mn1) (hts _ q_init_java_lang_Math) (hts _ q_mn2) hR.1 (Nat.le_trans (Nat.add_le_add_right (q_sum_cat hrest) _) hR.2) hcs.1 hcs.2 hd (kk Y H locs ls hY hP hD hS hl)
theorem q_lvpick (ks : List Nat) {lv lv' : q_Lv} {σ : q_M} {pc : Nat} {st : List Value} (h : lv_pick lv ks = lv') (kk : q_St α β D κ p l e R s m args below meth c nL A Q (n1) (n2) σ lv' pc st) : q_St α β D κ p l e R s m args below meth c nL A Q (n1) (n2) σ lv pc st := by
  refine q_lvsub (fun q hq => ?_) kk
  rw [← h] at hq
  obtain ⟨k, -, hk⟩ := List.mem_filterMap.mp hq
  exact List.mem_of_getElem? hk
theorem q_nrm {σ : q_M} {lv : q_Lv} {pc : Nat} {st : List Value} (pc1 : Nat) (st1 : List Value) (k1 k2 : Nat) (hp : pc = pc1) (hs : st = st1) (h1 : n1 = k1) (h2 : n2 = k2) (kk : q_St α β D κ p l e R s m args below meth c nL A Q k1 k2 σ lv pc1 st1) : q_St α β D κ p l e R s m args below meth c nL A Q (n1) (n2) σ lv pc st := by
  subst hp
  subst hs
  subst h1
  subst h2
  exact kk
theorem q_mrg {σ : q_M} {lv : q_Lv} {pc : Nat} {st : List Value} (v : Int32) (M : Nat) (σ1 : q_M) (lv1 : q_Lv) (st1 : List Value) (kk : ∀ x : Int32, v = x → q_St α β D κ p l e R s m args below meth c nL A Q (n1) (n2) σ1 lv1 M (.int x :: st1)) (h : q_St α β D κ p l e R s m args below meth c nL A Q (n1) (n2) σ1 lv1 M (.int v :: st1) → q_St α β D κ p l e R s m args below meth c nL A Q (n1) (n2) σ lv pc st) : q_St α β D κ p l e R s m args below meth c nL A Q (n1) (n2) σ lv pc st := h (kk v rfl)
end q13
end
section
/-! The model, method by method. -/
def F_X9_isIn (v : Int32) (a : Int32) (b : Int32) (σ : q_M) : Int32 := (if v < a then 0 else (if b < v then 0 else 1))
set_option maxRecDepth 100000 in
theorem k_X9_isIn {α β : Nat → Nat} {D : va_G} {κ : Nat → ClassId} (v : Int32) (a : Int32) (b : Int32) (σ : q_M) : q_C α β D κ yX9_isIn cX9_isIn 3 (Option.some Jvm.ClassFile.FieldType.boolean) 0 0 0 0 [.int v, .int a, .int b] σ (q_oi (F_X9_isIn v a b σ)) σ := by
  refine q_enter (own := RX9) (F := F_X9) (G := G_X9) (by decide +kernel) rfl Fok_X9 Gok_X9 (Nat.le_of_ble_eq_true rfl) (fun p l e s m args below meth c A hfl C hr hT => ?_)
  generalize hF : F_X9_isIn v a b σ = r
  unfold F_X9_isIn at hF
  refine q_go C tk_X9_isIn [(0, 2)] [] (pc1 := 2) (σ1 := σ) (lv1 := [(0, .int v), (1, .int a), (2, .int b)]) (st1 := [.int a, .int v]) rfl trivial ?_
  by_cases c1 : v < a
  · rw [if_pos c1] at hF
    refine q_go C tk_X9_isIn [(2, 1), (8, 1)] [true] (pc1 := 15) (σ1 := σ) (lv1 := [(0, .int v), (1, .int a), (2, .int b)]) (st1 := [.int 0]) rfl ⟨c1, trivial⟩ ?_
    exact q_zret C hr (q_dc (z := (15, .ireturn, 1, 0, 0)) tk_X9_isIn 9 rfl) (by decide +kernel) rfl (congrArg q_oi hF.symm) (Nat.le_of_ble_eq_true rfl) (Nat.le_of_ble_eq_true rfl)
  · rw [if_neg c1] at hF
    refine q_go C tk_X9_isIn [(2, 3)] [false] (pc1 := 7) (σ1 := σ) (lv1 := [(0, .int v), (1, .int a), (2, .int b)]) (st1 := [.int b, .int v]) rfl ⟨c1, trivial⟩ ?_
    by_cases c2 : b < v
    · rw [if_pos c2] at hF
      refine q_go C tk_X9_isIn [(5, 1), (8, 1)] [true] (pc1 := 15) (σ1 := σ) (lv1 := [(0, .int v), (1, .int a), (2, .int b)]) (st1 := [.int 0]) rfl ⟨c2, trivial⟩ ?_
      exact q_zret C hr (q_dc (z := (15, .ireturn, 1, 0, 0)) tk_X9_isIn 9 rfl) (by decide +kernel) rfl (congrArg q_oi hF.symm) (Nat.le_of_ble_eq_true rfl) (Nat.le_of_ble_eq_true rfl)
    · rw [if_neg c2] at hF
      refine q_go C tk_X9_isIn [(5, 3)] [false] (pc1 := 15) (σ1 := σ) (lv1 := [(0, .int v), (1, .int a), (2, .int b)]) (st1 := [.int 1]) rfl ⟨c2, trivial⟩ ?_
      exact q_zret C hr (q_dc (z := (15, .ireturn, 1, 0, 0)) tk_X9_isIn 9 rfl) (by decide +kernel) rfl (congrArg q_oi hF.symm) (Nat.le_of_ble_eq_true rfl) (Nat.le_of_ble_eq_true rfl)
theorem z_X9_isIn {v : Int32} {a : Int32} {b : Int32} {σ : q_M} : (F_X9_isIn v a b σ) = 0 ∨ (F_X9_isIn v a b σ) = 1 := by
  unfold F_X9_isIn
  try simp only [q_L]
  repeat' split
  all_goals first | exact Or.inl rfl | exact Or.inr rfl | exact rfl
def F_X9_isThrown (b : Int32) (n : Int32) (σ : q_M) : (Int32) × q_M := (q_L (if b = 0 then 0 else n) (fun x2 : Int32 => (b, (q_up σ 229 5 x2))))
set_option maxRecDepth 100000 in
theorem k_X9_isThrown {α β : Nat → Nat} {D : va_G} {κ : Nat → ClassId} (b : Int32) (n : Int32) (σ : q_M) (h_b : b = 0 ∨ b = 1) : q_C α β D κ yX9_isThrown cX9_isThrown 3 (Option.some Jvm.ClassFile.FieldType.boolean) 0 0 0 0 [.ref 229, .int b, .int n] σ (q_oi (F_X9_isThrown b n σ).1) (F_X9_isThrown b n σ).2 := by
  refine q_enter (own := RX9) (F := F_X9) (G := G_X9) (by decide +kernel) rfl Fok_X9 Gok_X9 (Nat.le_of_ble_eq_true rfl) (fun p l e s m args below meth c A hfl C hr hT => ?_)
  generalize hF : F_X9_isThrown b n σ = r
  unfold F_X9_isThrown at hF
  refine q_go C tk_X9_isThrown [(0, 2)] [] (pc1 := 2) (σ1 := σ) (lv1 := [(0, .ref 229), (1, .int b), (2, .int n)]) (st1 := [.int b, .ref 229]) rfl trivial ?_
  refine q_mrg (v := (if b = 0 then 0 else n)) (M := 10) (σ1 := σ) (lv1 := [(0, .ref 229), (1, .int b), (2, .int n)]) (st1 := [.ref 229]) (fun x2 e3 => ?_) (fun K => ?_)
  · replace hF := q_let e3 hF
    refine q_go C tk_X9_isThrown [(6, 2)] [] (pc1 := 14) (σ1 := (q_up σ 229 5 x2)) (lv1 := [(0, .ref 229), (1, .int b), (2, .int n)]) (st1 := [.int b]) rfl ⟨rfl, trivial⟩ ?_
    exact q_zret C hr (q_dc (z := (14, .ireturn, 1, 0, 0)) tk_X9_isThrown 8 rfl) (q_zb h_b).1 (congrArg Prod.snd hF) (congrArg (fun z => q_oi z.1) hF.symm) (Nat.le_of_ble_eq_true rfl) (Nat.le_of_ble_eq_true rfl)
  · clear hF
    by_cases c1 : b = 0
    · skip
      refine q_go C tk_X9_isThrown [(2, 1), (5, 1)] [true] (pc1 := 10) (σ1 := σ) (lv1 := [(0, .ref 229), (1, .int b), (2, .int n)]) (st1 := [.int 0, .ref 229]) rfl ⟨c1, trivial⟩ ?_
      rw [if_pos c1] at K; exact K
    · skip
      refine q_go C tk_X9_isThrown [(2, 3)] [false] (pc1 := 10) (σ1 := σ) (lv1 := [(0, .ref 229), (1, .int b), (2, .int n)]) (st1 := [.int n, .ref 229]) rfl ⟨c1, trivial⟩ ?_
      rw [if_neg c1] at K; exact K
theorem z_X9_isThrown {b : Int32} {n : Int32} {σ : q_M} (h_b : b = 0 ∨ b = 1) : (F_X9_isThrown b n σ).1 = 0 ∨ (F_X9_isThrown b n σ).1 = 1 := by
  unfold F_X9_isThrown
  try simp only [q_L]
  repeat' split
  all_goals first | exact Or.inl rfl | exact Or.inr rfl | exact rfl | exact h_b
theorem k_X9_isThrownZ {α β : Nat → Nat} {D : va_G} {κ : Nat → ClassId} (b : Int32) (n : Int32) (σ : q_M) (h : b = 0) : q_C α β D κ yX9_isThrown cX9_isThrown 3 (Option.some Jvm.ClassFile.FieldType.boolean) 0 0 0 0 [.ref 229, .int b, .int n] σ (q_oi b) (q_up σ 229 5 0) := by
  have k := k_X9_isThrown (α := α) (β := β) (D := D) (κ := κ) b n σ (Or.inl h)
  simp only [F_X9_isThrown, if_pos h] at k
  exact k
theorem k_X9_isThrownN {α β : Nat → Nat} {D : va_G} {κ : Nat → ClassId} (b : Int32) (n : Int32) (σ : q_M) (h : ¬ b = 0) (hb : b = 0 ∨ b = 1) : q_C α β D κ yX9_isThrown cX9_isThrown 3 (Option.some Jvm.ClassFile.FieldType.boolean) 0 0 0 0 [.ref 229, .int b, .int n] σ (q_oi b) (q_up σ 229 5 n) := by
  have k := k_X9_isThrown (α := α) (β := β) (D := D) (κ := κ) b n σ hb
  simp only [F_X9_isThrown, if_neg h] at k
  exact k
def F_X9_of (t : Int32) (w : Int32) (σ : q_M) : Int32 := (σ 230 (((4 + (19 * t)) + w)).toNatClampNeg)
def P_X9_of (t : Int32) (w : Int32) (σ : q_M) : Prop := (vp_in ((4 + (19 * t)) + w) (q_len 230) ∧ True)
set_option maxRecDepth 100000 in
theorem k_X9_of {α β : Nat → Nat} {D : va_G} {κ : Nat → ClassId} (t : Int32) (w : Int32) (σ : q_M) (hP : P_X9_of t w σ) : q_C α β D κ yX9_of cX9_of 3 (Option.some Jvm.ClassFile.FieldType.int) 0 0 0 0 [.ref 229, .int t, .int w] σ (q_oi (F_X9_of t w σ)) σ := by
  refine q_enter (own := RX9) (F := F_X9) (G := G_X9) (by decide +kernel) rfl Fok_X9 Gok_X9 (Nat.le_of_ble_eq_true rfl) (fun p l e s m args below meth c A hfl C hr hT => ?_)
  generalize hF : F_X9_of t w σ = r
  unfold F_X9_of at hF
  refine q_go C tk_X9_of [(0, 10)] [] (pc1 := 13) (σ1 := σ) (lv1 := [(0, .ref 229), (1, .int t), (2, .int w)]) (st1 := [.int (σ 230 (((4 + (19 * t)) + w)).toNatClampNeg)]) rfl ⟨rfl, rfl, hP.1, trivial⟩ ?_
  exact q_iret C hr (q_dc (z := (13, .ireturn, 1, 0, 0)) tk_X9_of 10 rfl) rfl (congrArg q_oi hF.symm) (Nat.le_of_ble_eq_true rfl) (Nat.le_of_ble_eq_true rfl)
def F_X9_sets (t : Int32) (w : Int32) (v : Int32) (σ : q_M) : q_M := (q_up σ 230 (((4 + (19 * t)) + w)).toNatClampNeg v)
def P_X9_sets (t : Int32) (w : Int32) (v : Int32) (σ : q_M) : Prop := (vp_in ((4 + (19 * t)) + w) (q_len 230) ∧ True)
set_option maxRecDepth 100000 in
theorem k_X9_sets {α β : Nat → Nat} {D : va_G} {κ : Nat → ClassId} (t : Int32) (w : Int32) (v : Int32) (σ : q_M) (hP : P_X9_sets t w v σ) : q_C α β D κ yX9_sets cX9_sets 4 (Option.none : Option Jvm.ClassFile.FieldType) 0 0 0 0 [.ref 229, .int t, .int w, .int v] σ q_ov (F_X9_sets t w v σ) := by
  refine q_enter (own := RX9) (F := F_X9) (G := G_X9) (by decide +kernel) rfl Fok_X9 Gok_X9 (Nat.le_of_ble_eq_true rfl) (fun p l e s m args below meth c A hfl C hr hT => ?_)
  generalize hF : F_X9_sets t w v σ = r
  unfold F_X9_sets at hF
  refine q_go C tk_X9_sets [(0, 11)] [] (pc1 := 14) (σ1 := (q_up σ 230 (((4 + (19 * t)) + w)).toNatClampNeg v)) (lv1 := [(0, .ref 229), (1, .int t), (2, .int w), (3, .int v)]) (st1 := []) rfl ⟨rfl, rfl, hP.1, trivial⟩ ?_
  exact q_vret C hr (q_dc (z := (14, .return_, 1, 0, 0)) tk_X9_sets 11 rfl) hF rfl (Nat.le_of_ble_eq_true rfl) (Nat.le_of_ble_eq_true rfl)
def F_X9_isTeam (t : Int32) (σ : q_M) : Int32 := (F_X9_isIn t 0 ((σ 230 3) - 1) σ)
set_option maxRecDepth 100000 in
theorem k_X9_isTeam {α β : Nat → Nat} {D : va_G} {κ : Nat → ClassId} (t : Int32) (σ : q_M) : q_C α β D κ yX9_isTeam cX9_isTeam 2 (Option.some Jvm.ClassFile.FieldType.boolean) 1 22 0 0 [.ref 229, .int t] σ (q_oi (F_X9_isTeam t σ)) σ := by
  refine q_enter (own := RX9) (F := F_X9) (G := G_X9) (by decide +kernel) rfl Fok_X9 Gok_X9 (Nat.le_of_ble_eq_true rfl) (fun p l e s m args below meth c A hfl C hr hT => ?_)
  generalize hF : F_X9_isTeam t σ = r
  unfold F_X9_isTeam at hF
  refine q_go C tk_X9_isTeam [(0, 8)] [] (pc1 := 10) (σ1 := σ) (lv1 := [(0, .ref 229), (1, .int t)]) (st1 := [.int ((σ 230 3) - 1), .int 0, .int t]) rfl ⟨rfl, rfl, (by unfold vp_in; decide +kernel), trivial⟩ ?_
  refine q_callS C hfl mw_X9_isIn ms_X9_isIn lk_X9_48 (k_X9_isIn t 0 ((σ 230 3) - 1) σ) (rest := []) rfl rfl (q_dc (z := (10, .invokestatic 48, 3, 0, 0)) tk_X9_isTeam 8 rfl) (Nat.le_of_ble_eq_true rfl) ⟨Nat.le_of_ble_eq_true rfl, Nat.le_of_ble_eq_true rfl⟩ ⟨Nat.le_of_ble_eq_true rfl, Nat.le_of_ble_eq_true rfl⟩ ?_
  refine q_nrm 13 [.int (F_X9_isIn t 0 ((σ 230 3) - 1) σ)] 0 0 rfl rfl rfl rfl ?_
  exact q_zret C hr (q_dc (z := (13, .ireturn, 1, 0, 0)) tk_X9_isTeam 9 rfl) (q_zb (z_X9_isIn)).1 rfl (congrArg q_oi hF.symm) (Nat.le_of_ble_eq_true rfl) (Nat.le_of_ble_eq_true rfl)
theorem z_X9_isTeam {t : Int32} {σ : q_M} : (F_X9_isTeam t σ) = 0 ∨ (F_X9_isTeam t σ) = 1 := by
  unfold F_X9_isTeam
  try simp only [q_L]
  repeat' split
  all_goals first | exact Or.inl rfl | exact Or.inr rfl | exact z_X9_isIn
def F_X9_isLeg (g : Int32) (σ : q_M) : Int32 := (F_X9_isIn g 0 3 σ)
set_option maxRecDepth 100000 in
theorem k_X9_isLeg {α β : Nat → Nat} {D : va_G} {κ : Nat → ClassId} (g : Int32) (σ : q_M) : q_C α β D κ yX9_isLeg cX9_isLeg 1 (Option.some Jvm.ClassFile.FieldType.boolean) 1 22 0 0 [.int g] σ (q_oi (F_X9_isLeg g σ)) σ := by
  refine q_enter (own := RX9) (F := F_X9) (G := G_X9) (by decide +kernel) rfl Fok_X9 Gok_X9 (Nat.le_of_ble_eq_true rfl) (fun p l e s m args below meth c A hfl C hr hT => ?_)
  generalize hF : F_X9_isLeg g σ = r
  unfold F_X9_isLeg at hF
  refine q_go C tk_X9_isLeg [(0, 3)] [] (pc1 := 3) (σ1 := σ) (lv1 := [(0, .int g)]) (st1 := [.int 3, .int 0, .int g]) rfl trivial ?_
  refine q_callS C hfl mw_X9_isIn ms_X9_isIn lk_X9_48 (k_X9_isIn g 0 3 σ) (rest := []) rfl rfl (q_dc (z := (3, .invokestatic 48, 3, 0, 0)) tk_X9_isLeg 3 rfl) (Nat.le_of_ble_eq_true rfl) ⟨Nat.le_of_ble_eq_true rfl, Nat.le_of_ble_eq_true rfl⟩ ⟨Nat.le_of_ble_eq_true rfl, Nat.le_of_ble_eq_true rfl⟩ ?_
  refine q_nrm 6 [.int (F_X9_isIn g 0 3 σ)] 0 0 rfl rfl rfl rfl ?_
  exact q_zret C hr (q_dc (z := (6, .ireturn, 1, 0, 0)) tk_X9_isLeg 4 rfl) (q_zb (z_X9_isIn)).1 rfl (congrArg q_oi hF.symm) (Nat.le_of_ble_eq_true rfl) (Nat.le_of_ble_eq_true rfl)
theorem z_X9_isLeg {g : Int32} {σ : q_M} : (F_X9_isLeg g σ) = 0 ∨ (F_X9_isLeg g σ) = 1 := by
  unfold F_X9_isLeg
  try simp only [q_L]
  repeat' split
  all_goals first | exact Or.inl rfl | exact Or.inr rfl | exact z_X9_isIn
def F_X9_isUnprepared (σ : q_M) : Int32 := (if (σ 230 1) = 1 then 1 else 0)
set_option maxRecDepth 100000 in
theorem k_X9_isUnprepared {α β : Nat → Nat} {D : va_G} {κ : Nat → ClassId} (σ : q_M) : q_C α β D κ yX9_isUnprepared cX9_isUnprepared 1 (Option.some Jvm.ClassFile.FieldType.boolean) 0 0 0 0 [.ref 229] σ (q_oi (F_X9_isUnprepared σ)) σ := by
  refine q_enter (own := RX9) (F := F_X9) (G := G_X9) (by decide +kernel) rfl Fok_X9 Gok_X9 (Nat.le_of_ble_eq_true rfl) (fun p l e s m args below meth c A hfl C hr hT => ?_)
  generalize hF : F_X9_isUnprepared σ = r
  unfold F_X9_isUnprepared at hF
  refine q_go C tk_X9_isUnprepared [(0, 5)] [] (pc1 := 7) (σ1 := σ) (lv1 := [(0, .ref 229)]) (st1 := [.int 1, .int (σ 230 1)]) rfl ⟨rfl, rfl, (by unfold vp_in; decide +kernel), trivial⟩ ?_
  by_cases c1 : (σ 230 1) = 1
  · rw [if_pos c1] at hF
    refine q_go C tk_X9_isUnprepared [(5, 3)] [false] (pc1 := 15) (σ1 := σ) (lv1 := [(0, .ref 229)]) (st1 := [.int 1]) rfl ⟨c1, trivial⟩ ?_
    exact q_zret C hr (q_dc (z := (15, .ireturn, 1, 0, 0)) tk_X9_isUnprepared 9 rfl) (by decide +kernel) rfl (congrArg q_oi hF.symm) (Nat.le_of_ble_eq_true rfl) (Nat.le_of_ble_eq_true rfl)
  · rw [if_neg c1] at hF
    refine q_go C tk_X9_isUnprepared [(5, 1), (8, 1)] [true] (pc1 := 15) (σ1 := σ) (lv1 := [(0, .ref 229)]) (st1 := [.int 0]) rfl ⟨c1, trivial⟩ ?_
    exact q_zret C hr (q_dc (z := (15, .ireturn, 1, 0, 0)) tk_X9_isUnprepared 9 rfl) (by decide +kernel) rfl (congrArg q_oi hF.symm) (Nat.le_of_ble_eq_true rfl) (Nat.le_of_ble_eq_true rfl)
theorem z_X9_isUnprepared {σ : q_M} : (F_X9_isUnprepared σ) = 0 ∨ (F_X9_isUnprepared σ) = 1 := by
  unfold F_X9_isUnprepared
  try simp only [q_L]
  repeat' split
  all_goals first | exact Or.inl rfl | exact Or.inr rfl | exact rfl
def F_X9_step (v : Int32) (n : Int32) (σ : q_M) : Int32 := (q_L (v - (n / 10)) (fun x1 : Int32 => (if x1 < 10 then 10 else x1)))
set_option maxRecDepth 100000 in
theorem k_X9_step {α β : Nat → Nat} {D : va_G} {κ : Nat → ClassId} (v : Int32) (n : Int32) (σ : q_M) : q_C α β D κ yX9_step cX9_step 3 (Option.some Jvm.ClassFile.FieldType.int) 0 0 0 0 [.int v, .int n] σ (q_oi (F_X9_step v n σ)) σ := by
  refine q_enter (own := RX9) (F := F_X9) (G := G_X9) (by decide +kernel) rfl Fok_X9 Gok_X9 (Nat.le_of_ble_eq_true rfl) (fun p l e s m args below meth c A hfl C hr hT => ?_)
  generalize hF : F_X9_step v n σ = r
  unfold F_X9_step at hF
  refine q_go C tk_X9_step [(0, 5)] [] (pc1 := 6) (σ1 := σ) (lv1 := [(0, .int v), (1, .int n)]) (st1 := [.int (v - (n / 10))]) rfl ⟨(by decide), trivial⟩ ?_
  generalize e2 : (v - (n / 10)) = x1
  replace hF := q_let e2 hF
  refine q_go C tk_X9_step [(5, 3)] [] (pc1 := 10) (σ1 := σ) (lv1 := [(2, .int x1), (0, .int v), (1, .int n)]) (st1 := [.int 10, .int x1]) rfl trivial ?_
  by_cases c3 : x1 < 10
  · rw [if_pos c3] at hF
    refine q_go C tk_X9_step [(8, 3)] [false] (pc1 := 19) (σ1 := σ) (lv1 := [(2, .int x1), (0, .int v), (1, .int n)]) (st1 := [.int 10]) rfl ⟨c3, trivial⟩ ?_
    exact q_iret C hr (q_dc (z := (19, .ireturn, 1, 0, 0)) tk_X9_step 12 rfl) rfl (congrArg q_oi hF.symm) (Nat.le_of_ble_eq_true rfl) (Nat.le_of_ble_eq_true rfl)
  · rw [if_neg c3] at hF
    refine q_go C tk_X9_step [(8, 1), (11, 1)] [true] (pc1 := 19) (σ1 := σ) (lv1 := [(2, .int x1), (0, .int v), (1, .int n)]) (st1 := [.int x1]) rfl ⟨c3, trivial⟩ ?_
    exact q_iret C hr (q_dc (z := (19, .ireturn, 1, 0, 0)) tk_X9_step 12 rfl) rfl (congrArg q_oi hF.symm) (Nat.le_of_ble_eq_true rfl) (Nat.le_of_ble_eq_true rfl)
def F_X9_endOf (g : Int32) (σ : q_M) : Int32 := ((g + 1) * (σ 230 0))
set_option maxRecDepth 100000 in
theorem k_X9_endOf {α β : Nat → Nat} {D : va_G} {κ : Nat → ClassId} (g : Int32) (σ : q_M) : q_C α β D κ yX9_endOf cX9_endOf 2 (Option.some Jvm.ClassFile.FieldType.int) 0 0 0 0 [.ref 229, .int g] σ (q_oi (F_X9_endOf g σ)) σ := by
  refine q_enter (own := RX9) (F := F_X9) (G := G_X9) (by decide +kernel) rfl Fok_X9 Gok_X9 (Nat.le_of_ble_eq_true rfl) (fun p l e s m args below meth c A hfl C hr hT => ?_)
  generalize hF : F_X9_endOf g σ = r
  unfold F_X9_endOf at hF
  refine q_go C tk_X9_endOf [(0, 8)] [] (pc1 := 10) (σ1 := σ) (lv1 := [(0, .ref 229), (1, .int g)]) (st1 := [.int ((g + 1) * (σ 230 0))]) rfl ⟨rfl, rfl, (by unfold vp_in; decide +kernel), trivial⟩ ?_
  exact q_iret C hr (q_dc (z := (10, .ireturn, 1, 0, 0)) tk_X9_endOf 8 rfl) rfl (congrArg q_oi hF.symm) (Nat.le_of_ble_eq_true rfl) (Nat.le_of_ble_eq_true rfl)
def F_X9_speeds (t : Int32) (g : Int32) (v : Int32) (σ : q_M) : (Int32) × q_M := (if (F_X9_isTeam t σ) = 0 then (0, (q_up σ 229 5 1)) else (if (F_X9_isLeg g σ) = 0 then (0, (q_up σ 229 5 1)) else (q_L (q_up σ 229 5 0) (fun σ3 : q_M => (if (F_X9_isIn v 20 99 σ3) = 0 then (0, (q_up σ3 229 5 2)) else (q_L (q_up σ3 229 5 0) (fun σ6 : q_M => (if (F_X9_isUnprepared σ6) = 0 then (q_L (q_up σ6 229 5 0) (fun σ9 : q_M => (q_L (F_X9_of t (0 + g) σ9) (fun x11 : Int32 => (q_L (F_X9_sets t (0 + g) v σ9) (fun σ13 : q_M => (x11, σ13))))))) else (0, (q_up σ6 229 5 3))))))))))
def P_X9_speeds (t : Int32) (g : Int32) (v : Int32) (σ : q_M) : Prop := (((F_X9_isTeam t σ) = 0 → True) ∧ (¬ (F_X9_isTeam t σ) = 0 → (((F_X9_isLeg g σ) = 0 → True) ∧ (¬ (F_X9_isLeg g σ) = 0 → (∀ σ3 : q_M, (q_up σ 229 5 0) = σ3 → (((F_X9_isIn v 20 99 σ3) = 0 → True) ∧ (¬ (F_X9_isIn v 20 99 σ3) = 0 → (∀ σ6 : q_M, (q_up σ3 229 5 0) = σ6 → (((F_X9_isUnprepared σ6) = 0 → (∀ σ9 : q_M, (q_up σ6 229 5 0) = σ9 → ((P_X9_of t (0 + g) σ9) ∧ (∀ x11 : Int32, (F_X9_of t (0 + g) σ9) = x11 → ((P_X9_sets t (0 + g) v σ9) ∧ True))))) ∧ (¬ (F_X9_isUnprepared σ6) = 0 → True))))))))))
set_option maxRecDepth 100000 in
theorem k_X9_speeds {α β : Nat → Nat} {D : va_G} {κ : Nat → ClassId} (t : Int32) (g : Int32) (v : Int32) (σ : q_M) (hP : P_X9_speeds t g v σ) : q_C α β D κ yX9_speeds cX9_speeds 5 (Option.some Jvm.ClassFile.FieldType.int) 2 43 0 0 [.ref 229, .int t, .int g, .int v] σ (q_oi (F_X9_speeds t g v σ).1) (F_X9_speeds t g v σ).2 := by
  refine q_enter (own := RX9) (F := F_X9) (G := G_X9) (by decide +kernel) rfl Fok_X9 Gok_X9 (Nat.le_of_ble_eq_true rfl) (fun p l e s m args below meth c A hfl C hr hT => ?_)
  generalize hF : F_X9_speeds t g v σ = r
  unfold F_X9_speeds at hF
  refine q_go C tk_X9_speeds [(0, 3)] [] (pc1 := 3) (σ1 := σ) (lv1 := [(0, .ref 229), (1, .int t), (2, .int g), (3, .int v)]) (st1 := [.int t, .ref 229, .ref 229]) rfl trivial ?_
  refine q_callV C hfl mw_X9_isTeam mi_X9_isTeam me_X9_isTeam lk_X9_75 (k_X9_isTeam t σ) (rest := [.ref 229]) rfl rfl rfl (by decide) (by decide) rfl (q_dc (z := (3, .invokevirtual 75, 3, 0, 0)) tk_X9_speeds 3 rfl) (Nat.le_of_ble_eq_true rfl) ⟨Nat.le_of_ble_eq_true rfl, Nat.le_of_ble_eq_true rfl⟩ ⟨Nat.le_of_ble_eq_true rfl, Nat.le_of_ble_eq_true rfl⟩ ?_
  refine q_nrm 6 [.int (F_X9_isTeam t σ), .ref 229] 0 0 rfl rfl rfl rfl ?_
  by_cases c1 : (F_X9_isTeam t σ) = 0
  · rw [if_pos c1] at hF
    refine q_go C tk_X9_speeds [(4, 1), (8, 2), (11, 1)] [true] (pc1 := 22) (σ1 := σ) (lv1 := [(0, .ref 229), (1, .int t), (2, .int g), (3, .int v)]) (st1 := [.int 1, .int 1, .ref 229]) rfl ⟨c1, trivial⟩ ?_
    refine q_callV C hfl mw_X9_isThrown mi_X9_isThrown me_X9_isThrown lk_X9_63 (k_X9_isThrownN 1 1 σ (by decide) (by decide)) (rest := []) rfl rfl rfl (by decide) (by decide) rfl (q_dc (z := (22, .invokevirtual 63, 3, 0, 0)) tk_X9_speeds 12 rfl) (Nat.le_of_ble_eq_true rfl) ⟨Nat.le_of_ble_eq_true rfl, Nat.le_of_ble_eq_true rfl⟩ ⟨Nat.le_of_ble_eq_true rfl, Nat.le_of_ble_eq_true rfl⟩ ?_
    refine q_nrm 25 [.int 1] 0 0 rfl rfl rfl rfl ?_
    refine q_go C tk_X9_speeds [(13, 1), (32, 1)] [true] (pc1 := 65) (σ1 := (q_up σ 229 5 1)) (lv1 := [(0, .ref 229), (1, .int t), (2, .int g), (3, .int v)]) (st1 := [.int 0]) rfl ⟨(by decide : ¬ (1 : Int32) = 0), trivial⟩ ?_
    exact q_iret C hr (q_dc (z := (65, .ireturn, 1, 0, 0)) tk_X9_speeds 33 rfl) (congrArg Prod.snd hF) (congrArg (fun z => q_oi z.1) hF.symm) (Nat.le_of_ble_eq_true rfl) (Nat.le_of_ble_eq_true rfl)
  · rw [if_neg c1] at hF
    refine q_go C tk_X9_speeds [(4, 2)] [false] (pc1 := 10) (σ1 := σ) (lv1 := [(0, .ref 229), (1, .int t), (2, .int g), (3, .int v)]) (st1 := [.int g, .ref 229]) rfl ⟨c1, trivial⟩ ?_
    refine q_callS C hfl mw_X9_isLeg ms_X9_isLeg lk_X9_79 (k_X9_isLeg g σ) (rest := [.ref 229]) rfl rfl (q_dc (z := (10, .invokestatic 79, 3, 0, 0)) tk_X9_speeds 6 rfl) (Nat.le_of_ble_eq_true rfl) ⟨Nat.le_of_ble_eq_true rfl, Nat.le_of_ble_eq_true rfl⟩ ⟨Nat.le_of_ble_eq_true rfl, Nat.le_of_ble_eq_true rfl⟩ ?_
    refine q_nrm 13 [.int (F_X9_isLeg g σ), .ref 229] 0 0 rfl rfl rfl rfl ?_
    by_cases c2 : (F_X9_isLeg g σ) = 0
    · rw [if_pos c2] at hF
      refine q_go C tk_X9_speeds [(7, 3), (11, 1)] [false] (pc1 := 22) (σ1 := σ) (lv1 := [(0, .ref 229), (1, .int t), (2, .int g), (3, .int v)]) (st1 := [.int 1, .int 1, .ref 229]) rfl ⟨c2, trivial⟩ ?_
      refine q_callV C hfl mw_X9_isThrown mi_X9_isThrown me_X9_isThrown lk_X9_63 (k_X9_isThrownN 1 1 σ (by decide) (by decide)) (rest := []) rfl rfl rfl (by decide) (by decide) rfl (q_dc (z := (22, .invokevirtual 63, 3, 0, 0)) tk_X9_speeds 12 rfl) (Nat.le_of_ble_eq_true rfl) ⟨Nat.le_of_ble_eq_true rfl, Nat.le_of_ble_eq_true rfl⟩ ⟨Nat.le_of_ble_eq_true rfl, Nat.le_of_ble_eq_true rfl⟩ ?_
      refine q_nrm 25 [.int 1] 0 0 rfl rfl rfl rfl ?_
      refine q_go C tk_X9_speeds [(13, 1), (32, 1)] [true] (pc1 := 65) (σ1 := (q_up σ 229 5 1)) (lv1 := [(0, .ref 229), (1, .int t), (2, .int g), (3, .int v)]) (st1 := [.int 0]) rfl ⟨(by decide : ¬ (1 : Int32) = 0), trivial⟩ ?_
      exact q_iret C hr (q_dc (z := (65, .ireturn, 1, 0, 0)) tk_X9_speeds 33 rfl) (congrArg Prod.snd hF) (congrArg (fun z => q_oi z.1) hF.symm) (Nat.le_of_ble_eq_true rfl) (Nat.le_of_ble_eq_true rfl)
    · rw [if_neg c2] at hF
      refine q_go C tk_X9_speeds [(7, 1), (10, 2)] [true] (pc1 := 22) (σ1 := σ) (lv1 := [(0, .ref 229), (1, .int t), (2, .int g), (3, .int v)]) (st1 := [.int 1, .int 0, .ref 229]) rfl ⟨c2, trivial⟩ ?_
      refine q_callV C hfl mw_X9_isThrown mi_X9_isThrown me_X9_isThrown lk_X9_63 (k_X9_isThrownZ 0 1 σ (by decide)) (rest := []) rfl rfl rfl (by decide) (by decide) rfl (q_dc (z := (22, .invokevirtual 63, 3, 0, 0)) tk_X9_speeds 12 rfl) (Nat.le_of_ble_eq_true rfl) ⟨Nat.le_of_ble_eq_true rfl, Nat.le_of_ble_eq_true rfl⟩ ⟨Nat.le_of_ble_eq_true rfl, Nat.le_of_ble_eq_true rfl⟩ ?_
      refine q_nrm 25 [.int 0] 0 0 rfl rfl rfl rfl ?_
      refine q_go C tk_X9_speeds [(13, 5)] [false] (pc1 := 34) (σ1 := (q_up σ 229 5 0)) (lv1 := [(0, .ref 229), (1, .int t), (2, .int g), (3, .int v)]) (st1 := [.int 99, .int 20, .int v, .ref 229]) rfl ⟨(by decide : (0 : Int32) = 0), trivial⟩ ?_
      generalize e4 : (q_up σ 229 5 0) = σ3
      replace hF := q_let e4 hF
      refine q_callS C hfl mw_X9_isIn ms_X9_isIn lk_X9_48 (k_X9_isIn v 20 99 σ3) (rest := [.ref 229]) rfl rfl (q_dc (z := (34, .invokestatic 48, 3, 0, 0)) tk_X9_speeds 18 rfl) (Nat.le_of_ble_eq_true rfl) ⟨Nat.le_of_ble_eq_true rfl, Nat.le_of_ble_eq_true rfl⟩ ⟨Nat.le_of_ble_eq_true rfl, Nat.le_of_ble_eq_true rfl⟩ ?_
      refine q_nrm 37 [.int (F_X9_isIn v 20 99 σ3), .ref 229] 0 0 rfl rfl rfl rfl ?_
      by_cases c5 : (F_X9_isIn v 20 99 σ3) = 0
      · rw [if_pos c5] at hF
        refine q_go C tk_X9_speeds [(19, 3), (23, 1)] [false] (pc1 := 46) (σ1 := σ3) (lv1 := [(0, .ref 229), (1, .int t), (2, .int g), (3, .int v)]) (st1 := [.int 2, .int 1, .ref 229]) rfl ⟨c5, trivial⟩ ?_
        refine q_callV C hfl mw_X9_isThrown mi_X9_isThrown me_X9_isThrown lk_X9_63 (k_X9_isThrownN 1 2 σ3 (by decide) (by decide)) (rest := []) rfl rfl rfl (by decide) (by decide) rfl (q_dc (z := (46, .invokevirtual 63, 3, 0, 0)) tk_X9_speeds 24 rfl) (Nat.le_of_ble_eq_true rfl) ⟨Nat.le_of_ble_eq_true rfl, Nat.le_of_ble_eq_true rfl⟩ ⟨Nat.le_of_ble_eq_true rfl, Nat.le_of_ble_eq_true rfl⟩ ?_
        refine q_nrm 49 [.int 1] 0 0 rfl rfl rfl rfl ?_
        refine q_go C tk_X9_speeds [(25, 1), (32, 1)] [true] (pc1 := 65) (σ1 := (q_up σ3 229 5 2)) (lv1 := [(0, .ref 229), (1, .int t), (2, .int g), (3, .int v)]) (st1 := [.int 0]) rfl ⟨(by decide : ¬ (1 : Int32) = 0), trivial⟩ ?_
        exact q_iret C hr (q_dc (z := (65, .ireturn, 1, 0, 0)) tk_X9_speeds 33 rfl) (congrArg Prod.snd hF) (congrArg (fun z => q_oi z.1) hF.symm) (Nat.le_of_ble_eq_true rfl) (Nat.le_of_ble_eq_true rfl)
      · rw [if_neg c5] at hF
        refine q_go C tk_X9_speeds [(19, 1), (22, 2)] [true] (pc1 := 46) (σ1 := σ3) (lv1 := [(0, .ref 229), (1, .int t), (2, .int g), (3, .int v)]) (st1 := [.int 2, .int 0, .ref 229]) rfl ⟨c5, trivial⟩ ?_
        refine q_callV C hfl mw_X9_isThrown mi_X9_isThrown me_X9_isThrown lk_X9_63 (k_X9_isThrownZ 0 2 σ3 (by decide)) (rest := []) rfl rfl rfl (by decide) (by decide) rfl (q_dc (z := (46, .invokevirtual 63, 3, 0, 0)) tk_X9_speeds 24 rfl) (Nat.le_of_ble_eq_true rfl) ⟨Nat.le_of_ble_eq_true rfl, Nat.le_of_ble_eq_true rfl⟩ ⟨Nat.le_of_ble_eq_true rfl, Nat.le_of_ble_eq_true rfl⟩ ?_
        refine q_nrm 49 [.int 0] 0 0 rfl rfl rfl rfl ?_
        refine q_go C tk_X9_speeds [(25, 3)] [false] (pc1 := 54) (σ1 := (q_up σ3 229 5 0)) (lv1 := [(0, .ref 229), (1, .int t), (2, .int g), (3, .int v)]) (st1 := [.ref 229, .ref 229]) rfl ⟨(by decide : (0 : Int32) = 0), trivial⟩ ?_
        generalize e7 : (q_up σ3 229 5 0) = σ6
        replace hF := q_let e7 hF
        refine q_callV C hfl mw_X9_isUnprepared mi_X9_isUnprepared me_X9_isUnprepared lk_X9_59 (k_X9_isUnprepared σ6) (rest := [.ref 229]) rfl rfl rfl (by decide) (by decide) rfl (q_dc (z := (54, .invokevirtual 59, 3, 0, 0)) tk_X9_speeds 28 rfl) (Nat.le_of_ble_eq_true rfl) ⟨Nat.le_of_ble_eq_true rfl, Nat.le_of_ble_eq_true rfl⟩ ⟨Nat.le_of_ble_eq_true rfl, Nat.le_of_ble_eq_true rfl⟩ ?_
        refine q_nrm 57 [.int (F_X9_isUnprepared σ6), .ref 229] 0 0 rfl rfl rfl rfl ?_
        refine q_go C tk_X9_speeds [(29, 1)] [] (pc1 := 58) (σ1 := σ6) (lv1 := [(0, .ref 229), (1, .int t), (2, .int g), (3, .int v)]) (st1 := [.int 3, .int (F_X9_isUnprepared σ6), .ref 229]) rfl trivial ?_
        by_cases c8 : (F_X9_isUnprepared σ6) = 0
        · rw [if_pos c8] at hF
          refine q_callV C hfl mw_X9_isThrown mi_X9_isThrown me_X9_isThrown lk_X9_63 (k_X9_isThrownZ (F_X9_isUnprepared σ6) 3 σ6 c8) (rest := []) rfl rfl rfl (by decide) (by decide) rfl (q_dc (z := (58, .invokevirtual 63, 3, 0, 0)) tk_X9_speeds 30 rfl) (Nat.le_of_ble_eq_true rfl) ⟨Nat.le_of_ble_eq_true rfl, Nat.le_of_ble_eq_true rfl⟩ ⟨Nat.le_of_ble_eq_true rfl, Nat.le_of_ble_eq_true rfl⟩ ?_
          refine q_nrm 61 [.int (F_X9_isUnprepared σ6)] 0 0 rfl rfl rfl rfl ?_
          refine q_go C tk_X9_speeds [(31, 1), (34, 5)] [true] (pc1 := 71) (σ1 := (q_up σ6 229 5 0)) (lv1 := [(0, .ref 229), (1, .int t), (2, .int g), (3, .int v)]) (st1 := [.int (0 + g), .int t, .ref 229]) rfl ⟨c8, trivial⟩ ?_
          generalize e10 : (q_up σ6 229 5 0) = σ9
          replace hF := q_let e10 hF
          refine q_callV C hfl mw_X9_of mi_X9_of me_X9_of lk_X9_52 (k_X9_of t (0 + g) σ9 (((((((hP.2 c1).2 c2) σ3 e4).2 c5) σ6 e7).1 c8) σ9 e10).1) (rest := []) rfl rfl rfl (by decide) (by decide) rfl (q_dc (z := (71, .invokevirtual 52, 3, 0, 0)) tk_X9_speeds 39 rfl) (Nat.le_of_ble_eq_true rfl) ⟨Nat.le_of_ble_eq_true rfl, Nat.le_of_ble_eq_true rfl⟩ ⟨Nat.le_of_ble_eq_true rfl, Nat.le_of_ble_eq_true rfl⟩ ?_
          refine q_nrm 74 [.int (F_X9_of t (0 + g) σ9)] 0 0 rfl rfl rfl rfl ?_
          generalize e12 : (F_X9_of t (0 + g) σ9) = x11
          replace hF := q_let e12 hF
          refine q_go C tk_X9_speeds [(40, 7)] [] (pc1 := 82) (σ1 := σ9) (lv1 := [(4, .int x11), (0, .ref 229), (1, .int t), (2, .int g), (3, .int v)]) (st1 := [.int v, .int (0 + g), .int t, .ref 229]) rfl trivial ?_
          refine q_callV C hfl mw_X9_sets mi_X9_sets me_X9_sets lk_X9_67 (k_X9_sets t (0 + g) v σ9 ((((((((hP.2 c1).2 c2) σ3 e4).2 c5) σ6 e7).1 c8) σ9 e10).2 x11 e12).1) (rest := []) rfl rfl rfl (by decide) (by decide) rfl (q_dc (z := (82, .invokevirtual 67, 3, 0, 0)) tk_X9_speeds 47 rfl) (Nat.le_of_ble_eq_true rfl) ⟨Nat.le_of_ble_eq_true rfl, Nat.le_of_ble_eq_true rfl⟩ ⟨Nat.le_of_ble_eq_true rfl, Nat.le_of_ble_eq_true rfl⟩ ?_
          refine q_nrm 85 [] 0 0 rfl rfl rfl rfl ?_
          generalize e14 : (F_X9_sets t (0 + g) v σ9) = σ13
          replace hF := q_let e14 hF
          refine q_go C tk_X9_speeds [(48, 1)] [] (pc1 := 87) (σ1 := σ13) (lv1 := [(4, .int x11), (0, .ref 229), (1, .int t), (2, .int g), (3, .int v)]) (st1 := [.int x11]) rfl trivial ?_
          exact q_iret C hr (q_dc (z := (87, .ireturn, 1, 0, 0)) tk_X9_speeds 49 rfl) (congrArg Prod.snd hF) (congrArg (fun z => q_oi z.1) hF.symm) (Nat.le_of_ble_eq_true rfl) (Nat.le_of_ble_eq_true rfl)
        · rw [if_neg c8] at hF
          refine q_callV C hfl mw_X9_isThrown mi_X9_isThrown me_X9_isThrown lk_X9_63 (k_X9_isThrownN (F_X9_isUnprepared σ6) 3 σ6 c8 (z_X9_isUnprepared)) (rest := []) rfl rfl rfl (by decide) (by decide) rfl (q_dc (z := (58, .invokevirtual 63, 3, 0, 0)) tk_X9_speeds 30 rfl) (Nat.le_of_ble_eq_true rfl) ⟨Nat.le_of_ble_eq_true rfl, Nat.le_of_ble_eq_true rfl⟩ ⟨Nat.le_of_ble_eq_true rfl, Nat.le_of_ble_eq_true rfl⟩ ?_
          refine q_nrm 61 [.int (F_X9_isUnprepared σ6)] 0 0 rfl rfl rfl rfl ?_
          refine q_go C tk_X9_speeds [(31, 2)] [false] (pc1 := 65) (σ1 := (q_up σ6 229 5 3)) (lv1 := [(0, .ref 229), (1, .int t), (2, .int g), (3, .int v)]) (st1 := [.int 0]) rfl ⟨c8, trivial⟩ ?_
          exact q_iret C hr (q_dc (z := (65, .ireturn, 1, 0, 0)) tk_X9_speeds 33 rfl) (congrArg Prod.snd hF) (congrArg (fun z => q_oi z.1) hF.symm) (Nat.le_of_ble_eq_true rfl) (Nat.le_of_ble_eq_true rfl)
def F_X9_standsAtBound (t : Int32) (σ : q_M) : Int32 := (q_L (F_X9_of t 8 σ) (fun x1 : Int32 => (if x1 < 3 then (if (F_X9_of t 7 σ) = ((F_X9_endOf x1 σ) + 300) then 1 else 0) else 0)))
def P_X9_standsAtBound (t : Int32) (σ : q_M) : Prop := ((P_X9_of t 8 σ) ∧ (∀ x1 : Int32, (F_X9_of t 8 σ) = x1 → ((x1 < 3 → ((P_X9_of t 7 σ) ∧ True)) ∧ (¬ x1 < 3 → True))))
set_option maxRecDepth 100000 in
theorem k_X9_standsAtBound {α β : Nat → Nat} {D : va_G} {κ : Nat → ClassId} (t : Int32) (σ : q_M) (hP : P_X9_standsAtBound t σ) : q_C α β D κ yX9_standsAtBound cX9_standsAtBound 3 (Option.some Jvm.ClassFile.FieldType.boolean) 1 22 0 0 [.ref 229, .int t] σ (q_oi (F_X9_standsAtBound t σ)) σ := by
  refine q_enter (own := RX9) (F := F_X9) (G := G_X9) (by decide +kernel) rfl Fok_X9 Gok_X9 (Nat.le_of_ble_eq_true rfl) (fun p l e s m args below meth c A hfl C hr hT => ?_)
  generalize hF : F_X9_standsAtBound t σ = r
  unfold F_X9_standsAtBound at hF
  refine q_go C tk_X9_standsAtBound [(0, 3)] [] (pc1 := 4) (σ1 := σ) (lv1 := [(0, .ref 229), (1, .int t)]) (st1 := [.int 8, .int t, .ref 229]) rfl trivial ?_
  refine q_callV C hfl mw_X9_of mi_X9_of me_X9_of lk_X9_52 (k_X9_of t 8 σ hP.1) (rest := []) rfl rfl rfl (by decide) (by decide) rfl (q_dc (z := (4, .invokevirtual 52, 3, 0, 0)) tk_X9_standsAtBound 3 rfl) (Nat.le_of_ble_eq_true rfl) ⟨Nat.le_of_ble_eq_true rfl, Nat.le_of_ble_eq_true rfl⟩ ⟨Nat.le_of_ble_eq_true rfl, Nat.le_of_ble_eq_true rfl⟩ ?_
  refine q_nrm 7 [.int (F_X9_of t 8 σ)] 0 0 rfl rfl rfl rfl ?_
  generalize e2 : (F_X9_of t 8 σ) = x1
  replace hF := q_let e2 hF
  refine q_go C tk_X9_standsAtBound [(4, 3)] [] (pc1 := 10) (σ1 := σ) (lv1 := [(2, .int x1), (0, .ref 229), (1, .int t)]) (st1 := [.int 3, .int x1]) rfl trivial ?_
  by_cases c3 : x1 < 3
  · rw [if_pos c3] at hF
    refine q_go C tk_X9_standsAtBound [(7, 4)] [false] (pc1 := 17) (σ1 := σ) (lv1 := [(2, .int x1), (0, .ref 229), (1, .int t)]) (st1 := [.int 7, .int t, .ref 229]) rfl ⟨c3, trivial⟩ ?_
    refine q_callV C hfl mw_X9_of mi_X9_of me_X9_of lk_X9_52 (k_X9_of t 7 σ ((hP.2 x1 e2).1 c3).1) (rest := []) rfl rfl rfl (by decide) (by decide) rfl (q_dc (z := (17, .invokevirtual 52, 3, 0, 0)) tk_X9_standsAtBound 11 rfl) (Nat.le_of_ble_eq_true rfl) ⟨Nat.le_of_ble_eq_true rfl, Nat.le_of_ble_eq_true rfl⟩ ⟨Nat.le_of_ble_eq_true rfl, Nat.le_of_ble_eq_true rfl⟩ ?_
    refine q_nrm 20 [.int (F_X9_of t 7 σ)] 0 0 rfl rfl rfl rfl ?_
    refine q_go C tk_X9_standsAtBound [(12, 2)] [] (pc1 := 22) (σ1 := σ) (lv1 := [(2, .int x1), (0, .ref 229), (1, .int t)]) (st1 := [.int x1, .ref 229, .int (F_X9_of t 7 σ)]) rfl trivial ?_
    refine q_callV C hfl mw_X9_endOf mi_X9_endOf me_X9_endOf lk_X9_96 (k_X9_endOf x1 σ) (rest := [.int (F_X9_of t 7 σ)]) rfl rfl rfl (by decide) (by decide) rfl (q_dc (z := (22, .invokevirtual 96, 3, 0, 0)) tk_X9_standsAtBound 14 rfl) (Nat.le_of_ble_eq_true rfl) ⟨Nat.le_of_ble_eq_true rfl, Nat.le_of_ble_eq_true rfl⟩ ⟨Nat.le_of_ble_eq_true rfl, Nat.le_of_ble_eq_true rfl⟩ ?_
    refine q_nrm 25 [.int (F_X9_endOf x1 σ), .int (F_X9_of t 7 σ)] 0 0 rfl rfl rfl rfl ?_
    refine q_go C tk_X9_standsAtBound [(15, 2)] [] (pc1 := 29) (σ1 := σ) (lv1 := [(2, .int x1), (0, .ref 229), (1, .int t)]) (st1 := [.int ((F_X9_endOf x1 σ) + 300), .int (F_X9_of t 7 σ)]) rfl trivial ?_
    by_cases c4 : (F_X9_of t 7 σ) = ((F_X9_endOf x1 σ) + 300)
    · rw [if_pos c4] at hF
      refine q_go C tk_X9_standsAtBound [(17, 3)] [false] (pc1 := 37) (σ1 := σ) (lv1 := [(2, .int x1), (0, .ref 229), (1, .int t)]) (st1 := [.int 1]) rfl ⟨c4, trivial⟩ ?_
      exact q_zret C hr (q_dc (z := (37, .ireturn, 1, 0, 0)) tk_X9_standsAtBound 21 rfl) (by decide +kernel) rfl (congrArg q_oi hF.symm) (Nat.le_of_ble_eq_true rfl) (Nat.le_of_ble_eq_true rfl)
    · rw [if_neg c4] at hF
      refine q_go C tk_X9_standsAtBound [(17, 1), (20, 1)] [true] (pc1 := 37) (σ1 := σ) (lv1 := [(2, .int x1), (0, .ref 229), (1, .int t)]) (st1 := [.int 0]) rfl ⟨c4, trivial⟩ ?_
      exact q_zret C hr (q_dc (z := (37, .ireturn, 1, 0, 0)) tk_X9_standsAtBound 21 rfl) (by decide +kernel) rfl (congrArg q_oi hF.symm) (Nat.le_of_ble_eq_true rfl) (Nat.le_of_ble_eq_true rfl)
  · rw [if_neg c3] at hF
    refine q_go C tk_X9_standsAtBound [(7, 1), (20, 1)] [true] (pc1 := 37) (σ1 := σ) (lv1 := [(2, .int x1), (0, .ref 229), (1, .int t)]) (st1 := [.int 0]) rfl ⟨c3, trivial⟩ ?_
    exact q_zret C hr (q_dc (z := (37, .ireturn, 1, 0, 0)) tk_X9_standsAtBound 21 rfl) (by decide +kernel) rfl (congrArg q_oi hF.symm) (Nat.le_of_ble_eq_true rfl) (Nat.le_of_ble_eq_true rfl)
def F_X9_inZone (t : Int32) (σ : q_M) : Int32 := (q_L (F_X9_of t 8 σ) (fun x1 : Int32 => (q_L (F_X9_endOf x1 σ) (fun x3 : Int32 => (if x1 < 3 then (if (F_X9_isIn (F_X9_of t 7 σ) (x3 - 100) (x3 + 100) σ) = 0 then 0 else 1) else 0)))))
def P_X9_inZone (t : Int32) (σ : q_M) : Prop := ((P_X9_of t 8 σ) ∧ (∀ x1 : Int32, (F_X9_of t 8 σ) = x1 → (∀ x3 : Int32, (F_X9_endOf x1 σ) = x3 → ((x1 < 3 → ((P_X9_of t 7 σ) ∧ True)) ∧ (¬ x1 < 3 → True)))))
set_option maxRecDepth 100000 in
theorem k_X9_inZone {α β : Nat → Nat} {D : va_G} {κ : Nat → ClassId} (t : Int32) (σ : q_M) (hP : P_X9_inZone t σ) : q_C α β D κ yX9_inZone cX9_inZone 4 (Option.some Jvm.ClassFile.FieldType.boolean) 1 22 0 0 [.ref 229, .int t] σ (q_oi (F_X9_inZone t σ)) σ := by
  refine q_enter (own := RX9) (F := F_X9) (G := G_X9) (by decide +kernel) rfl Fok_X9 Gok_X9 (Nat.le_of_ble_eq_true rfl) (fun p l e s m args below meth c A hfl C hr hT => ?_)
  generalize hF : F_X9_inZone t σ = r
  unfold F_X9_inZone at hF
  refine q_go C tk_X9_inZone [(0, 3)] [] (pc1 := 4) (σ1 := σ) (lv1 := [(0, .ref 229), (1, .int t)]) (st1 := [.int 8, .int t, .ref 229]) rfl trivial ?_
  refine q_callV C hfl mw_X9_of mi_X9_of me_X9_of lk_X9_52 (k_X9_of t 8 σ hP.1) (rest := []) rfl rfl rfl (by decide) (by decide) rfl (q_dc (z := (4, .invokevirtual 52, 3, 0, 0)) tk_X9_inZone 3 rfl) (Nat.le_of_ble_eq_true rfl) ⟨Nat.le_of_ble_eq_true rfl, Nat.le_of_ble_eq_true rfl⟩ ⟨Nat.le_of_ble_eq_true rfl, Nat.le_of_ble_eq_true rfl⟩ ?_
  refine q_nrm 7 [.int (F_X9_of t 8 σ)] 0 0 rfl rfl rfl rfl ?_
  generalize e2 : (F_X9_of t 8 σ) = x1
  replace hF := q_let e2 hF
  refine q_go C tk_X9_inZone [(4, 3)] [] (pc1 := 10) (σ1 := σ) (lv1 := [(2, .int x1), (0, .ref 229), (1, .int t)]) (st1 := [.int x1, .ref 229]) rfl trivial ?_
  refine q_callV C hfl mw_X9_endOf mi_X9_endOf me_X9_endOf lk_X9_96 (k_X9_endOf x1 σ) (rest := []) rfl rfl rfl (by decide) (by decide) rfl (q_dc (z := (10, .invokevirtual 96, 3, 0, 0)) tk_X9_inZone 7 rfl) (Nat.le_of_ble_eq_true rfl) ⟨Nat.le_of_ble_eq_true rfl, Nat.le_of_ble_eq_true rfl⟩ ⟨Nat.le_of_ble_eq_true rfl, Nat.le_of_ble_eq_true rfl⟩ ?_
  refine q_nrm 13 [.int (F_X9_endOf x1 σ)] 0 0 rfl rfl rfl rfl ?_
  generalize e4 : (F_X9_endOf x1 σ) = x3
  replace hF := q_let e4 hF
  refine q_go C tk_X9_inZone [(8, 3)] [] (pc1 := 16) (σ1 := σ) (lv1 := [(3, .int x3), (2, .int x1), (0, .ref 229), (1, .int t)]) (st1 := [.int 3, .int x1]) rfl trivial ?_
  by_cases c5 : x1 < 3
  · rw [if_pos c5] at hF
    refine q_go C tk_X9_inZone [(11, 4)] [false] (pc1 := 23) (σ1 := σ) (lv1 := [(3, .int x3), (2, .int x1), (0, .ref 229), (1, .int t)]) (st1 := [.int 7, .int t, .ref 229]) rfl ⟨c5, trivial⟩ ?_
    refine q_callV C hfl mw_X9_of mi_X9_of me_X9_of lk_X9_52 (k_X9_of t 7 σ (((hP.2 x1 e2) x3 e4).1 c5).1) (rest := []) rfl rfl rfl (by decide) (by decide) rfl (q_dc (z := (23, .invokevirtual 52, 3, 0, 0)) tk_X9_inZone 15 rfl) (Nat.le_of_ble_eq_true rfl) ⟨Nat.le_of_ble_eq_true rfl, Nat.le_of_ble_eq_true rfl⟩ ⟨Nat.le_of_ble_eq_true rfl, Nat.le_of_ble_eq_true rfl⟩ ?_
    refine q_nrm 26 [.int (F_X9_of t 7 σ)] 0 0 rfl rfl rfl rfl ?_
    refine q_go C tk_X9_inZone [(16, 6)] [] (pc1 := 34) (σ1 := σ) (lv1 := [(3, .int x3), (2, .int x1), (0, .ref 229), (1, .int t)]) (st1 := [.int (x3 + 100), .int (x3 - 100), .int (F_X9_of t 7 σ)]) rfl trivial ?_
    refine q_callS C hfl mw_X9_isIn ms_X9_isIn lk_X9_48 (k_X9_isIn (F_X9_of t 7 σ) (x3 - 100) (x3 + 100) σ) (rest := []) rfl rfl (q_dc (z := (34, .invokestatic 48, 3, 0, 0)) tk_X9_inZone 22 rfl) (Nat.le_of_ble_eq_true rfl) ⟨Nat.le_of_ble_eq_true rfl, Nat.le_of_ble_eq_true rfl⟩ ⟨Nat.le_of_ble_eq_true rfl, Nat.le_of_ble_eq_true rfl⟩ ?_
    refine q_nrm 37 [.int (F_X9_isIn (F_X9_of t 7 σ) (x3 - 100) (x3 + 100) σ)] 0 0 rfl rfl rfl rfl ?_
    by_cases c6 : (F_X9_isIn (F_X9_of t 7 σ) (x3 - 100) (x3 + 100) σ) = 0
    · rw [if_pos c6] at hF
      refine q_go C tk_X9_inZone [(23, 1), (26, 1)] [true] (pc1 := 45) (σ1 := σ) (lv1 := [(3, .int x3), (2, .int x1), (0, .ref 229), (1, .int t)]) (st1 := [.int 0]) rfl ⟨c6, trivial⟩ ?_
      exact q_zret C hr (q_dc (z := (45, .ireturn, 1, 0, 0)) tk_X9_inZone 27 rfl) (by decide +kernel) rfl (congrArg q_oi hF.symm) (Nat.le_of_ble_eq_true rfl) (Nat.le_of_ble_eq_true rfl)
    · rw [if_neg c6] at hF
      refine q_go C tk_X9_inZone [(23, 3)] [false] (pc1 := 45) (σ1 := σ) (lv1 := [(3, .int x3), (2, .int x1), (0, .ref 229), (1, .int t)]) (st1 := [.int 1]) rfl ⟨c6, trivial⟩ ?_
      exact q_zret C hr (q_dc (z := (45, .ireturn, 1, 0, 0)) tk_X9_inZone 27 rfl) (by decide +kernel) rfl (congrArg q_oi hF.symm) (Nat.le_of_ble_eq_true rfl) (Nat.le_of_ble_eq_true rfl)
  · rw [if_neg c5] at hF
    refine q_go C tk_X9_inZone [(11, 1), (26, 1)] [true] (pc1 := 45) (σ1 := σ) (lv1 := [(3, .int x3), (2, .int x1), (0, .ref 229), (1, .int t)]) (st1 := [.int 0]) rfl ⟨c5, trivial⟩ ?_
    exact q_zret C hr (q_dc (z := (45, .ireturn, 1, 0, 0)) tk_X9_inZone 27 rfl) (by decide +kernel) rfl (congrArg q_oi hF.symm) (Nat.le_of_ble_eq_true rfl) (Nat.le_of_ble_eq_true rfl)
def F_X9_reason (t : Int32) (σ : q_M) : Int32 := (q_L (F_X9_of t 8 σ) (fun x1 : Int32 => (if 0 < (F_X9_of t 10 σ) then 1 else (if x1 = 3 then 2 else (if (F_X9_of t 7 σ) < ((F_X9_endOf x1 σ) - 100) then 3 else 0)))))
def P_X9_reason (t : Int32) (σ : q_M) : Prop := ((P_X9_of t 8 σ) ∧ (∀ x1 : Int32, (F_X9_of t 8 σ) = x1 → ((P_X9_of t 10 σ) ∧ ((0 < (F_X9_of t 10 σ) → True) ∧ (¬ 0 < (F_X9_of t 10 σ) → ((x1 = 3 → True) ∧ (¬ x1 = 3 → ((P_X9_of t 7 σ) ∧ True))))))))
set_option maxRecDepth 100000 in
theorem k_X9_reason {α β : Nat → Nat} {D : va_G} {κ : Nat → ClassId} (t : Int32) (σ : q_M) (hP : P_X9_reason t σ) : q_C α β D κ yX9_reason cX9_reason 3 (Option.some Jvm.ClassFile.FieldType.int) 1 22 0 0 [.ref 229, .int t] σ (q_oi (F_X9_reason t σ)) σ := by
  refine q_enter (own := RX9) (F := F_X9) (G := G_X9) (by decide +kernel) rfl Fok_X9 Gok_X9 (Nat.le_of_ble_eq_true rfl) (fun p l e s m args below meth c A hfl C hr hT => ?_)
  generalize hF : F_X9_reason t σ = r
  unfold F_X9_reason at hF
  refine q_go C tk_X9_reason [(0, 3)] [] (pc1 := 4) (σ1 := σ) (lv1 := [(0, .ref 229), (1, .int t)]) (st1 := [.int 8, .int t, .ref 229]) rfl trivial ?_
  refine q_callV C hfl mw_X9_of mi_X9_of me_X9_of lk_X9_52 (k_X9_of t 8 σ hP.1) (rest := []) rfl rfl rfl (by decide) (by decide) rfl (q_dc (z := (4, .invokevirtual 52, 3, 0, 0)) tk_X9_reason 3 rfl) (Nat.le_of_ble_eq_true rfl) ⟨Nat.le_of_ble_eq_true rfl, Nat.le_of_ble_eq_true rfl⟩ ⟨Nat.le_of_ble_eq_true rfl, Nat.le_of_ble_eq_true rfl⟩ ?_
  refine q_nrm 7 [.int (F_X9_of t 8 σ)] 0 0 rfl rfl rfl rfl ?_
  generalize e2 : (F_X9_of t 8 σ) = x1
  replace hF := q_let e2 hF
  refine q_go C tk_X9_reason [(4, 4)] [] (pc1 := 12) (σ1 := σ) (lv1 := [(2, .int x1), (0, .ref 229), (1, .int t)]) (st1 := [.int 10, .int t, .ref 229]) rfl trivial ?_
  refine q_callV C hfl mw_X9_of mi_X9_of me_X9_of lk_X9_52 (k_X9_of t 10 σ (hP.2 x1 e2).1) (rest := []) rfl rfl rfl (by decide) (by decide) rfl (q_dc (z := (12, .invokevirtual 52, 3, 0, 0)) tk_X9_reason 8 rfl) (Nat.le_of_ble_eq_true rfl) ⟨Nat.le_of_ble_eq_true rfl, Nat.le_of_ble_eq_true rfl⟩ ⟨Nat.le_of_ble_eq_true rfl, Nat.le_of_ble_eq_true rfl⟩ ?_
  refine q_nrm 15 [.int (F_X9_of t 10 σ)] 0 0 rfl rfl rfl rfl ?_
  by_cases c3 : 0 < (F_X9_of t 10 σ)
  · rw [if_pos c3] at hF
    refine q_go C tk_X9_reason [(9, 2)] [false] (pc1 := 19) (σ1 := σ) (lv1 := [(2, .int x1), (0, .ref 229), (1, .int t)]) (st1 := [.int 1]) rfl ⟨c3, trivial⟩ ?_
    exact q_iret C hr (q_dc (z := (19, .ireturn, 1, 0, 0)) tk_X9_reason 11 rfl) rfl (congrArg q_oi hF.symm) (Nat.le_of_ble_eq_true rfl) (Nat.le_of_ble_eq_true rfl)
  · rw [if_neg c3] at hF
    refine q_go C tk_X9_reason [(9, 1), (12, 2)] [true] (pc1 := 22) (σ1 := σ) (lv1 := [(2, .int x1), (0, .ref 229), (1, .int t)]) (st1 := [.int 3, .int x1]) rfl ⟨c3, trivial⟩ ?_
    by_cases c4 : x1 = 3
    · rw [if_pos c4] at hF
      refine q_go C tk_X9_reason [(14, 3)] [false] (pc1 := 52) (σ1 := σ) (lv1 := [(2, .int x1), (0, .ref 229), (1, .int t)]) (st1 := [.int 2]) rfl ⟨c4, trivial⟩ ?_
      exact q_iret C hr (q_dc (z := (52, .ireturn, 1, 0, 0)) tk_X9_reason 30 rfl) rfl (congrArg q_oi hF.symm) (Nat.le_of_ble_eq_true rfl) (Nat.le_of_ble_eq_true rfl)
    · rw [if_neg c4] at hF
      refine q_go C tk_X9_reason [(14, 1), (17, 3)] [true] (pc1 := 33) (σ1 := σ) (lv1 := [(2, .int x1), (0, .ref 229), (1, .int t)]) (st1 := [.int 7, .int t, .ref 229]) rfl ⟨c4, trivial⟩ ?_
      refine q_callV C hfl mw_X9_of mi_X9_of me_X9_of lk_X9_52 (k_X9_of t 7 σ (((hP.2 x1 e2).2.2 c3).2 c4).1) (rest := []) rfl rfl rfl (by decide) (by decide) rfl (q_dc (z := (33, .invokevirtual 52, 3, 0, 0)) tk_X9_reason 20 rfl) (Nat.le_of_ble_eq_true rfl) ⟨Nat.le_of_ble_eq_true rfl, Nat.le_of_ble_eq_true rfl⟩ ⟨Nat.le_of_ble_eq_true rfl, Nat.le_of_ble_eq_true rfl⟩ ?_
      refine q_nrm 36 [.int (F_X9_of t 7 σ)] 0 0 rfl rfl rfl rfl ?_
      refine q_go C tk_X9_reason [(21, 2)] [] (pc1 := 38) (σ1 := σ) (lv1 := [(2, .int x1), (0, .ref 229), (1, .int t)]) (st1 := [.int x1, .ref 229, .int (F_X9_of t 7 σ)]) rfl trivial ?_
      refine q_callV C hfl mw_X9_endOf mi_X9_endOf me_X9_endOf lk_X9_96 (k_X9_endOf x1 σ) (rest := [.int (F_X9_of t 7 σ)]) rfl rfl rfl (by decide) (by decide) rfl (q_dc (z := (38, .invokevirtual 96, 3, 0, 0)) tk_X9_reason 23 rfl) (Nat.le_of_ble_eq_true rfl) ⟨Nat.le_of_ble_eq_true rfl, Nat.le_of_ble_eq_true rfl⟩ ⟨Nat.le_of_ble_eq_true rfl, Nat.le_of_ble_eq_true rfl⟩ ?_
      refine q_nrm 41 [.int (F_X9_endOf x1 σ), .int (F_X9_of t 7 σ)] 0 0 rfl rfl rfl rfl ?_
      refine q_go C tk_X9_reason [(24, 2)] [] (pc1 := 44) (σ1 := σ) (lv1 := [(2, .int x1), (0, .ref 229), (1, .int t)]) (st1 := [.int ((F_X9_endOf x1 σ) - 100), .int (F_X9_of t 7 σ)]) rfl trivial ?_
      by_cases c5 : (F_X9_of t 7 σ) < ((F_X9_endOf x1 σ) - 100)
      · rw [if_pos c5] at hF
        refine q_go C tk_X9_reason [(26, 3)] [false] (pc1 := 52) (σ1 := σ) (lv1 := [(2, .int x1), (0, .ref 229), (1, .int t)]) (st1 := [.int 3]) rfl ⟨c5, trivial⟩ ?_
        exact q_iret C hr (q_dc (z := (52, .ireturn, 1, 0, 0)) tk_X9_reason 30 rfl) rfl (congrArg q_oi hF.symm) (Nat.le_of_ble_eq_true rfl) (Nat.le_of_ble_eq_true rfl)
      · rw [if_neg c5] at hF
        refine q_go C tk_X9_reason [(26, 1), (29, 1)] [true] (pc1 := 52) (σ1 := σ) (lv1 := [(2, .int x1), (0, .ref 229), (1, .int t)]) (st1 := [.int 0]) rfl ⟨c5, trivial⟩ ?_
        exact q_iret C hr (q_dc (z := (52, .ireturn, 1, 0, 0)) tk_X9_reason 30 rfl) rfl (congrArg q_oi hF.symm) (Nat.le_of_ble_eq_true rfl) (Nat.le_of_ble_eq_true rfl)
def F_X9_isRefused (t : Int32) (σ : q_M) : (Int32) × q_M := (q_L (F_X9_reason t σ) (fun x1 : Int32 => (if x1 = 0 then (0, σ) else (1, (q_up (q_up σ 229 8 x1) 229 9 t)))))
def P_X9_isRefused (t : Int32) (σ : q_M) : Prop := ((P_X9_reason t σ) ∧ True)
set_option maxRecDepth 100000 in
theorem k_X9_isRefused {α β : Nat → Nat} {D : va_G} {κ : Nat → ClassId} (t : Int32) (σ : q_M) (hP : P_X9_isRefused t σ) : q_C α β D κ yX9_isRefused cX9_isRefused 3 (Option.some Jvm.ClassFile.FieldType.boolean) 2 44 0 0 [.ref 229, .int t] σ (q_oi (F_X9_isRefused t σ).1) (F_X9_isRefused t σ).2 := by
  refine q_enter (own := RX9) (F := F_X9) (G := G_X9) (by decide +kernel) rfl Fok_X9 Gok_X9 (Nat.le_of_ble_eq_true rfl) (fun p l e s m args below meth c A hfl C hr hT => ?_)
  generalize hF : F_X9_isRefused t σ = r
  unfold F_X9_isRefused at hF
  refine q_go C tk_X9_isRefused [(0, 2)] [] (pc1 := 2) (σ1 := σ) (lv1 := [(0, .ref 229), (1, .int t)]) (st1 := [.int t, .ref 229]) rfl trivial ?_
  refine q_callV C hfl mw_X9_reason mi_X9_reason me_X9_reason lk_X9_118 (k_X9_reason t σ hP.1) (rest := []) rfl rfl rfl (by decide) (by decide) rfl (q_dc (z := (2, .invokevirtual 118, 3, 0, 0)) tk_X9_isRefused 2 rfl) (Nat.le_of_ble_eq_true rfl) ⟨Nat.le_of_ble_eq_true rfl, Nat.le_of_ble_eq_true rfl⟩ ⟨Nat.le_of_ble_eq_true rfl, Nat.le_of_ble_eq_true rfl⟩ ?_
  refine q_nrm 5 [.int (F_X9_reason t σ)] 0 0 rfl rfl rfl rfl ?_
  generalize e2 : (F_X9_reason t σ) = x1
  replace hF := q_let e2 hF
  refine q_go C tk_X9_isRefused [(3, 2)] [] (pc1 := 7) (σ1 := σ) (lv1 := [(2, .int x1), (0, .ref 229), (1, .int t)]) (st1 := [.int x1]) rfl trivial ?_
  by_cases c3 : x1 = 0
  · rw [if_pos c3] at hF
    refine q_go C tk_X9_isRefused [(5, 1), (12, 2), (16, 1)] [true, true] (pc1 := 29) (σ1 := σ) (lv1 := [(2, .int x1), (0, .ref 229), (1, .int t)]) (st1 := [.int 0]) rfl ⟨c3, c3, trivial⟩ ?_
    exact q_zret C hr (q_dc (z := (29, .ireturn, 1, 0, 0)) tk_X9_isRefused 17 rfl) (by decide +kernel) (congrArg Prod.snd hF) (congrArg (fun z => q_oi z.1) hF.symm) (Nat.le_of_ble_eq_true rfl) (Nat.le_of_ble_eq_true rfl)
  · rw [if_neg c3] at hF
    refine q_go C tk_X9_isRefused [(5, 11)] [false, false] (pc1 := 29) (σ1 := (q_up (q_up σ 229 8 x1) 229 9 t)) (lv1 := [(2, .int x1), (0, .ref 229), (1, .int t)]) (st1 := [.int 1]) rfl ⟨c3, rfl, rfl, c3, trivial⟩ ?_
    exact q_zret C hr (q_dc (z := (29, .ireturn, 1, 0, 0)) tk_X9_isRefused 17 rfl) (by decide +kernel) (congrArg Prod.snd hF) (congrArg (fun z => q_oi z.1) hF.symm) (Nat.le_of_ble_eq_true rfl) (Nat.le_of_ble_eq_true rfl)
theorem z_X9_isRefused {t : Int32} {σ : q_M} : (F_X9_isRefused t σ).1 = 0 ∨ (F_X9_isRefused t σ).1 = 1 := by
  unfold F_X9_isRefused
  try simp only [q_L]
  repeat' split
  all_goals first | exact Or.inl rfl | exact Or.inr rfl | exact rfl
def F_X9_passes (t : Int32) (σ : q_M) : (Int32) × q_M := (if (F_X9_isTeam t σ) = 0 then (0, (q_up σ 229 5 1)) else (q_L (q_up σ 229 5 0) (fun σ2 : q_M => (if (F_X9_of t 6 σ2) = 1 then (q_L (q_up σ2 229 5 0) (fun σ5 : q_M => (q_L (F_X9_isRefused t σ5).2 (fun σ7 : q_M => (if (F_X9_isRefused t σ5).1 = 0 then (q_L (q_up σ7 229 5 0) (fun σ10 : q_M => (q_L (F_X9_of t 8 σ10) (fun x12 : Int32 => (if ((F_X9_endOf x12 σ10) + 100) < (F_X9_of t 7 σ10) then (q_L (F_X9_sets t 11 1 σ10) (fun σ15 : q_M => (q_L ((σ15 230 2) - (F_X9_of t 13 σ15)) (fun x17 : Int32 => (q_L (F_X9_sets t (14 + x12) (1 + x17) σ15) (fun σ19 : q_M => (q_L (F_X9_sets t 13 (σ19 230 2) σ19) (fun σ21 : q_M => (q_L (F_X9_sets t 8 (x12 + 1) σ21) (fun σ23 : q_M => (q_L (F_X9_sets t 9 0 σ23) (fun σ25 : q_M => (x17, σ25))))))))))))) else (q_L ((σ10 230 2) - (F_X9_of t 13 σ10)) (fun x27 : Int32 => (q_L (F_X9_sets t (14 + x12) (1 + x27) σ10) (fun σ29 : q_M => (q_L (F_X9_sets t 13 (σ29 230 2) σ29) (fun σ31 : q_M => (q_L (F_X9_sets t 8 (x12 + 1) σ31) (fun σ33 : q_M => (q_L (F_X9_sets t 9 0 σ33) (fun σ35 : q_M => (x27, σ35)))))))))))))))) else (0, (q_up σ7 229 5 3))))))) else (0, (q_up σ2 229 5 2))))))
def P_X9_passes (t : Int32) (σ : q_M) : Prop := (((F_X9_isTeam t σ) = 0 → True) ∧ (¬ (F_X9_isTeam t σ) = 0 → (∀ σ2 : q_M, (q_up σ 229 5 0) = σ2 → ((P_X9_of t 6 σ2) ∧ (((F_X9_of t 6 σ2) = 1 → (∀ σ5 : q_M, (q_up σ2 229 5 0) = σ5 → ((P_X9_isRefused t σ5) ∧ (∀ σ7 : q_M, (F_X9_isRefused t σ5).2 = σ7 → (((F_X9_isRefused t σ5).1 = 0 → (∀ σ10 : q_M, (q_up σ7 229 5 0) = σ10 → ((P_X9_of t 8 σ10) ∧ (∀ x12 : Int32, (F_X9_of t 8 σ10) = x12 → ((P_X9_of t 7 σ10) ∧ ((((F_X9_endOf x12 σ10) + 100) < (F_X9_of t 7 σ10) → ((P_X9_sets t 11 1 σ10) ∧ (∀ σ15 : q_M, (F_X9_sets t 11 1 σ10) = σ15 → ((P_X9_of t 13 σ15) ∧ (∀ x17 : Int32, ((σ15 230 2) - (F_X9_of t 13 σ15)) = x17 → ((P_X9_sets t (14 + x12) (1 + x17) σ15) ∧ (∀ σ19 : q_M, (F_X9_sets t (14 + x12) (1 + x17) σ15) = σ19 → ((P_X9_sets t 13 (σ19 230 2) σ19) ∧ (∀ σ21 : q_M, (F_X9_sets t 13 (σ19 230 2) σ19) = σ21 → ((P_X9_sets t 8 (x12 + 1) σ21) ∧ (∀ σ23 : q_M, (F_X9_sets t 8 (x12 + 1) σ21) = σ23 → ((P_X9_sets t 9 0 σ23) ∧ True)))))))))))) ∧ (¬ ((F_X9_endOf x12 σ10) + 100) < (F_X9_of t 7 σ10) → ((P_X9_of t 13 σ10) ∧ (∀ x27 : Int32, ((σ10 230 2) - (F_X9_of t 13 σ10)) = x27 → ((P_X9_sets t (14 + x12) (1 + x27) σ10) ∧ (∀ σ29 : q_M, (F_X9_sets t (14 + x12) (1 + x27) σ10) = σ29 → ((P_X9_sets t 13 (σ29 230 2) σ29) ∧ (∀ σ31 : q_M, (F_X9_sets t 13 (σ29 230 2) σ29) = σ31 → ((P_X9_sets t 8 (x12 + 1) σ31) ∧ (∀ σ33 : q_M, (F_X9_sets t 8 (x12 + 1) σ31) = σ33 → ((P_X9_sets t 9 0 σ33) ∧ True)))))))))))))))) ∧ (¬ (F_X9_isRefused t σ5).1 = 0 → True)))))) ∧ (¬ (F_X9_of t 6 σ2) = 1 → True))))))
set_option maxRecDepth 100000 in
theorem k_X9_passes {α β : Nat → Nat} {D : va_G} {κ : Nat → ClassId} (t : Int32) (σ : q_M) (hP : P_X9_passes t σ) : q_C α β D κ yX9_passes cX9_passes 4 (Option.some Jvm.ClassFile.FieldType.int) 3 66 0 0 [.ref 229, .int t] σ (q_oi (F_X9_passes t σ).1) (F_X9_passes t σ).2 := by
  refine q_enter (own := RX9) (F := F_X9) (G := G_X9) (by decide +kernel) rfl Fok_X9 Gok_X9 (Nat.le_of_ble_eq_true rfl) (fun p l e s m args below meth c A hfl C hr hT => ?_)
  generalize hF : F_X9_passes t σ = r
  unfold F_X9_passes at hF
  refine q_go C tk_X9_passes [(0, 3)] [] (pc1 := 3) (σ1 := σ) (lv1 := [(0, .ref 229), (1, .int t)]) (st1 := [.int t, .ref 229, .ref 229]) rfl trivial ?_
  refine q_callV C hfl mw_X9_isTeam mi_X9_isTeam me_X9_isTeam lk_X9_75 (k_X9_isTeam t σ) (rest := [.ref 229]) rfl rfl rfl (by decide) (by decide) rfl (q_dc (z := (3, .invokevirtual 75, 3, 0, 0)) tk_X9_passes 3 rfl) (Nat.le_of_ble_eq_true rfl) ⟨Nat.le_of_ble_eq_true rfl, Nat.le_of_ble_eq_true rfl⟩ ⟨Nat.le_of_ble_eq_true rfl, Nat.le_of_ble_eq_true rfl⟩ ?_
  refine q_nrm 6 [.int (F_X9_isTeam t σ), .ref 229] 0 0 rfl rfl rfl rfl ?_
  by_cases c1 : (F_X9_isTeam t σ) = 0
  · rw [if_pos c1] at hF
    refine q_go C tk_X9_passes [(4, 3), (8, 1)] [false] (pc1 := 15) (σ1 := σ) (lv1 := [(0, .ref 229), (1, .int t)]) (st1 := [.int 1, .int 1, .ref 229]) rfl ⟨c1, trivial⟩ ?_
    refine q_callV C hfl mw_X9_isThrown mi_X9_isThrown me_X9_isThrown lk_X9_63 (k_X9_isThrownN 1 1 σ (by decide) (by decide)) (rest := []) rfl rfl rfl (by decide) (by decide) rfl (q_dc (z := (15, .invokevirtual 63, 3, 0, 0)) tk_X9_passes 9 rfl) (Nat.le_of_ble_eq_true rfl) ⟨Nat.le_of_ble_eq_true rfl, Nat.le_of_ble_eq_true rfl⟩ ⟨Nat.le_of_ble_eq_true rfl, Nat.le_of_ble_eq_true rfl⟩ ?_
    refine q_nrm 18 [.int 1] 0 0 rfl rfl rfl rfl ?_
    refine q_go C tk_X9_passes [(10, 1), (31, 1)] [true] (pc1 := 59) (σ1 := (q_up σ 229 5 1)) (lv1 := [(0, .ref 229), (1, .int t)]) (st1 := [.int 0]) rfl ⟨(by decide : ¬ (1 : Int32) = 0), trivial⟩ ?_
    exact q_iret C hr (q_dc (z := (59, .ireturn, 1, 0, 0)) tk_X9_passes 32 rfl) (congrArg Prod.snd hF) (congrArg (fun z => q_oi z.1) hF.symm) (Nat.le_of_ble_eq_true rfl) (Nat.le_of_ble_eq_true rfl)
  · rw [if_neg c1] at hF
    refine q_go C tk_X9_passes [(4, 1), (7, 2)] [true] (pc1 := 15) (σ1 := σ) (lv1 := [(0, .ref 229), (1, .int t)]) (st1 := [.int 1, .int 0, .ref 229]) rfl ⟨c1, trivial⟩ ?_
    refine q_callV C hfl mw_X9_isThrown mi_X9_isThrown me_X9_isThrown lk_X9_63 (k_X9_isThrownZ 0 1 σ (by decide)) (rest := []) rfl rfl rfl (by decide) (by decide) rfl (q_dc (z := (15, .invokevirtual 63, 3, 0, 0)) tk_X9_passes 9 rfl) (Nat.le_of_ble_eq_true rfl) ⟨Nat.le_of_ble_eq_true rfl, Nat.le_of_ble_eq_true rfl⟩ ⟨Nat.le_of_ble_eq_true rfl, Nat.le_of_ble_eq_true rfl⟩ ?_
    refine q_nrm 18 [.int 0] 0 0 rfl rfl rfl rfl ?_
    refine q_go C tk_X9_passes [(10, 5)] [false] (pc1 := 26) (σ1 := (q_up σ 229 5 0)) (lv1 := [(0, .ref 229), (1, .int t)]) (st1 := [.int 6, .int t, .ref 229, .ref 229]) rfl ⟨(by decide : (0 : Int32) = 0), trivial⟩ ?_
    generalize e3 : (q_up σ 229 5 0) = σ2
    replace hF := q_let e3 hF
    refine q_callV C hfl mw_X9_of mi_X9_of me_X9_of lk_X9_52 (k_X9_of t 6 σ2 ((hP.2 c1) σ2 e3).1) (rest := [.ref 229]) rfl rfl rfl (by decide) (by decide) rfl (q_dc (z := (26, .invokevirtual 52, 3, 0, 0)) tk_X9_passes 15 rfl) (Nat.le_of_ble_eq_true rfl) ⟨Nat.le_of_ble_eq_true rfl, Nat.le_of_ble_eq_true rfl⟩ ⟨Nat.le_of_ble_eq_true rfl, Nat.le_of_ble_eq_true rfl⟩ ?_
    refine q_nrm 29 [.int (F_X9_of t 6 σ2), .ref 229] 0 0 rfl rfl rfl rfl ?_
    refine q_go C tk_X9_passes [(16, 1)] [] (pc1 := 30) (σ1 := σ2) (lv1 := [(0, .ref 229), (1, .int t)]) (st1 := [.int 1, .int (F_X9_of t 6 σ2), .ref 229]) rfl trivial ?_
    by_cases c4 : (F_X9_of t 6 σ2) = 1
    · rw [if_pos c4] at hF
      refine q_go C tk_X9_passes [(17, 1), (20, 2)] [true] (pc1 := 39) (σ1 := σ2) (lv1 := [(0, .ref 229), (1, .int t)]) (st1 := [.int 2, .int 0, .ref 229]) rfl ⟨c4, trivial⟩ ?_
      refine q_callV C hfl mw_X9_isThrown mi_X9_isThrown me_X9_isThrown lk_X9_63 (k_X9_isThrownZ 0 2 σ2 (by decide)) (rest := []) rfl rfl rfl (by decide) (by decide) rfl (q_dc (z := (39, .invokevirtual 63, 3, 0, 0)) tk_X9_passes 22 rfl) (Nat.le_of_ble_eq_true rfl) ⟨Nat.le_of_ble_eq_true rfl, Nat.le_of_ble_eq_true rfl⟩ ⟨Nat.le_of_ble_eq_true rfl, Nat.le_of_ble_eq_true rfl⟩ ?_
      refine q_nrm 42 [.int 0] 0 0 rfl rfl rfl rfl ?_
      refine q_go C tk_X9_passes [(23, 4)] [false] (pc1 := 48) (σ1 := (q_up σ2 229 5 0)) (lv1 := [(0, .ref 229), (1, .int t)]) (st1 := [.int t, .ref 229, .ref 229]) rfl ⟨(by decide : (0 : Int32) = 0), trivial⟩ ?_
      generalize e6 : (q_up σ2 229 5 0) = σ5
      replace hF := q_let e6 hF
      refine q_callV C hfl mw_X9_isRefused mi_X9_isRefused me_X9_isRefused lk_X9_127 (k_X9_isRefused t σ5 ((((hP.2 c1) σ2 e3).2.1 c4) σ5 e6).1) (rest := [.ref 229]) rfl rfl rfl (by decide) (by decide) rfl (q_dc (z := (48, .invokevirtual 127, 3, 0, 0)) tk_X9_passes 27 rfl) (Nat.le_of_ble_eq_true rfl) ⟨Nat.le_of_ble_eq_true rfl, Nat.le_of_ble_eq_true rfl⟩ ⟨Nat.le_of_ble_eq_true rfl, Nat.le_of_ble_eq_true rfl⟩ ?_
      refine q_nrm 51 [.int (F_X9_isRefused t σ5).1, .ref 229] 0 0 rfl rfl rfl rfl ?_
      generalize e8 : (F_X9_isRefused t σ5).2 = σ7
      replace hF := q_let e8 hF
      refine q_go C tk_X9_passes [(28, 1)] [] (pc1 := 52) (σ1 := σ7) (lv1 := [(0, .ref 229), (1, .int t)]) (st1 := [.int 3, .int (F_X9_isRefused t σ5).1, .ref 229]) rfl trivial ?_
      by_cases c9 : (F_X9_isRefused t σ5).1 = 0
      · rw [if_pos c9] at hF
        refine q_callV C hfl mw_X9_isThrown mi_X9_isThrown me_X9_isThrown lk_X9_63 (k_X9_isThrownZ (F_X9_isRefused t σ5).1 3 σ7 c9) (rest := []) rfl rfl rfl (by decide) (by decide) rfl (q_dc (z := (52, .invokevirtual 63, 3, 0, 0)) tk_X9_passes 29 rfl) (Nat.le_of_ble_eq_true rfl) ⟨Nat.le_of_ble_eq_true rfl, Nat.le_of_ble_eq_true rfl⟩ ⟨Nat.le_of_ble_eq_true rfl, Nat.le_of_ble_eq_true rfl⟩ ?_
        refine q_nrm 55 [.int (F_X9_isRefused t σ5).1] 0 0 rfl rfl rfl rfl ?_
        refine q_go C tk_X9_passes [(30, 1), (33, 3)] [true] (pc1 := 64) (σ1 := (q_up σ7 229 5 0)) (lv1 := [(0, .ref 229), (1, .int t)]) (st1 := [.int 8, .int t, .ref 229]) rfl ⟨c9, trivial⟩ ?_
        generalize e11 : (q_up σ7 229 5 0) = σ10
        replace hF := q_let e11 hF
        refine q_callV C hfl mw_X9_of mi_X9_of me_X9_of lk_X9_52 (k_X9_of t 8 σ10 (((((((hP.2 c1) σ2 e3).2.1 c4) σ5 e6).2 σ7 e8).1 c9) σ10 e11).1) (rest := []) rfl rfl rfl (by decide) (by decide) rfl (q_dc (z := (64, .invokevirtual 52, 3, 0, 0)) tk_X9_passes 36 rfl) (Nat.le_of_ble_eq_true rfl) ⟨Nat.le_of_ble_eq_true rfl, Nat.le_of_ble_eq_true rfl⟩ ⟨Nat.le_of_ble_eq_true rfl, Nat.le_of_ble_eq_true rfl⟩ ?_
        refine q_nrm 67 [.int (F_X9_of t 8 σ10)] 0 0 rfl rfl rfl rfl ?_
        generalize e13 : (F_X9_of t 8 σ10) = x12
        replace hF := q_let e13 hF
        refine q_go C tk_X9_passes [(37, 4)] [] (pc1 := 72) (σ1 := σ10) (lv1 := [(2, .int x12), (0, .ref 229), (1, .int t)]) (st1 := [.int 7, .int t, .ref 229]) rfl trivial ?_
        refine q_callV C hfl mw_X9_of mi_X9_of me_X9_of lk_X9_52 (k_X9_of t 7 σ10 ((((((((hP.2 c1) σ2 e3).2.1 c4) σ5 e6).2 σ7 e8).1 c9) σ10 e11).2 x12 e13).1) (rest := []) rfl rfl rfl (by decide) (by decide) rfl (q_dc (z := (72, .invokevirtual 52, 3, 0, 0)) tk_X9_passes 41 rfl) (Nat.le_of_ble_eq_true rfl) ⟨Nat.le_of_ble_eq_true rfl, Nat.le_of_ble_eq_true rfl⟩ ⟨Nat.le_of_ble_eq_true rfl, Nat.le_of_ble_eq_true rfl⟩ ?_
        refine q_nrm 75 [.int (F_X9_of t 7 σ10)] 0 0 rfl rfl rfl rfl ?_
        refine q_go C tk_X9_passes [(42, 2)] [] (pc1 := 77) (σ1 := σ10) (lv1 := [(2, .int x12), (0, .ref 229), (1, .int t)]) (st1 := [.int x12, .ref 229, .int (F_X9_of t 7 σ10)]) rfl trivial ?_
        refine q_callV C hfl mw_X9_endOf mi_X9_endOf me_X9_endOf lk_X9_96 (k_X9_endOf x12 σ10) (rest := [.int (F_X9_of t 7 σ10)]) rfl rfl rfl (by decide) (by decide) rfl (q_dc (z := (77, .invokevirtual 96, 3, 0, 0)) tk_X9_passes 44 rfl) (Nat.le_of_ble_eq_true rfl) ⟨Nat.le_of_ble_eq_true rfl, Nat.le_of_ble_eq_true rfl⟩ ⟨Nat.le_of_ble_eq_true rfl, Nat.le_of_ble_eq_true rfl⟩ ?_
        refine q_nrm 80 [.int (F_X9_endOf x12 σ10), .int (F_X9_of t 7 σ10)] 0 0 rfl rfl rfl rfl ?_
        refine q_go C tk_X9_passes [(45, 2)] [] (pc1 := 83) (σ1 := σ10) (lv1 := [(2, .int x12), (0, .ref 229), (1, .int t)]) (st1 := [.int ((F_X9_endOf x12 σ10) + 100), .int (F_X9_of t 7 σ10)]) rfl trivial ?_
        by_cases c14 : ((F_X9_endOf x12 σ10) + 100) < (F_X9_of t 7 σ10)
        · rw [if_pos c14] at hF
          refine q_go C tk_X9_passes [(47, 5)] [false] (pc1 := 91) (σ1 := σ10) (lv1 := [(2, .int x12), (0, .ref 229), (1, .int t)]) (st1 := [.int 1, .int 11, .int t, .ref 229]) rfl ⟨c14, trivial⟩ ?_
          refine q_callV C hfl mw_X9_sets mi_X9_sets me_X9_sets lk_X9_67 (k_X9_sets t 11 1 σ10 (((((((((hP.2 c1) σ2 e3).2.1 c4) σ5 e6).2 σ7 e8).1 c9) σ10 e11).2 x12 e13).2.1 c14).1) (rest := []) rfl rfl rfl (by decide) (by decide) rfl (q_dc (z := (91, .invokevirtual 67, 3, 0, 0)) tk_X9_passes 52 rfl) (Nat.le_of_ble_eq_true rfl) ⟨Nat.le_of_ble_eq_true rfl, Nat.le_of_ble_eq_true rfl⟩ ⟨Nat.le_of_ble_eq_true rfl, Nat.le_of_ble_eq_true rfl⟩ ?_
          refine q_nrm 94 [] 0 0 rfl rfl rfl rfl ?_
          generalize e16 : (F_X9_sets t 11 1 σ10) = σ15
          replace hF := q_let e16 hF
          refine q_go C tk_X9_passes [(53, 7)] [] (pc1 := 104) (σ1 := σ15) (lv1 := [(2, .int x12), (0, .ref 229), (1, .int t)]) (st1 := [.int 13, .int t, .ref 229, .int (σ15 230 2)]) rfl ⟨rfl, rfl, (by unfold vp_in; decide +kernel), trivial⟩ ?_
          refine q_callV C hfl mw_X9_of mi_X9_of me_X9_of lk_X9_52 (k_X9_of t 13 σ15 ((((((((((hP.2 c1) σ2 e3).2.1 c4) σ5 e6).2 σ7 e8).1 c9) σ10 e11).2 x12 e13).2.1 c14).2 σ15 e16).1) (rest := [.int (σ15 230 2)]) rfl rfl rfl (by decide) (by decide) rfl (q_dc (z := (104, .invokevirtual 52, 3, 0, 0)) tk_X9_passes 60 rfl) (Nat.le_of_ble_eq_true rfl) ⟨Nat.le_of_ble_eq_true rfl, Nat.le_of_ble_eq_true rfl⟩ ⟨Nat.le_of_ble_eq_true rfl, Nat.le_of_ble_eq_true rfl⟩ ?_
          refine q_nrm 107 [.int (F_X9_of t 13 σ15), .int (σ15 230 2)] 0 0 rfl rfl rfl rfl ?_
          refine q_go C tk_X9_passes [(61, 1)] [] (pc1 := 108) (σ1 := σ15) (lv1 := [(2, .int x12), (0, .ref 229), (1, .int t)]) (st1 := [.int ((σ15 230 2) - (F_X9_of t 13 σ15))]) rfl trivial ?_
          generalize e18 : ((σ15 230 2) - (F_X9_of t 13 σ15)) = x17
          replace hF := q_let e18 hF
          refine q_go C tk_X9_passes [(62, 9)] [] (pc1 := 118) (σ1 := σ15) (lv1 := [(3, .int x17), (2, .int x12), (0, .ref 229), (1, .int t)]) (st1 := [.int (1 + x17), .int (14 + x12), .int t, .ref 229]) rfl trivial ?_
          refine q_callV C hfl mw_X9_sets mi_X9_sets me_X9_sets lk_X9_67 (k_X9_sets t (14 + x12) (1 + x17) σ15 (((((((((((hP.2 c1) σ2 e3).2.1 c4) σ5 e6).2 σ7 e8).1 c9) σ10 e11).2 x12 e13).2.1 c14).2 σ15 e16).2 x17 e18).1) (rest := []) rfl rfl rfl (by decide) (by decide) rfl (q_dc (z := (118, .invokevirtual 67, 3, 0, 0)) tk_X9_passes 71 rfl) (Nat.le_of_ble_eq_true rfl) ⟨Nat.le_of_ble_eq_true rfl, Nat.le_of_ble_eq_true rfl⟩ ⟨Nat.le_of_ble_eq_true rfl, Nat.le_of_ble_eq_true rfl⟩ ?_
          refine q_nrm 121 [] 0 0 rfl rfl rfl rfl ?_
          generalize e20 : (F_X9_sets t (14 + x12) (1 + x17) σ15) = σ19
          replace hF := q_let e20 hF
          refine q_go C tk_X9_passes [(72, 7)] [] (pc1 := 131) (σ1 := σ19) (lv1 := [(3, .int x17), (2, .int x12), (0, .ref 229), (1, .int t)]) (st1 := [.int (σ19 230 2), .int 13, .int t, .ref 229]) rfl ⟨rfl, rfl, (by unfold vp_in; decide +kernel), trivial⟩ ?_
          refine q_callV C hfl mw_X9_sets mi_X9_sets me_X9_sets lk_X9_67 (k_X9_sets t 13 (σ19 230 2) σ19 ((((((((((((hP.2 c1) σ2 e3).2.1 c4) σ5 e6).2 σ7 e8).1 c9) σ10 e11).2 x12 e13).2.1 c14).2 σ15 e16).2 x17 e18).2 σ19 e20).1) (rest := []) rfl rfl rfl (by decide) (by decide) rfl (q_dc (z := (131, .invokevirtual 67, 3, 0, 0)) tk_X9_passes 79 rfl) (Nat.le_of_ble_eq_true rfl) ⟨Nat.le_of_ble_eq_true rfl, Nat.le_of_ble_eq_true rfl⟩ ⟨Nat.le_of_ble_eq_true rfl, Nat.le_of_ble_eq_true rfl⟩ ?_
          refine q_nrm 134 [] 0 0 rfl rfl rfl rfl ?_
          generalize e22 : (F_X9_sets t 13 (σ19 230 2) σ19) = σ21
          replace hF := q_let e22 hF
          refine q_go C tk_X9_passes [(80, 6)] [] (pc1 := 141) (σ1 := σ21) (lv1 := [(3, .int x17), (2, .int x12), (0, .ref 229), (1, .int t)]) (st1 := [.int (x12 + 1), .int 8, .int t, .ref 229]) rfl trivial ?_
          refine q_callV C hfl mw_X9_sets mi_X9_sets me_X9_sets lk_X9_67 (k_X9_sets t 8 (x12 + 1) σ21 (((((((((((((hP.2 c1) σ2 e3).2.1 c4) σ5 e6).2 σ7 e8).1 c9) σ10 e11).2 x12 e13).2.1 c14).2 σ15 e16).2 x17 e18).2 σ19 e20).2 σ21 e22).1) (rest := []) rfl rfl rfl (by decide) (by decide) rfl (q_dc (z := (141, .invokevirtual 67, 3, 0, 0)) tk_X9_passes 86 rfl) (Nat.le_of_ble_eq_true rfl) ⟨Nat.le_of_ble_eq_true rfl, Nat.le_of_ble_eq_true rfl⟩ ⟨Nat.le_of_ble_eq_true rfl, Nat.le_of_ble_eq_true rfl⟩ ?_
          refine q_nrm 144 [] 0 0 rfl rfl rfl rfl ?_
          generalize e24 : (F_X9_sets t 8 (x12 + 1) σ21) = σ23
          replace hF := q_let e24 hF
          refine q_go C tk_X9_passes [(87, 4)] [] (pc1 := 149) (σ1 := σ23) (lv1 := [(3, .int x17), (2, .int x12), (0, .ref 229), (1, .int t)]) (st1 := [.int 0, .int 9, .int t, .ref 229]) rfl trivial ?_
          refine q_callV C hfl mw_X9_sets mi_X9_sets me_X9_sets lk_X9_67 (k_X9_sets t 9 0 σ23 ((((((((((((((hP.2 c1) σ2 e3).2.1 c4) σ5 e6).2 σ7 e8).1 c9) σ10 e11).2 x12 e13).2.1 c14).2 σ15 e16).2 x17 e18).2 σ19 e20).2 σ21 e22).2 σ23 e24).1) (rest := []) rfl rfl rfl (by decide) (by decide) rfl (q_dc (z := (149, .invokevirtual 67, 3, 0, 0)) tk_X9_passes 91 rfl) (Nat.le_of_ble_eq_true rfl) ⟨Nat.le_of_ble_eq_true rfl, Nat.le_of_ble_eq_true rfl⟩ ⟨Nat.le_of_ble_eq_true rfl, Nat.le_of_ble_eq_true rfl⟩ ?_
          refine q_nrm 152 [] 0 0 rfl rfl rfl rfl ?_
          generalize e26 : (F_X9_sets t 9 0 σ23) = σ25
          replace hF := q_let e26 hF
          refine q_go C tk_X9_passes [(92, 1)] [] (pc1 := 153) (σ1 := σ25) (lv1 := [(3, .int x17), (2, .int x12), (0, .ref 229), (1, .int t)]) (st1 := [.int x17]) rfl trivial ?_
          exact q_iret C hr (q_dc (z := (153, .ireturn, 1, 0, 0)) tk_X9_passes 93 rfl) (congrArg Prod.snd hF) (congrArg (fun z => q_oi z.1) hF.symm) (Nat.le_of_ble_eq_true rfl) (Nat.le_of_ble_eq_true rfl)
        · rw [if_neg c14] at hF
          refine q_go C tk_X9_passes [(47, 1), (53, 7)] [true] (pc1 := 104) (σ1 := σ10) (lv1 := [(2, .int x12), (0, .ref 229), (1, .int t)]) (st1 := [.int 13, .int t, .ref 229, .int (σ10 230 2)]) rfl ⟨c14, rfl, rfl, (by unfold vp_in; decide +kernel), trivial⟩ ?_
          refine q_callV C hfl mw_X9_of mi_X9_of me_X9_of lk_X9_52 (k_X9_of t 13 σ10 (((((((((hP.2 c1) σ2 e3).2.1 c4) σ5 e6).2 σ7 e8).1 c9) σ10 e11).2 x12 e13).2.2 c14).1) (rest := [.int (σ10 230 2)]) rfl rfl rfl (by decide) (by decide) rfl (q_dc (z := (104, .invokevirtual 52, 3, 0, 0)) tk_X9_passes 60 rfl) (Nat.le_of_ble_eq_true rfl) ⟨Nat.le_of_ble_eq_true rfl, Nat.le_of_ble_eq_true rfl⟩ ⟨Nat.le_of_ble_eq_true rfl, Nat.le_of_ble_eq_true rfl⟩ ?_
          refine q_nrm 107 [.int (F_X9_of t 13 σ10), .int (σ10 230 2)] 0 0 rfl rfl rfl rfl ?_
          refine q_go C tk_X9_passes [(61, 1)] [] (pc1 := 108) (σ1 := σ10) (lv1 := [(2, .int x12), (0, .ref 229), (1, .int t)]) (st1 := [.int ((σ10 230 2) - (F_X9_of t 13 σ10))]) rfl trivial ?_
          generalize e28 : ((σ10 230 2) - (F_X9_of t 13 σ10)) = x27
          replace hF := q_let e28 hF
          refine q_go C tk_X9_passes [(62, 9)] [] (pc1 := 118) (σ1 := σ10) (lv1 := [(3, .int x27), (2, .int x12), (0, .ref 229), (1, .int t)]) (st1 := [.int (1 + x27), .int (14 + x12), .int t, .ref 229]) rfl trivial ?_
          refine q_callV C hfl mw_X9_sets mi_X9_sets me_X9_sets lk_X9_67 (k_X9_sets t (14 + x12) (1 + x27) σ10 ((((((((((hP.2 c1) σ2 e3).2.1 c4) σ5 e6).2 σ7 e8).1 c9) σ10 e11).2 x12 e13).2.2 c14).2 x27 e28).1) (rest := []) rfl rfl rfl (by decide) (by decide) rfl (q_dc (z := (118, .invokevirtual 67, 3, 0, 0)) tk_X9_passes 71 rfl) (Nat.le_of_ble_eq_true rfl) ⟨Nat.le_of_ble_eq_true rfl, Nat.le_of_ble_eq_true rfl⟩ ⟨Nat.le_of_ble_eq_true rfl, Nat.le_of_ble_eq_true rfl⟩ ?_
          refine q_nrm 121 [] 0 0 rfl rfl rfl rfl ?_
          generalize e30 : (F_X9_sets t (14 + x12) (1 + x27) σ10) = σ29
          replace hF := q_let e30 hF
          refine q_go C tk_X9_passes [(72, 7)] [] (pc1 := 131) (σ1 := σ29) (lv1 := [(3, .int x27), (2, .int x12), (0, .ref 229), (1, .int t)]) (st1 := [.int (σ29 230 2), .int 13, .int t, .ref 229]) rfl ⟨rfl, rfl, (by unfold vp_in; decide +kernel), trivial⟩ ?_
          refine q_callV C hfl mw_X9_sets mi_X9_sets me_X9_sets lk_X9_67 (k_X9_sets t 13 (σ29 230 2) σ29 (((((((((((hP.2 c1) σ2 e3).2.1 c4) σ5 e6).2 σ7 e8).1 c9) σ10 e11).2 x12 e13).2.2 c14).2 x27 e28).2 σ29 e30).1) (rest := []) rfl rfl rfl (by decide) (by decide) rfl (q_dc (z := (131, .invokevirtual 67, 3, 0, 0)) tk_X9_passes 79 rfl) (Nat.le_of_ble_eq_true rfl) ⟨Nat.le_of_ble_eq_true rfl, Nat.le_of_ble_eq_true rfl⟩ ⟨Nat.le_of_ble_eq_true rfl, Nat.le_of_ble_eq_true rfl⟩ ?_
          refine q_nrm 134 [] 0 0 rfl rfl rfl rfl ?_
          generalize e32 : (F_X9_sets t 13 (σ29 230 2) σ29) = σ31
          replace hF := q_let e32 hF
          refine q_go C tk_X9_passes [(80, 6)] [] (pc1 := 141) (σ1 := σ31) (lv1 := [(3, .int x27), (2, .int x12), (0, .ref 229), (1, .int t)]) (st1 := [.int (x12 + 1), .int 8, .int t, .ref 229]) rfl trivial ?_
          refine q_callV C hfl mw_X9_sets mi_X9_sets me_X9_sets lk_X9_67 (k_X9_sets t 8 (x12 + 1) σ31 ((((((((((((hP.2 c1) σ2 e3).2.1 c4) σ5 e6).2 σ7 e8).1 c9) σ10 e11).2 x12 e13).2.2 c14).2 x27 e28).2 σ29 e30).2 σ31 e32).1) (rest := []) rfl rfl rfl (by decide) (by decide) rfl (q_dc (z := (141, .invokevirtual 67, 3, 0, 0)) tk_X9_passes 86 rfl) (Nat.le_of_ble_eq_true rfl) ⟨Nat.le_of_ble_eq_true rfl, Nat.le_of_ble_eq_true rfl⟩ ⟨Nat.le_of_ble_eq_true rfl, Nat.le_of_ble_eq_true rfl⟩ ?_
          refine q_nrm 144 [] 0 0 rfl rfl rfl rfl ?_
          generalize e34 : (F_X9_sets t 8 (x12 + 1) σ31) = σ33
          replace hF := q_let e34 hF
          refine q_go C tk_X9_passes [(87, 4)] [] (pc1 := 149) (σ1 := σ33) (lv1 := [(3, .int x27), (2, .int x12), (0, .ref 229), (1, .int t)]) (st1 := [.int 0, .int 9, .int t, .ref 229]) rfl trivial ?_
          refine q_callV C hfl mw_X9_sets mi_X9_sets me_X9_sets lk_X9_67 (k_X9_sets t 9 0 σ33 (((((((((((((hP.2 c1) σ2 e3).2.1 c4) σ5 e6).2 σ7 e8).1 c9) σ10 e11).2 x12 e13).2.2 c14).2 x27 e28).2 σ29 e30).2 σ31 e32).2 σ33 e34).1) (rest := []) rfl rfl rfl (by decide) (by decide) rfl (q_dc (z := (149, .invokevirtual 67, 3, 0, 0)) tk_X9_passes 91 rfl) (Nat.le_of_ble_eq_true rfl) ⟨Nat.le_of_ble_eq_true rfl, Nat.le_of_ble_eq_true rfl⟩ ⟨Nat.le_of_ble_eq_true rfl, Nat.le_of_ble_eq_true rfl⟩ ?_
          refine q_nrm 152 [] 0 0 rfl rfl rfl rfl ?_
          generalize e36 : (F_X9_sets t 9 0 σ33) = σ35
          replace hF := q_let e36 hF
          refine q_go C tk_X9_passes [(92, 1)] [] (pc1 := 153) (σ1 := σ35) (lv1 := [(3, .int x27), (2, .int x12), (0, .ref 229), (1, .int t)]) (st1 := [.int x27]) rfl trivial ?_
          exact q_iret C hr (q_dc (z := (153, .ireturn, 1, 0, 0)) tk_X9_passes 93 rfl) (congrArg Prod.snd hF) (congrArg (fun z => q_oi z.1) hF.symm) (Nat.le_of_ble_eq_true rfl) (Nat.le_of_ble_eq_true rfl)
      · rw [if_neg c9] at hF
        refine q_callV C hfl mw_X9_isThrown mi_X9_isThrown me_X9_isThrown lk_X9_63 (k_X9_isThrownN (F_X9_isRefused t σ5).1 3 σ7 c9 (z_X9_isRefused)) (rest := []) rfl rfl rfl (by decide) (by decide) rfl (q_dc (z := (52, .invokevirtual 63, 3, 0, 0)) tk_X9_passes 29 rfl) (Nat.le_of_ble_eq_true rfl) ⟨Nat.le_of_ble_eq_true rfl, Nat.le_of_ble_eq_true rfl⟩ ⟨Nat.le_of_ble_eq_true rfl, Nat.le_of_ble_eq_true rfl⟩ ?_
        refine q_nrm 55 [.int (F_X9_isRefused t σ5).1] 0 0 rfl rfl rfl rfl ?_
        refine q_go C tk_X9_passes [(30, 2)] [false] (pc1 := 59) (σ1 := (q_up σ7 229 5 3)) (lv1 := [(0, .ref 229), (1, .int t)]) (st1 := [.int 0]) rfl ⟨c9, trivial⟩ ?_
        exact q_iret C hr (q_dc (z := (59, .ireturn, 1, 0, 0)) tk_X9_passes 32 rfl) (congrArg Prod.snd hF) (congrArg (fun z => q_oi z.1) hF.symm) (Nat.le_of_ble_eq_true rfl) (Nat.le_of_ble_eq_true rfl)
    · rw [if_neg c4] at hF
      refine q_go C tk_X9_passes [(17, 3), (21, 1)] [false] (pc1 := 39) (σ1 := σ2) (lv1 := [(0, .ref 229), (1, .int t)]) (st1 := [.int 2, .int 1, .ref 229]) rfl ⟨c4, trivial⟩ ?_
      refine q_callV C hfl mw_X9_isThrown mi_X9_isThrown me_X9_isThrown lk_X9_63 (k_X9_isThrownN 1 2 σ2 (by decide) (by decide)) (rest := []) rfl rfl rfl (by decide) (by decide) rfl (q_dc (z := (39, .invokevirtual 63, 3, 0, 0)) tk_X9_passes 22 rfl) (Nat.le_of_ble_eq_true rfl) ⟨Nat.le_of_ble_eq_true rfl, Nat.le_of_ble_eq_true rfl⟩ ⟨Nat.le_of_ble_eq_true rfl, Nat.le_of_ble_eq_true rfl⟩ ?_
      refine q_nrm 42 [.int 1] 0 0 rfl rfl rfl rfl ?_
      refine q_go C tk_X9_passes [(23, 1), (31, 1)] [true] (pc1 := 59) (σ1 := (q_up σ2 229 5 2)) (lv1 := [(0, .ref 229), (1, .int t)]) (st1 := [.int 0]) rfl ⟨(by decide : ¬ (1 : Int32) = 0), trivial⟩ ?_
      exact q_iret C hr (q_dc (z := (59, .ireturn, 1, 0, 0)) tk_X9_passes 32 rfl) (congrArg Prod.snd hF) (congrArg (fun z => q_oi z.1) hF.symm) (Nat.le_of_ble_eq_true rfl) (Nat.le_of_ble_eq_true rfl)
def F_X9_drops (t : Int32) (n : Int32) (σ : q_M) : (Int32) × q_M := (if (F_X9_isTeam t σ) = 0 then (0, (q_up σ 229 5 1)) else (q_L (q_up σ 229 5 0) (fun σ2 : q_M => (if (F_X9_isIn n 1 20 σ2) = 0 then (0, (q_up σ2 229 5 2)) else (q_L (q_up σ2 229 5 0) (fun σ5 : q_M => (if (F_X9_of t 6 σ5) = 1 then (q_L (q_up σ5 229 5 0) (fun σ8 : q_M => (if (F_X9_inZone t σ8) = 0 then (q_L (F_X9_sets t 10 ((F_X9_of t 10 σ8) + n) σ8) (fun σ11 : q_M => ((F_X9_of t 10 σ11), σ11))) else (q_L (F_X9_sets t 12 1 σ8) (fun σ13 : q_M => (q_L (F_X9_sets t 10 ((F_X9_of t 10 σ13) + n) σ13) (fun σ15 : q_M => ((F_X9_of t 10 σ15), σ15)))))))) else (0, (q_up σ5 229 5 3)))))))))
def P_X9_drops (t : Int32) (n : Int32) (σ : q_M) : Prop := (((F_X9_isTeam t σ) = 0 → True) ∧ (¬ (F_X9_isTeam t σ) = 0 → (∀ σ2 : q_M, (q_up σ 229 5 0) = σ2 → (((F_X9_isIn n 1 20 σ2) = 0 → True) ∧ (¬ (F_X9_isIn n 1 20 σ2) = 0 → (∀ σ5 : q_M, (q_up σ2 229 5 0) = σ5 → ((P_X9_of t 6 σ5) ∧ (((F_X9_of t 6 σ5) = 1 → (∀ σ8 : q_M, (q_up σ5 229 5 0) = σ8 → ((P_X9_inZone t σ8) ∧ (((F_X9_inZone t σ8) = 0 → ((P_X9_of t 10 σ8) ∧ ((P_X9_sets t 10 ((F_X9_of t 10 σ8) + n) σ8) ∧ (∀ σ11 : q_M, (F_X9_sets t 10 ((F_X9_of t 10 σ8) + n) σ8) = σ11 → ((P_X9_of t 10 σ11) ∧ True))))) ∧ (¬ (F_X9_inZone t σ8) = 0 → ((P_X9_sets t 12 1 σ8) ∧ (∀ σ13 : q_M, (F_X9_sets t 12 1 σ8) = σ13 → ((P_X9_of t 10 σ13) ∧ ((P_X9_sets t 10 ((F_X9_of t 10 σ13) + n) σ13) ∧ (∀ σ15 : q_M, (F_X9_sets t 10 ((F_X9_of t 10 σ13) + n) σ13) = σ15 → ((P_X9_of t 10 σ15) ∧ True))))))))))) ∧ (¬ (F_X9_of t 6 σ5) = 1 → True)))))))))
set_option maxRecDepth 100000 in
theorem k_X9_drops {α β : Nat → Nat} {D : va_G} {κ : Nat → ClassId} (t : Int32) (n : Int32) (σ : q_M) (hP : P_X9_drops t n σ) : q_C α β D κ yX9_drops cX9_drops 3 (Option.some Jvm.ClassFile.FieldType.int) 2 45 0 0 [.ref 229, .int t, .int n] σ (q_oi (F_X9_drops t n σ).1) (F_X9_drops t n σ).2 := by
  refine q_enter (own := RX9) (F := F_X9) (G := G_X9) (by decide +kernel) rfl Fok_X9 Gok_X9 (Nat.le_of_ble_eq_true rfl) (fun p l e s m args below meth c A hfl C hr hT => ?_)
  generalize hF : F_X9_drops t n σ = r
  unfold F_X9_drops at hF
  refine q_go C tk_X9_drops [(0, 3)] [] (pc1 := 3) (σ1 := σ) (lv1 := [(0, .ref 229), (1, .int t), (2, .int n)]) (st1 := [.int t, .ref 229, .ref 229]) rfl trivial ?_
  refine q_callV C hfl mw_X9_isTeam mi_X9_isTeam me_X9_isTeam lk_X9_75 (k_X9_isTeam t σ) (rest := [.ref 229]) rfl rfl rfl (by decide) (by decide) rfl (q_dc (z := (3, .invokevirtual 75, 3, 0, 0)) tk_X9_drops 3 rfl) (Nat.le_of_ble_eq_true rfl) ⟨Nat.le_of_ble_eq_true rfl, Nat.le_of_ble_eq_true rfl⟩ ⟨Nat.le_of_ble_eq_true rfl, Nat.le_of_ble_eq_true rfl⟩ ?_
  refine q_nrm 6 [.int (F_X9_isTeam t σ), .ref 229] 0 0 rfl rfl rfl rfl ?_
  by_cases c1 : (F_X9_isTeam t σ) = 0
  · rw [if_pos c1] at hF
    refine q_go C tk_X9_drops [(4, 3), (8, 1)] [false] (pc1 := 15) (σ1 := σ) (lv1 := [(0, .ref 229), (1, .int t), (2, .int n)]) (st1 := [.int 1, .int 1, .ref 229]) rfl ⟨c1, trivial⟩ ?_
    refine q_callV C hfl mw_X9_isThrown mi_X9_isThrown me_X9_isThrown lk_X9_63 (k_X9_isThrownN 1 1 σ (by decide) (by decide)) (rest := []) rfl rfl rfl (by decide) (by decide) rfl (q_dc (z := (15, .invokevirtual 63, 3, 0, 0)) tk_X9_drops 9 rfl) (Nat.le_of_ble_eq_true rfl) ⟨Nat.le_of_ble_eq_true rfl, Nat.le_of_ble_eq_true rfl⟩ ⟨Nat.le_of_ble_eq_true rfl, Nat.le_of_ble_eq_true rfl⟩ ?_
    refine q_nrm 18 [.int 1] 0 0 rfl rfl rfl rfl ?_
    refine q_go C tk_X9_drops [(10, 1), (36, 1)] [true] (pc1 := 69) (σ1 := (q_up σ 229 5 1)) (lv1 := [(0, .ref 229), (1, .int t), (2, .int n)]) (st1 := [.int 0]) rfl ⟨(by decide : ¬ (1 : Int32) = 0), trivial⟩ ?_
    exact q_iret C hr (q_dc (z := (69, .ireturn, 1, 0, 0)) tk_X9_drops 37 rfl) (congrArg Prod.snd hF) (congrArg (fun z => q_oi z.1) hF.symm) (Nat.le_of_ble_eq_true rfl) (Nat.le_of_ble_eq_true rfl)
  · rw [if_neg c1] at hF
    refine q_go C tk_X9_drops [(4, 1), (7, 2)] [true] (pc1 := 15) (σ1 := σ) (lv1 := [(0, .ref 229), (1, .int t), (2, .int n)]) (st1 := [.int 1, .int 0, .ref 229]) rfl ⟨c1, trivial⟩ ?_
    refine q_callV C hfl mw_X9_isThrown mi_X9_isThrown me_X9_isThrown lk_X9_63 (k_X9_isThrownZ 0 1 σ (by decide)) (rest := []) rfl rfl rfl (by decide) (by decide) rfl (q_dc (z := (15, .invokevirtual 63, 3, 0, 0)) tk_X9_drops 9 rfl) (Nat.le_of_ble_eq_true rfl) ⟨Nat.le_of_ble_eq_true rfl, Nat.le_of_ble_eq_true rfl⟩ ⟨Nat.le_of_ble_eq_true rfl, Nat.le_of_ble_eq_true rfl⟩ ?_
    refine q_nrm 18 [.int 0] 0 0 rfl rfl rfl rfl ?_
    refine q_go C tk_X9_drops [(10, 5)] [false] (pc1 := 26) (σ1 := (q_up σ 229 5 0)) (lv1 := [(0, .ref 229), (1, .int t), (2, .int n)]) (st1 := [.int 20, .int 1, .int n, .ref 229]) rfl ⟨(by decide : (0 : Int32) = 0), trivial⟩ ?_
    generalize e3 : (q_up σ 229 5 0) = σ2
    replace hF := q_let e3 hF
    refine q_callS C hfl mw_X9_isIn ms_X9_isIn lk_X9_48 (k_X9_isIn n 1 20 σ2) (rest := [.ref 229]) rfl rfl (q_dc (z := (26, .invokestatic 48, 3, 0, 0)) tk_X9_drops 15 rfl) (Nat.le_of_ble_eq_true rfl) ⟨Nat.le_of_ble_eq_true rfl, Nat.le_of_ble_eq_true rfl⟩ ⟨Nat.le_of_ble_eq_true rfl, Nat.le_of_ble_eq_true rfl⟩ ?_
    refine q_nrm 29 [.int (F_X9_isIn n 1 20 σ2), .ref 229] 0 0 rfl rfl rfl rfl ?_
    by_cases c4 : (F_X9_isIn n 1 20 σ2) = 0
    · rw [if_pos c4] at hF
      refine q_go C tk_X9_drops [(16, 3), (20, 1)] [false] (pc1 := 38) (σ1 := σ2) (lv1 := [(0, .ref 229), (1, .int t), (2, .int n)]) (st1 := [.int 2, .int 1, .ref 229]) rfl ⟨c4, trivial⟩ ?_
      refine q_callV C hfl mw_X9_isThrown mi_X9_isThrown me_X9_isThrown lk_X9_63 (k_X9_isThrownN 1 2 σ2 (by decide) (by decide)) (rest := []) rfl rfl rfl (by decide) (by decide) rfl (q_dc (z := (38, .invokevirtual 63, 3, 0, 0)) tk_X9_drops 21 rfl) (Nat.le_of_ble_eq_true rfl) ⟨Nat.le_of_ble_eq_true rfl, Nat.le_of_ble_eq_true rfl⟩ ⟨Nat.le_of_ble_eq_true rfl, Nat.le_of_ble_eq_true rfl⟩ ?_
      refine q_nrm 41 [.int 1] 0 0 rfl rfl rfl rfl ?_
      refine q_go C tk_X9_drops [(22, 1), (36, 1)] [true] (pc1 := 69) (σ1 := (q_up σ2 229 5 2)) (lv1 := [(0, .ref 229), (1, .int t), (2, .int n)]) (st1 := [.int 0]) rfl ⟨(by decide : ¬ (1 : Int32) = 0), trivial⟩ ?_
      exact q_iret C hr (q_dc (z := (69, .ireturn, 1, 0, 0)) tk_X9_drops 37 rfl) (congrArg Prod.snd hF) (congrArg (fun z => q_oi z.1) hF.symm) (Nat.le_of_ble_eq_true rfl) (Nat.le_of_ble_eq_true rfl)
    · rw [if_neg c4] at hF
      refine q_go C tk_X9_drops [(16, 1), (19, 2)] [true] (pc1 := 38) (σ1 := σ2) (lv1 := [(0, .ref 229), (1, .int t), (2, .int n)]) (st1 := [.int 2, .int 0, .ref 229]) rfl ⟨c4, trivial⟩ ?_
      refine q_callV C hfl mw_X9_isThrown mi_X9_isThrown me_X9_isThrown lk_X9_63 (k_X9_isThrownZ 0 2 σ2 (by decide)) (rest := []) rfl rfl rfl (by decide) (by decide) rfl (q_dc (z := (38, .invokevirtual 63, 3, 0, 0)) tk_X9_drops 21 rfl) (Nat.le_of_ble_eq_true rfl) ⟨Nat.le_of_ble_eq_true rfl, Nat.le_of_ble_eq_true rfl⟩ ⟨Nat.le_of_ble_eq_true rfl, Nat.le_of_ble_eq_true rfl⟩ ?_
      refine q_nrm 41 [.int 0] 0 0 rfl rfl rfl rfl ?_
      refine q_go C tk_X9_drops [(22, 5)] [false] (pc1 := 49) (σ1 := (q_up σ2 229 5 0)) (lv1 := [(0, .ref 229), (1, .int t), (2, .int n)]) (st1 := [.int 6, .int t, .ref 229, .ref 229]) rfl ⟨(by decide : (0 : Int32) = 0), trivial⟩ ?_
      generalize e6 : (q_up σ2 229 5 0) = σ5
      replace hF := q_let e6 hF
      refine q_callV C hfl mw_X9_of mi_X9_of me_X9_of lk_X9_52 (k_X9_of t 6 σ5 ((((hP.2 c1) σ2 e3).2 c4) σ5 e6).1) (rest := [.ref 229]) rfl rfl rfl (by decide) (by decide) rfl (q_dc (z := (49, .invokevirtual 52, 3, 0, 0)) tk_X9_drops 27 rfl) (Nat.le_of_ble_eq_true rfl) ⟨Nat.le_of_ble_eq_true rfl, Nat.le_of_ble_eq_true rfl⟩ ⟨Nat.le_of_ble_eq_true rfl, Nat.le_of_ble_eq_true rfl⟩ ?_
      refine q_nrm 52 [.int (F_X9_of t 6 σ5), .ref 229] 0 0 rfl rfl rfl rfl ?_
      refine q_go C tk_X9_drops [(28, 1)] [] (pc1 := 53) (σ1 := σ5) (lv1 := [(0, .ref 229), (1, .int t), (2, .int n)]) (st1 := [.int 1, .int (F_X9_of t 6 σ5), .ref 229]) rfl trivial ?_
      by_cases c7 : (F_X9_of t 6 σ5) = 1
      · rw [if_pos c7] at hF
        refine q_go C tk_X9_drops [(29, 1), (32, 2)] [true] (pc1 := 62) (σ1 := σ5) (lv1 := [(0, .ref 229), (1, .int t), (2, .int n)]) (st1 := [.int 3, .int 0, .ref 229]) rfl ⟨c7, trivial⟩ ?_
        refine q_callV C hfl mw_X9_isThrown mi_X9_isThrown me_X9_isThrown lk_X9_63 (k_X9_isThrownZ 0 3 σ5 (by decide)) (rest := []) rfl rfl rfl (by decide) (by decide) rfl (q_dc (z := (62, .invokevirtual 63, 3, 0, 0)) tk_X9_drops 34 rfl) (Nat.le_of_ble_eq_true rfl) ⟨Nat.le_of_ble_eq_true rfl, Nat.le_of_ble_eq_true rfl⟩ ⟨Nat.le_of_ble_eq_true rfl, Nat.le_of_ble_eq_true rfl⟩ ?_
        refine q_nrm 65 [.int 0] 0 0 rfl rfl rfl rfl ?_
        refine q_go C tk_X9_drops [(35, 1), (38, 2)] [true] (pc1 := 72) (σ1 := (q_up σ5 229 5 0)) (lv1 := [(0, .ref 229), (1, .int t), (2, .int n)]) (st1 := [.int t, .ref 229]) rfl ⟨(by decide : (0 : Int32) = 0), trivial⟩ ?_
        generalize e9 : (q_up σ5 229 5 0) = σ8
        replace hF := q_let e9 hF
        refine q_callV C hfl mw_X9_inZone mi_X9_inZone me_X9_inZone lk_X9_133 (k_X9_inZone t σ8 ((((((hP.2 c1) σ2 e3).2 c4) σ5 e6).2.1 c7) σ8 e9).1) (rest := []) rfl rfl rfl (by decide) (by decide) rfl (q_dc (z := (72, .invokevirtual 133, 3, 0, 0)) tk_X9_drops 40 rfl) (Nat.le_of_ble_eq_true rfl) ⟨Nat.le_of_ble_eq_true rfl, Nat.le_of_ble_eq_true rfl⟩ ⟨Nat.le_of_ble_eq_true rfl, Nat.le_of_ble_eq_true rfl⟩ ?_
        refine q_nrm 75 [.int (F_X9_inZone t σ8)] 0 0 rfl rfl rfl rfl ?_
        by_cases c10 : (F_X9_inZone t σ8) = 0
        · rw [if_pos c10] at hF
          refine q_go C tk_X9_drops [(41, 1), (47, 6)] [true] (pc1 := 94) (σ1 := σ8) (lv1 := [(0, .ref 229), (1, .int t), (2, .int n)]) (st1 := [.int 10, .int t, .ref 229, .int 10, .int t, .ref 229]) rfl ⟨c10, trivial⟩ ?_
          refine q_callV C hfl mw_X9_of mi_X9_of me_X9_of lk_X9_52 (k_X9_of t 10 σ8 (((((((hP.2 c1) σ2 e3).2 c4) σ5 e6).2.1 c7) σ8 e9).2.1 c10).1) (rest := [.int 10, .int t, .ref 229]) rfl rfl rfl (by decide) (by decide) rfl (q_dc (z := (94, .invokevirtual 52, 3, 0, 0)) tk_X9_drops 53 rfl) (Nat.le_of_ble_eq_true rfl) ⟨Nat.le_of_ble_eq_true rfl, Nat.le_of_ble_eq_true rfl⟩ ⟨Nat.le_of_ble_eq_true rfl, Nat.le_of_ble_eq_true rfl⟩ ?_
          refine q_nrm 97 [.int (F_X9_of t 10 σ8), .int 10, .int t, .ref 229] 0 0 rfl rfl rfl rfl ?_
          refine q_go C tk_X9_drops [(54, 2)] [] (pc1 := 99) (σ1 := σ8) (lv1 := [(0, .ref 229), (1, .int t), (2, .int n)]) (st1 := [.int ((F_X9_of t 10 σ8) + n), .int 10, .int t, .ref 229]) rfl trivial ?_
          refine q_callV C hfl mw_X9_sets mi_X9_sets me_X9_sets lk_X9_67 (k_X9_sets t 10 ((F_X9_of t 10 σ8) + n) σ8 (((((((hP.2 c1) σ2 e3).2 c4) σ5 e6).2.1 c7) σ8 e9).2.1 c10).2.1) (rest := []) rfl rfl rfl (by decide) (by decide) rfl (q_dc (z := (99, .invokevirtual 67, 3, 0, 0)) tk_X9_drops 56 rfl) (Nat.le_of_ble_eq_true rfl) ⟨Nat.le_of_ble_eq_true rfl, Nat.le_of_ble_eq_true rfl⟩ ⟨Nat.le_of_ble_eq_true rfl, Nat.le_of_ble_eq_true rfl⟩ ?_
          refine q_nrm 102 [] 0 0 rfl rfl rfl rfl ?_
          generalize e12 : (F_X9_sets t 10 ((F_X9_of t 10 σ8) + n) σ8) = σ11
          replace hF := q_let e12 hF
          refine q_go C tk_X9_drops [(57, 3)] [] (pc1 := 106) (σ1 := σ11) (lv1 := [(0, .ref 229), (1, .int t), (2, .int n)]) (st1 := [.int 10, .int t, .ref 229]) rfl trivial ?_
          refine q_callV C hfl mw_X9_of mi_X9_of me_X9_of lk_X9_52 (k_X9_of t 10 σ11 ((((((((hP.2 c1) σ2 e3).2 c4) σ5 e6).2.1 c7) σ8 e9).2.1 c10).2.2 σ11 e12).1) (rest := []) rfl rfl rfl (by decide) (by decide) rfl (q_dc (z := (106, .invokevirtual 52, 3, 0, 0)) tk_X9_drops 60 rfl) (Nat.le_of_ble_eq_true rfl) ⟨Nat.le_of_ble_eq_true rfl, Nat.le_of_ble_eq_true rfl⟩ ⟨Nat.le_of_ble_eq_true rfl, Nat.le_of_ble_eq_true rfl⟩ ?_
          refine q_nrm 109 [.int (F_X9_of t 10 σ11)] 0 0 rfl rfl rfl rfl ?_
          exact q_iret C hr (q_dc (z := (109, .ireturn, 1, 0, 0)) tk_X9_drops 61 rfl) (congrArg Prod.snd hF) (congrArg (fun z => q_oi z.1) hF.symm) (Nat.le_of_ble_eq_true rfl) (Nat.le_of_ble_eq_true rfl)
        · rw [if_neg c10] at hF
          refine q_go C tk_X9_drops [(41, 5)] [false] (pc1 := 83) (σ1 := σ8) (lv1 := [(0, .ref 229), (1, .int t), (2, .int n)]) (st1 := [.int 1, .int 12, .int t, .ref 229]) rfl ⟨c10, trivial⟩ ?_
          refine q_callV C hfl mw_X9_sets mi_X9_sets me_X9_sets lk_X9_67 (k_X9_sets t 12 1 σ8 (((((((hP.2 c1) σ2 e3).2 c4) σ5 e6).2.1 c7) σ8 e9).2.2 c10).1) (rest := []) rfl rfl rfl (by decide) (by decide) rfl (q_dc (z := (83, .invokevirtual 67, 3, 0, 0)) tk_X9_drops 46 rfl) (Nat.le_of_ble_eq_true rfl) ⟨Nat.le_of_ble_eq_true rfl, Nat.le_of_ble_eq_true rfl⟩ ⟨Nat.le_of_ble_eq_true rfl, Nat.le_of_ble_eq_true rfl⟩ ?_
          refine q_nrm 86 [] 0 0 rfl rfl rfl rfl ?_
          generalize e14 : (F_X9_sets t 12 1 σ8) = σ13
          replace hF := q_let e14 hF
          refine q_go C tk_X9_drops [(47, 6)] [] (pc1 := 94) (σ1 := σ13) (lv1 := [(0, .ref 229), (1, .int t), (2, .int n)]) (st1 := [.int 10, .int t, .ref 229, .int 10, .int t, .ref 229]) rfl trivial ?_
          refine q_callV C hfl mw_X9_of mi_X9_of me_X9_of lk_X9_52 (k_X9_of t 10 σ13 ((((((((hP.2 c1) σ2 e3).2 c4) σ5 e6).2.1 c7) σ8 e9).2.2 c10).2 σ13 e14).1) (rest := [.int 10, .int t, .ref 229]) rfl rfl rfl (by decide) (by decide) rfl (q_dc (z := (94, .invokevirtual 52, 3, 0, 0)) tk_X9_drops 53 rfl) (Nat.le_of_ble_eq_true rfl) ⟨Nat.le_of_ble_eq_true rfl, Nat.le_of_ble_eq_true rfl⟩ ⟨Nat.le_of_ble_eq_true rfl, Nat.le_of_ble_eq_true rfl⟩ ?_
          refine q_nrm 97 [.int (F_X9_of t 10 σ13), .int 10, .int t, .ref 229] 0 0 rfl rfl rfl rfl ?_
          refine q_go C tk_X9_drops [(54, 2)] [] (pc1 := 99) (σ1 := σ13) (lv1 := [(0, .ref 229), (1, .int t), (2, .int n)]) (st1 := [.int ((F_X9_of t 10 σ13) + n), .int 10, .int t, .ref 229]) rfl trivial ?_
          refine q_callV C hfl mw_X9_sets mi_X9_sets me_X9_sets lk_X9_67 (k_X9_sets t 10 ((F_X9_of t 10 σ13) + n) σ13 ((((((((hP.2 c1) σ2 e3).2 c4) σ5 e6).2.1 c7) σ8 e9).2.2 c10).2 σ13 e14).2.1) (rest := []) rfl rfl rfl (by decide) (by decide) rfl (q_dc (z := (99, .invokevirtual 67, 3, 0, 0)) tk_X9_drops 56 rfl) (Nat.le_of_ble_eq_true rfl) ⟨Nat.le_of_ble_eq_true rfl, Nat.le_of_ble_eq_true rfl⟩ ⟨Nat.le_of_ble_eq_true rfl, Nat.le_of_ble_eq_true rfl⟩ ?_
          refine q_nrm 102 [] 0 0 rfl rfl rfl rfl ?_
          generalize e16 : (F_X9_sets t 10 ((F_X9_of t 10 σ13) + n) σ13) = σ15
          replace hF := q_let e16 hF
          refine q_go C tk_X9_drops [(57, 3)] [] (pc1 := 106) (σ1 := σ15) (lv1 := [(0, .ref 229), (1, .int t), (2, .int n)]) (st1 := [.int 10, .int t, .ref 229]) rfl trivial ?_
          refine q_callV C hfl mw_X9_of mi_X9_of me_X9_of lk_X9_52 (k_X9_of t 10 σ15 (((((((((hP.2 c1) σ2 e3).2 c4) σ5 e6).2.1 c7) σ8 e9).2.2 c10).2 σ13 e14).2.2 σ15 e16).1) (rest := []) rfl rfl rfl (by decide) (by decide) rfl (q_dc (z := (106, .invokevirtual 52, 3, 0, 0)) tk_X9_drops 60 rfl) (Nat.le_of_ble_eq_true rfl) ⟨Nat.le_of_ble_eq_true rfl, Nat.le_of_ble_eq_true rfl⟩ ⟨Nat.le_of_ble_eq_true rfl, Nat.le_of_ble_eq_true rfl⟩ ?_
          refine q_nrm 109 [.int (F_X9_of t 10 σ15)] 0 0 rfl rfl rfl rfl ?_
          exact q_iret C hr (q_dc (z := (109, .ireturn, 1, 0, 0)) tk_X9_drops 61 rfl) (congrArg Prod.snd hF) (congrArg (fun z => q_oi z.1) hF.symm) (Nat.le_of_ble_eq_true rfl) (Nat.le_of_ble_eq_true rfl)
      · rw [if_neg c7] at hF
        refine q_go C tk_X9_drops [(29, 3), (33, 1)] [false] (pc1 := 62) (σ1 := σ5) (lv1 := [(0, .ref 229), (1, .int t), (2, .int n)]) (st1 := [.int 3, .int 1, .ref 229]) rfl ⟨c7, trivial⟩ ?_
        refine q_callV C hfl mw_X9_isThrown mi_X9_isThrown me_X9_isThrown lk_X9_63 (k_X9_isThrownN 1 3 σ5 (by decide) (by decide)) (rest := []) rfl rfl rfl (by decide) (by decide) rfl (q_dc (z := (62, .invokevirtual 63, 3, 0, 0)) tk_X9_drops 34 rfl) (Nat.le_of_ble_eq_true rfl) ⟨Nat.le_of_ble_eq_true rfl, Nat.le_of_ble_eq_true rfl⟩ ⟨Nat.le_of_ble_eq_true rfl, Nat.le_of_ble_eq_true rfl⟩ ?_
        refine q_nrm 65 [.int 1] 0 0 rfl rfl rfl rfl ?_
        refine q_go C tk_X9_drops [(35, 2)] [false] (pc1 := 69) (σ1 := (q_up σ5 229 5 3)) (lv1 := [(0, .ref 229), (1, .int t), (2, .int n)]) (st1 := [.int 0]) rfl ⟨(by decide : ¬ (1 : Int32) = 0), trivial⟩ ?_
        exact q_iret C hr (q_dc (z := (69, .ireturn, 1, 0, 0)) tk_X9_drops 37 rfl) (congrArg Prod.snd hF) (congrArg (fun z => q_oi z.1) hF.symm) (Nat.le_of_ble_eq_true rfl) (Nat.le_of_ble_eq_true rfl)
def F_X9_protests (b : Int32) (a : Int32) (k : Int32) (σ : q_M) : (Int32) × q_M := (if (F_X9_isTeam b σ) = 0 then (0, (q_up σ 229 5 1)) else (if (F_X9_isTeam a σ) = 0 then (0, (q_up σ 229 5 1)) else (q_L (q_up σ 229 5 0) (fun σ3 : q_M => (if b = a then (0, (q_up σ3 229 5 2)) else (if (F_X9_isIn k 0 1 σ3) = 0 then (0, (q_up σ3 229 5 2)) else (q_L (q_up σ3 229 5 0) (fun σ7 : q_M => (if (F_X9_isUnprepared σ7) = 0 then (0, (q_up σ7 229 5 3)) else (q_L (q_up σ7 229 5 0) (fun σ10 : q_M => (q_L (if (F_X9_of a (11 + k) σ10) = 1 then 1 else 0) (fun x13 : Int32 => (if x13 = 0 then (q_L (F_X9_sets b 5 ((F_X9_of b 5 σ10) + 5) σ10) (fun σ16 : q_M => (0, σ16))) else (q_L (F_X9_sets a (11 + k) 0 σ10) (fun σ18 : q_M => (q_L (F_X9_sets a 5 ((F_X9_of a 5 σ18) + 10) σ18) (fun σ20 : q_M => (1, σ20)))))))))))))))))))
def P_X9_protests (b : Int32) (a : Int32) (k : Int32) (σ : q_M) : Prop := (((F_X9_isTeam b σ) = 0 → True) ∧ (¬ (F_X9_isTeam b σ) = 0 → (((F_X9_isTeam a σ) = 0 → True) ∧ (¬ (F_X9_isTeam a σ) = 0 → (∀ σ3 : q_M, (q_up σ 229 5 0) = σ3 → ((b = a → True) ∧ (¬ b = a → (((F_X9_isIn k 0 1 σ3) = 0 → True) ∧ (¬ (F_X9_isIn k 0 1 σ3) = 0 → (∀ σ7 : q_M, (q_up σ3 229 5 0) = σ7 → (((F_X9_isUnprepared σ7) = 0 → True) ∧ (¬ (F_X9_isUnprepared σ7) = 0 → (∀ σ10 : q_M, (q_up σ7 229 5 0) = σ10 → ((P_X9_of a (11 + k) σ10) ∧ (True ∧ (∀ x13 : Int32, (if (F_X9_of a (11 + k) σ10) = 1 then 1 else 0) = x13 → ((x13 = 0 → ((P_X9_of b 5 σ10) ∧ ((P_X9_sets b 5 ((F_X9_of b 5 σ10) + 5) σ10) ∧ True))) ∧ (¬ x13 = 0 → ((P_X9_sets a (11 + k) 0 σ10) ∧ (∀ σ18 : q_M, (F_X9_sets a (11 + k) 0 σ10) = σ18 → ((P_X9_of a 5 σ18) ∧ ((P_X9_sets a 5 ((F_X9_of a 5 σ18) + 10) σ18) ∧ True))))))))))))))))))))))
set_option maxRecDepth 100000 in
theorem k_X9_protests {α β : Nat → Nat} {D : va_G} {κ : Nat → ClassId} (b : Int32) (a : Int32) (k : Int32) (σ : q_M) (hP : P_X9_protests b a k σ) : q_C α β D κ yX9_protests cX9_protests 5 (Option.some Jvm.ClassFile.FieldType.int) 2 43 0 0 [.ref 229, .int b, .int a, .int k] σ (q_oi (F_X9_protests b a k σ).1) (F_X9_protests b a k σ).2 := by
  refine q_enter (own := RX9) (F := F_X9) (G := G_X9) (by decide +kernel) rfl Fok_X9 Gok_X9 (Nat.le_of_ble_eq_true rfl) (fun p l e s m args below meth c A hfl C hr hT => ?_)
  generalize hF : F_X9_protests b a k σ = r
  unfold F_X9_protests at hF
  refine q_go C tk_X9_protests [(0, 3)] [] (pc1 := 3) (σ1 := σ) (lv1 := [(0, .ref 229), (1, .int b), (2, .int a), (3, .int k)]) (st1 := [.int b, .ref 229, .ref 229]) rfl trivial ?_
  refine q_callV C hfl mw_X9_isTeam mi_X9_isTeam me_X9_isTeam lk_X9_75 (k_X9_isTeam b σ) (rest := [.ref 229]) rfl rfl rfl (by decide) (by decide) rfl (q_dc (z := (3, .invokevirtual 75, 3, 0, 0)) tk_X9_protests 3 rfl) (Nat.le_of_ble_eq_true rfl) ⟨Nat.le_of_ble_eq_true rfl, Nat.le_of_ble_eq_true rfl⟩ ⟨Nat.le_of_ble_eq_true rfl, Nat.le_of_ble_eq_true rfl⟩ ?_
  refine q_nrm 6 [.int (F_X9_isTeam b σ), .ref 229] 0 0 rfl rfl rfl rfl ?_
  by_cases c1 : (F_X9_isTeam b σ) = 0
  · rw [if_pos c1] at hF
    refine q_go C tk_X9_protests [(4, 1), (9, 2), (12, 1)] [true] (pc1 := 23) (σ1 := σ) (lv1 := [(0, .ref 229), (1, .int b), (2, .int a), (3, .int k)]) (st1 := [.int 1, .int 1, .ref 229]) rfl ⟨c1, trivial⟩ ?_
    refine q_callV C hfl mw_X9_isThrown mi_X9_isThrown me_X9_isThrown lk_X9_63 (k_X9_isThrownN 1 1 σ (by decide) (by decide)) (rest := []) rfl rfl rfl (by decide) (by decide) rfl (q_dc (z := (23, .invokevirtual 63, 3, 0, 0)) tk_X9_protests 13 rfl) (Nat.le_of_ble_eq_true rfl) ⟨Nat.le_of_ble_eq_true rfl, Nat.le_of_ble_eq_true rfl⟩ ⟨Nat.le_of_ble_eq_true rfl, Nat.le_of_ble_eq_true rfl⟩ ?_
    refine q_nrm 26 [.int 1] 0 0 rfl rfl rfl rfl ?_
    refine q_go C tk_X9_protests [(14, 1), (40, 1)] [true] (pc1 := 77) (σ1 := (q_up σ 229 5 1)) (lv1 := [(0, .ref 229), (1, .int b), (2, .int a), (3, .int k)]) (st1 := [.int 0]) rfl ⟨(by decide : ¬ (1 : Int32) = 0), trivial⟩ ?_
    exact q_iret C hr (q_dc (z := (77, .ireturn, 1, 0, 0)) tk_X9_protests 41 rfl) (congrArg Prod.snd hF) (congrArg (fun z => q_oi z.1) hF.symm) (Nat.le_of_ble_eq_true rfl) (Nat.le_of_ble_eq_true rfl)
  · rw [if_neg c1] at hF
    refine q_go C tk_X9_protests [(4, 3)] [false] (pc1 := 11) (σ1 := σ) (lv1 := [(0, .ref 229), (1, .int b), (2, .int a), (3, .int k)]) (st1 := [.int a, .ref 229, .ref 229]) rfl ⟨c1, trivial⟩ ?_
    refine q_callV C hfl mw_X9_isTeam mi_X9_isTeam me_X9_isTeam lk_X9_75 (k_X9_isTeam a σ) (rest := [.ref 229]) rfl rfl rfl (by decide) (by decide) rfl (q_dc (z := (11, .invokevirtual 75, 3, 0, 0)) tk_X9_protests 7 rfl) (Nat.le_of_ble_eq_true rfl) ⟨Nat.le_of_ble_eq_true rfl, Nat.le_of_ble_eq_true rfl⟩ ⟨Nat.le_of_ble_eq_true rfl, Nat.le_of_ble_eq_true rfl⟩ ?_
    refine q_nrm 14 [.int (F_X9_isTeam a σ), .ref 229] 0 0 rfl rfl rfl rfl ?_
    by_cases c2 : (F_X9_isTeam a σ) = 0
    · rw [if_pos c2] at hF
      refine q_go C tk_X9_protests [(8, 3), (12, 1)] [false] (pc1 := 23) (σ1 := σ) (lv1 := [(0, .ref 229), (1, .int b), (2, .int a), (3, .int k)]) (st1 := [.int 1, .int 1, .ref 229]) rfl ⟨c2, trivial⟩ ?_
      refine q_callV C hfl mw_X9_isThrown mi_X9_isThrown me_X9_isThrown lk_X9_63 (k_X9_isThrownN 1 1 σ (by decide) (by decide)) (rest := []) rfl rfl rfl (by decide) (by decide) rfl (q_dc (z := (23, .invokevirtual 63, 3, 0, 0)) tk_X9_protests 13 rfl) (Nat.le_of_ble_eq_true rfl) ⟨Nat.le_of_ble_eq_true rfl, Nat.le_of_ble_eq_true rfl⟩ ⟨Nat.le_of_ble_eq_true rfl, Nat.le_of_ble_eq_true rfl⟩ ?_
      refine q_nrm 26 [.int 1] 0 0 rfl rfl rfl rfl ?_
      refine q_go C tk_X9_protests [(14, 1), (40, 1)] [true] (pc1 := 77) (σ1 := (q_up σ 229 5 1)) (lv1 := [(0, .ref 229), (1, .int b), (2, .int a), (3, .int k)]) (st1 := [.int 0]) rfl ⟨(by decide : ¬ (1 : Int32) = 0), trivial⟩ ?_
      exact q_iret C hr (q_dc (z := (77, .ireturn, 1, 0, 0)) tk_X9_protests 41 rfl) (congrArg Prod.snd hF) (congrArg (fun z => q_oi z.1) hF.symm) (Nat.le_of_ble_eq_true rfl) (Nat.le_of_ble_eq_true rfl)
    · rw [if_neg c2] at hF
      refine q_go C tk_X9_protests [(8, 1), (11, 2)] [true] (pc1 := 23) (σ1 := σ) (lv1 := [(0, .ref 229), (1, .int b), (2, .int a), (3, .int k)]) (st1 := [.int 1, .int 0, .ref 229]) rfl ⟨c2, trivial⟩ ?_
      refine q_callV C hfl mw_X9_isThrown mi_X9_isThrown me_X9_isThrown lk_X9_63 (k_X9_isThrownZ 0 1 σ (by decide)) (rest := []) rfl rfl rfl (by decide) (by decide) rfl (q_dc (z := (23, .invokevirtual 63, 3, 0, 0)) tk_X9_protests 13 rfl) (Nat.le_of_ble_eq_true rfl) ⟨Nat.le_of_ble_eq_true rfl, Nat.le_of_ble_eq_true rfl⟩ ⟨Nat.le_of_ble_eq_true rfl, Nat.le_of_ble_eq_true rfl⟩ ?_
      refine q_nrm 26 [.int 0] 0 0 rfl rfl rfl rfl ?_
      refine q_go C tk_X9_protests [(14, 4)] [false] (pc1 := 32) (σ1 := (q_up σ 229 5 0)) (lv1 := [(0, .ref 229), (1, .int b), (2, .int a), (3, .int k)]) (st1 := [.int a, .int b, .ref 229]) rfl ⟨(by decide : (0 : Int32) = 0), trivial⟩ ?_
      generalize e4 : (q_up σ 229 5 0) = σ3
      replace hF := q_let e4 hF
      by_cases c5 : b = a
      · rw [if_pos c5] at hF
        refine q_go C tk_X9_protests [(18, 1), (24, 2), (27, 1)] [true] (pc1 := 50) (σ1 := σ3) (lv1 := [(0, .ref 229), (1, .int b), (2, .int a), (3, .int k)]) (st1 := [.int 2, .int 1, .ref 229]) rfl ⟨c5, trivial⟩ ?_
        refine q_callV C hfl mw_X9_isThrown mi_X9_isThrown me_X9_isThrown lk_X9_63 (k_X9_isThrownN 1 2 σ3 (by decide) (by decide)) (rest := []) rfl rfl rfl (by decide) (by decide) rfl (q_dc (z := (50, .invokevirtual 63, 3, 0, 0)) tk_X9_protests 28 rfl) (Nat.le_of_ble_eq_true rfl) ⟨Nat.le_of_ble_eq_true rfl, Nat.le_of_ble_eq_true rfl⟩ ⟨Nat.le_of_ble_eq_true rfl, Nat.le_of_ble_eq_true rfl⟩ ?_
        refine q_nrm 53 [.int 1] 0 0 rfl rfl rfl rfl ?_
        refine q_go C tk_X9_protests [(29, 1), (40, 1)] [true] (pc1 := 77) (σ1 := (q_up σ3 229 5 2)) (lv1 := [(0, .ref 229), (1, .int b), (2, .int a), (3, .int k)]) (st1 := [.int 0]) rfl ⟨(by decide : ¬ (1 : Int32) = 0), trivial⟩ ?_
        exact q_iret C hr (q_dc (z := (77, .ireturn, 1, 0, 0)) tk_X9_protests 41 rfl) (congrArg Prod.snd hF) (congrArg (fun z => q_oi z.1) hF.symm) (Nat.le_of_ble_eq_true rfl) (Nat.le_of_ble_eq_true rfl)
      · rw [if_neg c5] at hF
        refine q_go C tk_X9_protests [(18, 4)] [false] (pc1 := 38) (σ1 := σ3) (lv1 := [(0, .ref 229), (1, .int b), (2, .int a), (3, .int k)]) (st1 := [.int 1, .int 0, .int k, .ref 229]) rfl ⟨c5, trivial⟩ ?_
        refine q_callS C hfl mw_X9_isIn ms_X9_isIn lk_X9_48 (k_X9_isIn k 0 1 σ3) (rest := [.ref 229]) rfl rfl (q_dc (z := (38, .invokestatic 48, 3, 0, 0)) tk_X9_protests 22 rfl) (Nat.le_of_ble_eq_true rfl) ⟨Nat.le_of_ble_eq_true rfl, Nat.le_of_ble_eq_true rfl⟩ ⟨Nat.le_of_ble_eq_true rfl, Nat.le_of_ble_eq_true rfl⟩ ?_
        refine q_nrm 41 [.int (F_X9_isIn k 0 1 σ3), .ref 229] 0 0 rfl rfl rfl rfl ?_
        by_cases c6 : (F_X9_isIn k 0 1 σ3) = 0
        · rw [if_pos c6] at hF
          refine q_go C tk_X9_protests [(23, 3), (27, 1)] [false] (pc1 := 50) (σ1 := σ3) (lv1 := [(0, .ref 229), (1, .int b), (2, .int a), (3, .int k)]) (st1 := [.int 2, .int 1, .ref 229]) rfl ⟨c6, trivial⟩ ?_
          refine q_callV C hfl mw_X9_isThrown mi_X9_isThrown me_X9_isThrown lk_X9_63 (k_X9_isThrownN 1 2 σ3 (by decide) (by decide)) (rest := []) rfl rfl rfl (by decide) (by decide) rfl (q_dc (z := (50, .invokevirtual 63, 3, 0, 0)) tk_X9_protests 28 rfl) (Nat.le_of_ble_eq_true rfl) ⟨Nat.le_of_ble_eq_true rfl, Nat.le_of_ble_eq_true rfl⟩ ⟨Nat.le_of_ble_eq_true rfl, Nat.le_of_ble_eq_true rfl⟩ ?_
          refine q_nrm 53 [.int 1] 0 0 rfl rfl rfl rfl ?_
          refine q_go C tk_X9_protests [(29, 1), (40, 1)] [true] (pc1 := 77) (σ1 := (q_up σ3 229 5 2)) (lv1 := [(0, .ref 229), (1, .int b), (2, .int a), (3, .int k)]) (st1 := [.int 0]) rfl ⟨(by decide : ¬ (1 : Int32) = 0), trivial⟩ ?_
          exact q_iret C hr (q_dc (z := (77, .ireturn, 1, 0, 0)) tk_X9_protests 41 rfl) (congrArg Prod.snd hF) (congrArg (fun z => q_oi z.1) hF.symm) (Nat.le_of_ble_eq_true rfl) (Nat.le_of_ble_eq_true rfl)
        · rw [if_neg c6] at hF
          refine q_go C tk_X9_protests [(23, 1), (26, 2)] [true] (pc1 := 50) (σ1 := σ3) (lv1 := [(0, .ref 229), (1, .int b), (2, .int a), (3, .int k)]) (st1 := [.int 2, .int 0, .ref 229]) rfl ⟨c6, trivial⟩ ?_
          refine q_callV C hfl mw_X9_isThrown mi_X9_isThrown me_X9_isThrown lk_X9_63 (k_X9_isThrownZ 0 2 σ3 (by decide)) (rest := []) rfl rfl rfl (by decide) (by decide) rfl (q_dc (z := (50, .invokevirtual 63, 3, 0, 0)) tk_X9_protests 28 rfl) (Nat.le_of_ble_eq_true rfl) ⟨Nat.le_of_ble_eq_true rfl, Nat.le_of_ble_eq_true rfl⟩ ⟨Nat.le_of_ble_eq_true rfl, Nat.le_of_ble_eq_true rfl⟩ ?_
          refine q_nrm 53 [.int 0] 0 0 rfl rfl rfl rfl ?_
          refine q_go C tk_X9_protests [(29, 3)] [false] (pc1 := 58) (σ1 := (q_up σ3 229 5 0)) (lv1 := [(0, .ref 229), (1, .int b), (2, .int a), (3, .int k)]) (st1 := [.ref 229, .ref 229]) rfl ⟨(by decide : (0 : Int32) = 0), trivial⟩ ?_
          generalize e8 : (q_up σ3 229 5 0) = σ7
          replace hF := q_let e8 hF
          refine q_callV C hfl mw_X9_isUnprepared mi_X9_isUnprepared me_X9_isUnprepared lk_X9_59 (k_X9_isUnprepared σ7) (rest := [.ref 229]) rfl rfl rfl (by decide) (by decide) rfl (q_dc (z := (58, .invokevirtual 59, 3, 0, 0)) tk_X9_protests 32 rfl) (Nat.le_of_ble_eq_true rfl) ⟨Nat.le_of_ble_eq_true rfl, Nat.le_of_ble_eq_true rfl⟩ ⟨Nat.le_of_ble_eq_true rfl, Nat.le_of_ble_eq_true rfl⟩ ?_
          refine q_nrm 61 [.int (F_X9_isUnprepared σ7), .ref 229] 0 0 rfl rfl rfl rfl ?_
          by_cases c9 : (F_X9_isUnprepared σ7) = 0
          · rw [if_pos c9] at hF
            refine q_go C tk_X9_protests [(33, 3), (37, 1)] [false] (pc1 := 70) (σ1 := σ7) (lv1 := [(0, .ref 229), (1, .int b), (2, .int a), (3, .int k)]) (st1 := [.int 3, .int 1, .ref 229]) rfl ⟨c9, trivial⟩ ?_
            refine q_callV C hfl mw_X9_isThrown mi_X9_isThrown me_X9_isThrown lk_X9_63 (k_X9_isThrownN 1 3 σ7 (by decide) (by decide)) (rest := []) rfl rfl rfl (by decide) (by decide) rfl (q_dc (z := (70, .invokevirtual 63, 3, 0, 0)) tk_X9_protests 38 rfl) (Nat.le_of_ble_eq_true rfl) ⟨Nat.le_of_ble_eq_true rfl, Nat.le_of_ble_eq_true rfl⟩ ⟨Nat.le_of_ble_eq_true rfl, Nat.le_of_ble_eq_true rfl⟩ ?_
            refine q_nrm 73 [.int 1] 0 0 rfl rfl rfl rfl ?_
            refine q_go C tk_X9_protests [(39, 2)] [false] (pc1 := 77) (σ1 := (q_up σ7 229 5 3)) (lv1 := [(0, .ref 229), (1, .int b), (2, .int a), (3, .int k)]) (st1 := [.int 0]) rfl ⟨(by decide : ¬ (1 : Int32) = 0), trivial⟩ ?_
            exact q_iret C hr (q_dc (z := (77, .ireturn, 1, 0, 0)) tk_X9_protests 41 rfl) (congrArg Prod.snd hF) (congrArg (fun z => q_oi z.1) hF.symm) (Nat.le_of_ble_eq_true rfl) (Nat.le_of_ble_eq_true rfl)
          · rw [if_neg c9] at hF
            refine q_go C tk_X9_protests [(33, 1), (36, 2)] [true] (pc1 := 70) (σ1 := σ7) (lv1 := [(0, .ref 229), (1, .int b), (2, .int a), (3, .int k)]) (st1 := [.int 3, .int 0, .ref 229]) rfl ⟨c9, trivial⟩ ?_
            refine q_callV C hfl mw_X9_isThrown mi_X9_isThrown me_X9_isThrown lk_X9_63 (k_X9_isThrownZ 0 3 σ7 (by decide)) (rest := []) rfl rfl rfl (by decide) (by decide) rfl (q_dc (z := (70, .invokevirtual 63, 3, 0, 0)) tk_X9_protests 38 rfl) (Nat.le_of_ble_eq_true rfl) ⟨Nat.le_of_ble_eq_true rfl, Nat.le_of_ble_eq_true rfl⟩ ⟨Nat.le_of_ble_eq_true rfl, Nat.le_of_ble_eq_true rfl⟩ ?_
            refine q_nrm 73 [.int 0] 0 0 rfl rfl rfl rfl ?_
            refine q_go C tk_X9_protests [(39, 1), (42, 5)] [true] (pc1 := 84) (σ1 := (q_up σ7 229 5 0)) (lv1 := [(0, .ref 229), (1, .int b), (2, .int a), (3, .int k)]) (st1 := [.int (11 + k), .int a, .ref 229]) rfl ⟨(by decide : (0 : Int32) = 0), trivial⟩ ?_
            generalize e11 : (q_up σ7 229 5 0) = σ10
            replace hF := q_let e11 hF
            refine q_callV C hfl mw_X9_of mi_X9_of me_X9_of lk_X9_52 (k_X9_of a (11 + k) σ10 ((((((((hP.2 c1).2 c2) σ3 e4).2 c5).2 c6) σ7 e8).2 c9) σ10 e11).1) (rest := []) rfl rfl rfl (by decide) (by decide) rfl (q_dc (z := (84, .invokevirtual 52, 3, 0, 0)) tk_X9_protests 47 rfl) (Nat.le_of_ble_eq_true rfl) ⟨Nat.le_of_ble_eq_true rfl, Nat.le_of_ble_eq_true rfl⟩ ⟨Nat.le_of_ble_eq_true rfl, Nat.le_of_ble_eq_true rfl⟩ ?_
            refine q_nrm 87 [.int (F_X9_of a (11 + k) σ10)] 0 0 rfl rfl rfl rfl ?_
            refine q_go C tk_X9_protests [(48, 1)] [] (pc1 := 88) (σ1 := σ10) (lv1 := [(0, .ref 229), (1, .int b), (2, .int a), (3, .int k)]) (st1 := [.int 1, .int (F_X9_of a (11 + k) σ10)]) rfl trivial ?_
            refine q_mrg (v := (if (F_X9_of a (11 + k) σ10) = 1 then 1 else 0)) (M := 96) (σ1 := σ10) (lv1 := [(0, .ref 229), (1, .int b), (2, .int a), (3, .int k)]) (st1 := []) (fun x13 e14 => ?_) (fun K => ?_)
            · replace hF := q_let e14 hF
              refine q_go C tk_X9_protests [(53, 2)] [] (pc1 := 100) (σ1 := σ10) (lv1 := [(4, .int x13), (0, .ref 229), (1, .int b), (2, .int a), (3, .int k)]) (st1 := [.int x13]) rfl trivial ?_
              by_cases c15 : x13 = 0
              · rw [if_pos c15] at hF
                refine q_go C tk_X9_protests [(55, 1), (74, 6)] [true] (pc1 := 137) (σ1 := σ10) (lv1 := [(4, .int x13), (0, .ref 229), (1, .int b), (2, .int a), (3, .int k)]) (st1 := [.int 5, .int b, .ref 229, .int 5, .int b, .ref 229]) rfl ⟨c15, trivial⟩ ?_
                refine q_callV C hfl mw_X9_of mi_X9_of me_X9_of lk_X9_52 (k_X9_of b 5 σ10 ((((((((((hP.2 c1).2 c2) σ3 e4).2 c5).2 c6) σ7 e8).2 c9) σ10 e11).2.2 x13 e14).1 c15).1) (rest := [.int 5, .int b, .ref 229]) rfl rfl rfl (by decide) (by decide) rfl (q_dc (z := (137, .invokevirtual 52, 3, 0, 0)) tk_X9_protests 80 rfl) (Nat.le_of_ble_eq_true rfl) ⟨Nat.le_of_ble_eq_true rfl, Nat.le_of_ble_eq_true rfl⟩ ⟨Nat.le_of_ble_eq_true rfl, Nat.le_of_ble_eq_true rfl⟩ ?_
                refine q_nrm 140 [.int (F_X9_of b 5 σ10), .int 5, .int b, .ref 229] 0 0 rfl rfl rfl rfl ?_
                refine q_go C tk_X9_protests [(81, 2)] [] (pc1 := 142) (σ1 := σ10) (lv1 := [(4, .int x13), (0, .ref 229), (1, .int b), (2, .int a), (3, .int k)]) (st1 := [.int ((F_X9_of b 5 σ10) + 5), .int 5, .int b, .ref 229]) rfl trivial ?_
                refine q_callV C hfl mw_X9_sets mi_X9_sets me_X9_sets lk_X9_67 (k_X9_sets b 5 ((F_X9_of b 5 σ10) + 5) σ10 ((((((((((hP.2 c1).2 c2) σ3 e4).2 c5).2 c6) σ7 e8).2 c9) σ10 e11).2.2 x13 e14).1 c15).2.1) (rest := []) rfl rfl rfl (by decide) (by decide) rfl (q_dc (z := (142, .invokevirtual 67, 3, 0, 0)) tk_X9_protests 83 rfl) (Nat.le_of_ble_eq_true rfl) ⟨Nat.le_of_ble_eq_true rfl, Nat.le_of_ble_eq_true rfl⟩ ⟨Nat.le_of_ble_eq_true rfl, Nat.le_of_ble_eq_true rfl⟩ ?_
                refine q_nrm 145 [] 0 0 rfl rfl rfl rfl ?_
                generalize e17 : (F_X9_sets b 5 ((F_X9_of b 5 σ10) + 5) σ10) = σ16
                replace hF := q_let e17 hF
                refine q_go C tk_X9_protests [(84, 2), (88, 1)] [true] (pc1 := 155) (σ1 := σ16) (lv1 := [(4, .int x13), (0, .ref 229), (1, .int b), (2, .int a), (3, .int k)]) (st1 := [.int 0]) rfl ⟨c15, trivial⟩ ?_
                exact q_iret C hr (q_dc (z := (155, .ireturn, 1, 0, 0)) tk_X9_protests 89 rfl) (congrArg Prod.snd hF) (congrArg (fun z => q_oi z.1) hF.symm) (Nat.le_of_ble_eq_true rfl) (Nat.le_of_ble_eq_true rfl)
              · rw [if_neg c15] at hF
                refine q_go C tk_X9_protests [(55, 7)] [false] (pc1 := 110) (σ1 := σ10) (lv1 := [(4, .int x13), (0, .ref 229), (1, .int b), (2, .int a), (3, .int k)]) (st1 := [.int 0, .int (11 + k), .int a, .ref 229]) rfl ⟨c15, trivial⟩ ?_
                refine q_callV C hfl mw_X9_sets mi_X9_sets me_X9_sets lk_X9_67 (k_X9_sets a (11 + k) 0 σ10 ((((((((((hP.2 c1).2 c2) σ3 e4).2 c5).2 c6) σ7 e8).2 c9) σ10 e11).2.2 x13 e14).2 c15).1) (rest := []) rfl rfl rfl (by decide) (by decide) rfl (q_dc (z := (110, .invokevirtual 67, 3, 0, 0)) tk_X9_protests 62 rfl) (Nat.le_of_ble_eq_true rfl) ⟨Nat.le_of_ble_eq_true rfl, Nat.le_of_ble_eq_true rfl⟩ ⟨Nat.le_of_ble_eq_true rfl, Nat.le_of_ble_eq_true rfl⟩ ?_
                refine q_nrm 113 [] 0 0 rfl rfl rfl rfl ?_
                generalize e19 : (F_X9_sets a (11 + k) 0 σ10) = σ18
                replace hF := q_let e19 hF
                refine q_go C tk_X9_protests [(63, 6)] [] (pc1 := 119) (σ1 := σ18) (lv1 := [(4, .int x13), (0, .ref 229), (1, .int b), (2, .int a), (3, .int k)]) (st1 := [.int 5, .int a, .ref 229, .int 5, .int a, .ref 229]) rfl trivial ?_
                refine q_callV C hfl mw_X9_of mi_X9_of me_X9_of lk_X9_52 (k_X9_of a 5 σ18 (((((((((((hP.2 c1).2 c2) σ3 e4).2 c5).2 c6) σ7 e8).2 c9) σ10 e11).2.2 x13 e14).2 c15).2 σ18 e19).1) (rest := [.int 5, .int a, .ref 229]) rfl rfl rfl (by decide) (by decide) rfl (q_dc (z := (119, .invokevirtual 52, 3, 0, 0)) tk_X9_protests 69 rfl) (Nat.le_of_ble_eq_true rfl) ⟨Nat.le_of_ble_eq_true rfl, Nat.le_of_ble_eq_true rfl⟩ ⟨Nat.le_of_ble_eq_true rfl, Nat.le_of_ble_eq_true rfl⟩ ?_
                refine q_nrm 122 [.int (F_X9_of a 5 σ18), .int 5, .int a, .ref 229] 0 0 rfl rfl rfl rfl ?_
                refine q_go C tk_X9_protests [(70, 2)] [] (pc1 := 125) (σ1 := σ18) (lv1 := [(4, .int x13), (0, .ref 229), (1, .int b), (2, .int a), (3, .int k)]) (st1 := [.int ((F_X9_of a 5 σ18) + 10), .int 5, .int a, .ref 229]) rfl trivial ?_
                refine q_callV C hfl mw_X9_sets mi_X9_sets me_X9_sets lk_X9_67 (k_X9_sets a 5 ((F_X9_of a 5 σ18) + 10) σ18 (((((((((((hP.2 c1).2 c2) σ3 e4).2 c5).2 c6) σ7 e8).2 c9) σ10 e11).2.2 x13 e14).2 c15).2 σ18 e19).2.1) (rest := []) rfl rfl rfl (by decide) (by decide) rfl (q_dc (z := (125, .invokevirtual 67, 3, 0, 0)) tk_X9_protests 72 rfl) (Nat.le_of_ble_eq_true rfl) ⟨Nat.le_of_ble_eq_true rfl, Nat.le_of_ble_eq_true rfl⟩ ⟨Nat.le_of_ble_eq_true rfl, Nat.le_of_ble_eq_true rfl⟩ ?_
                refine q_nrm 128 [] 0 0 rfl rfl rfl rfl ?_
                generalize e21 : (F_X9_sets a 5 ((F_X9_of a 5 σ18) + 10) σ18) = σ20
                replace hF := q_let e21 hF
                refine q_go C tk_X9_protests [(73, 1), (84, 4)] [false] (pc1 := 155) (σ1 := σ20) (lv1 := [(4, .int x13), (0, .ref 229), (1, .int b), (2, .int a), (3, .int k)]) (st1 := [.int 1]) rfl ⟨c15, trivial⟩ ?_
                exact q_iret C hr (q_dc (z := (155, .ireturn, 1, 0, 0)) tk_X9_protests 89 rfl) (congrArg Prod.snd hF) (congrArg (fun z => q_oi z.1) hF.symm) (Nat.le_of_ble_eq_true rfl) (Nat.le_of_ble_eq_true rfl)
            · clear hF
              by_cases c12 : (F_X9_of a (11 + k) σ10) = 1
              · skip
                refine q_go C tk_X9_protests [(49, 3)] [false] (pc1 := 96) (σ1 := σ10) (lv1 := [(0, .ref 229), (1, .int b), (2, .int a), (3, .int k)]) (st1 := [.int 1]) rfl ⟨c12, trivial⟩ ?_
                rw [if_pos c12] at K; exact K
              · skip
                refine q_go C tk_X9_protests [(49, 1), (52, 1)] [true] (pc1 := 96) (σ1 := σ10) (lv1 := [(0, .ref 229), (1, .int b), (2, .int a), (3, .int k)]) (st1 := [.int 0]) rfl ⟨c12, trivial⟩ ?_
                rw [if_neg c12] at K; exact K
def F_X9_ofTeam (t : Int32) (w : Int32) (σ : q_M) : (Int32) × q_M := (if (F_X9_isTeam t σ) = 0 then (0, (q_up σ 229 5 1)) else (q_L (q_up σ 229 5 0) (fun σ2 : q_M => ((F_X9_of t w σ2), σ2))))
def P_X9_ofTeam (t : Int32) (w : Int32) (σ : q_M) : Prop := (((F_X9_isTeam t σ) = 0 → True) ∧ (¬ (F_X9_isTeam t σ) = 0 → (∀ σ2 : q_M, (q_up σ 229 5 0) = σ2 → ((P_X9_of t w σ2) ∧ True))))
set_option maxRecDepth 100000 in
theorem k_X9_ofTeam {α β : Nat → Nat} {D : va_G} {κ : Nat → ClassId} (t : Int32) (w : Int32) (σ : q_M) (hP : P_X9_ofTeam t w σ) : q_C α β D κ yX9_ofTeam cX9_ofTeam 3 (Option.some Jvm.ClassFile.FieldType.int) 2 43 0 0 [.ref 229, .int t, .int w] σ (q_oi (F_X9_ofTeam t w σ).1) (F_X9_ofTeam t w σ).2 := by
  refine q_enter (own := RX9) (F := F_X9) (G := G_X9) (by decide +kernel) rfl Fok_X9 Gok_X9 (Nat.le_of_ble_eq_true rfl) (fun p l e s m args below meth c A hfl C hr hT => ?_)
  generalize hF : F_X9_ofTeam t w σ = r
  unfold F_X9_ofTeam at hF
  refine q_go C tk_X9_ofTeam [(0, 3)] [] (pc1 := 3) (σ1 := σ) (lv1 := [(0, .ref 229), (1, .int t), (2, .int w)]) (st1 := [.int t, .ref 229, .ref 229]) rfl trivial ?_
  refine q_callV C hfl mw_X9_isTeam mi_X9_isTeam me_X9_isTeam lk_X9_75 (k_X9_isTeam t σ) (rest := [.ref 229]) rfl rfl rfl (by decide) (by decide) rfl (q_dc (z := (3, .invokevirtual 75, 3, 0, 0)) tk_X9_ofTeam 3 rfl) (Nat.le_of_ble_eq_true rfl) ⟨Nat.le_of_ble_eq_true rfl, Nat.le_of_ble_eq_true rfl⟩ ⟨Nat.le_of_ble_eq_true rfl, Nat.le_of_ble_eq_true rfl⟩ ?_
  refine q_nrm 6 [.int (F_X9_isTeam t σ), .ref 229] 0 0 rfl rfl rfl rfl ?_
  by_cases c1 : (F_X9_isTeam t σ) = 0
  · rw [if_pos c1] at hF
    refine q_go C tk_X9_ofTeam [(4, 3), (8, 1)] [false] (pc1 := 15) (σ1 := σ) (lv1 := [(0, .ref 229), (1, .int t), (2, .int w)]) (st1 := [.int 1, .int 1, .ref 229]) rfl ⟨c1, trivial⟩ ?_
    refine q_callV C hfl mw_X9_isThrown mi_X9_isThrown me_X9_isThrown lk_X9_63 (k_X9_isThrownN 1 1 σ (by decide) (by decide)) (rest := []) rfl rfl rfl (by decide) (by decide) rfl (q_dc (z := (15, .invokevirtual 63, 3, 0, 0)) tk_X9_ofTeam 9 rfl) (Nat.le_of_ble_eq_true rfl) ⟨Nat.le_of_ble_eq_true rfl, Nat.le_of_ble_eq_true rfl⟩ ⟨Nat.le_of_ble_eq_true rfl, Nat.le_of_ble_eq_true rfl⟩ ?_
    refine q_nrm 18 [.int 1] 0 0 rfl rfl rfl rfl ?_
    refine q_go C tk_X9_ofTeam [(10, 3)] [false] (pc1 := 31) (σ1 := (q_up σ 229 5 1)) (lv1 := [(0, .ref 229), (1, .int t), (2, .int w)]) (st1 := [.int 0]) rfl ⟨(by decide : ¬ (1 : Int32) = 0), trivial⟩ ?_
    exact q_iret C hr (q_dc (z := (31, .ireturn, 1, 0, 0)) tk_X9_ofTeam 17 rfl) (congrArg Prod.snd hF) (congrArg (fun z => q_oi z.1) hF.symm) (Nat.le_of_ble_eq_true rfl) (Nat.le_of_ble_eq_true rfl)
  · rw [if_neg c1] at hF
    refine q_go C tk_X9_ofTeam [(4, 1), (7, 2)] [true] (pc1 := 15) (σ1 := σ) (lv1 := [(0, .ref 229), (1, .int t), (2, .int w)]) (st1 := [.int 1, .int 0, .ref 229]) rfl ⟨c1, trivial⟩ ?_
    refine q_callV C hfl mw_X9_isThrown mi_X9_isThrown me_X9_isThrown lk_X9_63 (k_X9_isThrownZ 0 1 σ (by decide)) (rest := []) rfl rfl rfl (by decide) (by decide) rfl (q_dc (z := (15, .invokevirtual 63, 3, 0, 0)) tk_X9_ofTeam 9 rfl) (Nat.le_of_ble_eq_true rfl) ⟨Nat.le_of_ble_eq_true rfl, Nat.le_of_ble_eq_true rfl⟩ ⟨Nat.le_of_ble_eq_true rfl, Nat.le_of_ble_eq_true rfl⟩ ?_
    refine q_nrm 18 [.int 0] 0 0 rfl rfl rfl rfl ?_
    refine q_go C tk_X9_ofTeam [(10, 1), (13, 3)] [true] (pc1 := 28) (σ1 := (q_up σ 229 5 0)) (lv1 := [(0, .ref 229), (1, .int t), (2, .int w)]) (st1 := [.int w, .int t, .ref 229]) rfl ⟨(by decide : (0 : Int32) = 0), trivial⟩ ?_
    generalize e3 : (q_up σ 229 5 0) = σ2
    replace hF := q_let e3 hF
    refine q_callV C hfl mw_X9_of mi_X9_of me_X9_of lk_X9_52 (k_X9_of t w σ2 ((hP.2 c1) σ2 e3).1) (rest := []) rfl rfl rfl (by decide) (by decide) rfl (q_dc (z := (28, .invokevirtual 52, 3, 0, 0)) tk_X9_ofTeam 16 rfl) (Nat.le_of_ble_eq_true rfl) ⟨Nat.le_of_ble_eq_true rfl, Nat.le_of_ble_eq_true rfl⟩ ⟨Nat.le_of_ble_eq_true rfl, Nat.le_of_ble_eq_true rfl⟩ ?_
    refine q_nrm 31 [.int (F_X9_of t w σ2)] 0 0 rfl rfl rfl rfl ?_
    exact q_iret C hr (q_dc (z := (31, .ireturn, 1, 0, 0)) tk_X9_ofTeam 17 rfl) (congrArg Prod.snd hF) (congrArg (fun z => q_oi z.1) hF.symm) (Nat.le_of_ble_eq_true rfl) (Nat.le_of_ble_eq_true rfl)
def F_X9_laneOf (t : Int32) (σ : q_M) : (Int32) × q_M := (q_L (F_X9_ofTeam t 4 σ).2 (fun σ1 : q_M => ((F_X9_ofTeam t 4 σ).1, σ1)))
def P_X9_laneOf (t : Int32) (σ : q_M) : Prop := ((P_X9_ofTeam t 4 σ) ∧ True)
set_option maxRecDepth 100000 in
theorem k_X9_laneOf {α β : Nat → Nat} {D : va_G} {κ : Nat → ClassId} (t : Int32) (σ : q_M) (hP : P_X9_laneOf t σ) : q_C α β D κ yX9_laneOf cX9_laneOf 2 (Option.some Jvm.ClassFile.FieldType.int) 3 65 0 0 [.ref 229, .int t] σ (q_oi (F_X9_laneOf t σ).1) (F_X9_laneOf t σ).2 := by
  refine q_enter (own := RX9) (F := F_X9) (G := G_X9) (by decide +kernel) rfl Fok_X9 Gok_X9 (Nat.le_of_ble_eq_true rfl) (fun p l e s m args below meth c A hfl C hr hT => ?_)
  generalize hF : F_X9_laneOf t σ = r
  unfold F_X9_laneOf at hF
  refine q_go C tk_X9_laneOf [(0, 3)] [] (pc1 := 3) (σ1 := σ) (lv1 := [(0, .ref 229), (1, .int t)]) (st1 := [.int 4, .int t, .ref 229]) rfl trivial ?_
  refine q_callV C hfl mw_X9_ofTeam mi_X9_ofTeam me_X9_ofTeam lk_X9_145 (k_X9_ofTeam t 4 σ hP.1) (rest := []) rfl rfl rfl (by decide) (by decide) rfl (q_dc (z := (3, .invokevirtual 145, 3, 0, 0)) tk_X9_laneOf 3 rfl) (Nat.le_of_ble_eq_true rfl) ⟨Nat.le_of_ble_eq_true rfl, Nat.le_of_ble_eq_true rfl⟩ ⟨Nat.le_of_ble_eq_true rfl, Nat.le_of_ble_eq_true rfl⟩ ?_
  refine q_nrm 6 [.int (F_X9_ofTeam t 4 σ).1] 0 0 rfl rfl rfl rfl ?_
  generalize e2 : (F_X9_ofTeam t 4 σ).2 = σ1
  replace hF := q_let e2 hF
  exact q_iret C hr (q_dc (z := (6, .ireturn, 1, 0, 0)) tk_X9_laneOf 4 rfl) (congrArg Prod.snd hF) (congrArg (fun z => q_oi z.1) hF.symm) (Nat.le_of_ble_eq_true rfl) (Nat.le_of_ble_eq_true rfl)
def F_X9_positionOf (t : Int32) (σ : q_M) : (Int32) × q_M := (q_L (F_X9_ofTeam t 7 σ).2 (fun σ1 : q_M => ((F_X9_ofTeam t 7 σ).1, σ1)))
def P_X9_positionOf (t : Int32) (σ : q_M) : Prop := ((P_X9_ofTeam t 7 σ) ∧ True)
set_option maxRecDepth 100000 in
theorem k_X9_positionOf {α β : Nat → Nat} {D : va_G} {κ : Nat → ClassId} (t : Int32) (σ : q_M) (hP : P_X9_positionOf t σ) : q_C α β D κ yX9_positionOf cX9_positionOf 2 (Option.some Jvm.ClassFile.FieldType.int) 3 65 0 0 [.ref 229, .int t] σ (q_oi (F_X9_positionOf t σ).1) (F_X9_positionOf t σ).2 := by
  refine q_enter (own := RX9) (F := F_X9) (G := G_X9) (by decide +kernel) rfl Fok_X9 Gok_X9 (Nat.le_of_ble_eq_true rfl) (fun p l e s m args below meth c A hfl C hr hT => ?_)
  generalize hF : F_X9_positionOf t σ = r
  unfold F_X9_positionOf at hF
  refine q_go C tk_X9_positionOf [(0, 3)] [] (pc1 := 4) (σ1 := σ) (lv1 := [(0, .ref 229), (1, .int t)]) (st1 := [.int 7, .int t, .ref 229]) rfl trivial ?_
  refine q_callV C hfl mw_X9_ofTeam mi_X9_ofTeam me_X9_ofTeam lk_X9_145 (k_X9_ofTeam t 7 σ hP.1) (rest := []) rfl rfl rfl (by decide) (by decide) rfl (q_dc (z := (4, .invokevirtual 145, 3, 0, 0)) tk_X9_positionOf 3 rfl) (Nat.le_of_ble_eq_true rfl) ⟨Nat.le_of_ble_eq_true rfl, Nat.le_of_ble_eq_true rfl⟩ ⟨Nat.le_of_ble_eq_true rfl, Nat.le_of_ble_eq_true rfl⟩ ?_
  refine q_nrm 7 [.int (F_X9_ofTeam t 7 σ).1] 0 0 rfl rfl rfl rfl ?_
  generalize e2 : (F_X9_ofTeam t 7 σ).2 = σ1
  replace hF := q_let e2 hF
  exact q_iret C hr (q_dc (z := (7, .ireturn, 1, 0, 0)) tk_X9_positionOf 4 rfl) (congrArg Prod.snd hF) (congrArg (fun z => q_oi z.1) hF.symm) (Nat.le_of_ble_eq_true rfl) (Nat.le_of_ble_eq_true rfl)
def F_X9_legOf (t : Int32) (σ : q_M) : (Int32) × q_M := (q_L (F_X9_ofTeam t 8 σ).2 (fun σ1 : q_M => ((F_X9_ofTeam t 8 σ).1, σ1)))
def P_X9_legOf (t : Int32) (σ : q_M) : Prop := ((P_X9_ofTeam t 8 σ) ∧ True)
set_option maxRecDepth 100000 in
theorem k_X9_legOf {α β : Nat → Nat} {D : va_G} {κ : Nat → ClassId} (t : Int32) (σ : q_M) (hP : P_X9_legOf t σ) : q_C α β D κ yX9_legOf cX9_legOf 2 (Option.some Jvm.ClassFile.FieldType.int) 3 65 0 0 [.ref 229, .int t] σ (q_oi (F_X9_legOf t σ).1) (F_X9_legOf t σ).2 := by
  refine q_enter (own := RX9) (F := F_X9) (G := G_X9) (by decide +kernel) rfl Fok_X9 Gok_X9 (Nat.le_of_ble_eq_true rfl) (fun p l e s m args below meth c A hfl C hr hT => ?_)
  generalize hF : F_X9_legOf t σ = r
  unfold F_X9_legOf at hF
  refine q_go C tk_X9_legOf [(0, 3)] [] (pc1 := 4) (σ1 := σ) (lv1 := [(0, .ref 229), (1, .int t)]) (st1 := [.int 8, .int t, .ref 229]) rfl trivial ?_
  refine q_callV C hfl mw_X9_ofTeam mi_X9_ofTeam me_X9_ofTeam lk_X9_145 (k_X9_ofTeam t 8 σ hP.1) (rest := []) rfl rfl rfl (by decide) (by decide) rfl (q_dc (z := (4, .invokevirtual 145, 3, 0, 0)) tk_X9_legOf 3 rfl) (Nat.le_of_ble_eq_true rfl) ⟨Nat.le_of_ble_eq_true rfl, Nat.le_of_ble_eq_true rfl⟩ ⟨Nat.le_of_ble_eq_true rfl, Nat.le_of_ble_eq_true rfl⟩ ?_
  refine q_nrm 7 [.int (F_X9_ofTeam t 8 σ).1] 0 0 rfl rfl rfl rfl ?_
  generalize e2 : (F_X9_ofTeam t 8 σ).2 = σ1
  replace hF := q_let e2 hF
  exact q_iret C hr (q_dc (z := (7, .ireturn, 1, 0, 0)) tk_X9_legOf 4 rfl) (congrArg Prod.snd hF) (congrArg (fun z => q_oi z.1) hF.symm) (Nat.le_of_ble_eq_true rfl) (Nat.le_of_ble_eq_true rfl)
def F_X9_standingOf (t : Int32) (σ : q_M) : (Int32) × q_M := (q_L (F_X9_ofTeam t 10 σ).2 (fun σ1 : q_M => ((F_X9_ofTeam t 10 σ).1, σ1)))
def P_X9_standingOf (t : Int32) (σ : q_M) : Prop := ((P_X9_ofTeam t 10 σ) ∧ True)
set_option maxRecDepth 100000 in
theorem k_X9_standingOf {α β : Nat → Nat} {D : va_G} {κ : Nat → ClassId} (t : Int32) (σ : q_M) (hP : P_X9_standingOf t σ) : q_C α β D κ yX9_standingOf cX9_standingOf 2 (Option.some Jvm.ClassFile.FieldType.int) 3 65 0 0 [.ref 229, .int t] σ (q_oi (F_X9_standingOf t σ).1) (F_X9_standingOf t σ).2 := by
  refine q_enter (own := RX9) (F := F_X9) (G := G_X9) (by decide +kernel) rfl Fok_X9 Gok_X9 (Nat.le_of_ble_eq_true rfl) (fun p l e s m args below meth c A hfl C hr hT => ?_)
  generalize hF : F_X9_standingOf t σ = r
  unfold F_X9_standingOf at hF
  refine q_go C tk_X9_standingOf [(0, 3)] [] (pc1 := 4) (σ1 := σ) (lv1 := [(0, .ref 229), (1, .int t)]) (st1 := [.int 10, .int t, .ref 229]) rfl trivial ?_
  refine q_callV C hfl mw_X9_ofTeam mi_X9_ofTeam me_X9_ofTeam lk_X9_145 (k_X9_ofTeam t 10 σ hP.1) (rest := []) rfl rfl rfl (by decide) (by decide) rfl (q_dc (z := (4, .invokevirtual 145, 3, 0, 0)) tk_X9_standingOf 3 rfl) (Nat.le_of_ble_eq_true rfl) ⟨Nat.le_of_ble_eq_true rfl, Nat.le_of_ble_eq_true rfl⟩ ⟨Nat.le_of_ble_eq_true rfl, Nat.le_of_ble_eq_true rfl⟩ ?_
  refine q_nrm 7 [.int (F_X9_ofTeam t 10 σ).1] 0 0 rfl rfl rfl rfl ?_
  generalize e2 : (F_X9_ofTeam t 10 σ).2 = σ1
  replace hF := q_let e2 hF
  exact q_iret C hr (q_dc (z := (7, .ireturn, 1, 0, 0)) tk_X9_standingOf 4 rfl) (congrArg Prod.snd hF) (congrArg (fun z => q_oi z.1) hF.symm) (Nat.le_of_ble_eq_true rfl) (Nat.le_of_ble_eq_true rfl)
def F_X9_penaltyOf (t : Int32) (σ : q_M) : (Int32) × q_M := (q_L (F_X9_ofTeam t 5 σ).2 (fun σ1 : q_M => ((F_X9_ofTeam t 5 σ).1, σ1)))
def P_X9_penaltyOf (t : Int32) (σ : q_M) : Prop := ((P_X9_ofTeam t 5 σ) ∧ True)
set_option maxRecDepth 100000 in
theorem k_X9_penaltyOf {α β : Nat → Nat} {D : va_G} {κ : Nat → ClassId} (t : Int32) (σ : q_M) (hP : P_X9_penaltyOf t σ) : q_C α β D κ yX9_penaltyOf cX9_penaltyOf 2 (Option.some Jvm.ClassFile.FieldType.int) 3 65 0 0 [.ref 229, .int t] σ (q_oi (F_X9_penaltyOf t σ).1) (F_X9_penaltyOf t σ).2 := by
  refine q_enter (own := RX9) (F := F_X9) (G := G_X9) (by decide +kernel) rfl Fok_X9 Gok_X9 (Nat.le_of_ble_eq_true rfl) (fun p l e s m args below meth c A hfl C hr hT => ?_)
  generalize hF : F_X9_penaltyOf t σ = r
  unfold F_X9_penaltyOf at hF
  refine q_go C tk_X9_penaltyOf [(0, 3)] [] (pc1 := 3) (σ1 := σ) (lv1 := [(0, .ref 229), (1, .int t)]) (st1 := [.int 5, .int t, .ref 229]) rfl trivial ?_
  refine q_callV C hfl mw_X9_ofTeam mi_X9_ofTeam me_X9_ofTeam lk_X9_145 (k_X9_ofTeam t 5 σ hP.1) (rest := []) rfl rfl rfl (by decide) (by decide) rfl (q_dc (z := (3, .invokevirtual 145, 3, 0, 0)) tk_X9_penaltyOf 3 rfl) (Nat.le_of_ble_eq_true rfl) ⟨Nat.le_of_ble_eq_true rfl, Nat.le_of_ble_eq_true rfl⟩ ⟨Nat.le_of_ble_eq_true rfl, Nat.le_of_ble_eq_true rfl⟩ ?_
  refine q_nrm 6 [.int (F_X9_ofTeam t 5 σ).1] 0 0 rfl rfl rfl rfl ?_
  generalize e2 : (F_X9_ofTeam t 5 σ).2 = σ1
  replace hF := q_let e2 hF
  exact q_iret C hr (q_dc (z := (6, .ireturn, 1, 0, 0)) tk_X9_penaltyOf 4 rfl) (congrArg Prod.snd hF) (congrArg (fun z => q_oi z.1) hF.symm) (Nat.le_of_ble_eq_true rfl) (Nat.le_of_ble_eq_true rfl)
def F_X9_speedOf (t : Int32) (g : Int32) (σ : q_M) : (Int32) × q_M := (if (F_X9_isTeam t σ) = 0 then (0, (q_up σ 229 5 1)) else (if (F_X9_isLeg g σ) = 0 then (0, (q_up σ 229 5 1)) else (q_L (q_up σ 229 5 0) (fun σ3 : q_M => ((F_X9_of t (0 + g) σ3), σ3)))))
def P_X9_speedOf (t : Int32) (g : Int32) (σ : q_M) : Prop := (((F_X9_isTeam t σ) = 0 → True) ∧ (¬ (F_X9_isTeam t σ) = 0 → (((F_X9_isLeg g σ) = 0 → True) ∧ (¬ (F_X9_isLeg g σ) = 0 → (∀ σ3 : q_M, (q_up σ 229 5 0) = σ3 → ((P_X9_of t (0 + g) σ3) ∧ True))))))
set_option maxRecDepth 100000 in
theorem k_X9_speedOf {α β : Nat → Nat} {D : va_G} {κ : Nat → ClassId} (t : Int32) (g : Int32) (σ : q_M) (hP : P_X9_speedOf t g σ) : q_C α β D κ yX9_speedOf cX9_speedOf 3 (Option.some Jvm.ClassFile.FieldType.int) 2 43 0 0 [.ref 229, .int t, .int g] σ (q_oi (F_X9_speedOf t g σ).1) (F_X9_speedOf t g σ).2 := by
  refine q_enter (own := RX9) (F := F_X9) (G := G_X9) (by decide +kernel) rfl Fok_X9 Gok_X9 (Nat.le_of_ble_eq_true rfl) (fun p l e s m args below meth c A hfl C hr hT => ?_)
  generalize hF : F_X9_speedOf t g σ = r
  unfold F_X9_speedOf at hF
  refine q_go C tk_X9_speedOf [(0, 3)] [] (pc1 := 3) (σ1 := σ) (lv1 := [(0, .ref 229), (1, .int t), (2, .int g)]) (st1 := [.int t, .ref 229, .ref 229]) rfl trivial ?_
  refine q_callV C hfl mw_X9_isTeam mi_X9_isTeam me_X9_isTeam lk_X9_75 (k_X9_isTeam t σ) (rest := [.ref 229]) rfl rfl rfl (by decide) (by decide) rfl (q_dc (z := (3, .invokevirtual 75, 3, 0, 0)) tk_X9_speedOf 3 rfl) (Nat.le_of_ble_eq_true rfl) ⟨Nat.le_of_ble_eq_true rfl, Nat.le_of_ble_eq_true rfl⟩ ⟨Nat.le_of_ble_eq_true rfl, Nat.le_of_ble_eq_true rfl⟩ ?_
  refine q_nrm 6 [.int (F_X9_isTeam t σ), .ref 229] 0 0 rfl rfl rfl rfl ?_
  by_cases c1 : (F_X9_isTeam t σ) = 0
  · rw [if_pos c1] at hF
    refine q_go C tk_X9_speedOf [(4, 1), (8, 2), (11, 1)] [true] (pc1 := 22) (σ1 := σ) (lv1 := [(0, .ref 229), (1, .int t), (2, .int g)]) (st1 := [.int 1, .int 1, .ref 229]) rfl ⟨c1, trivial⟩ ?_
    refine q_callV C hfl mw_X9_isThrown mi_X9_isThrown me_X9_isThrown lk_X9_63 (k_X9_isThrownN 1 1 σ (by decide) (by decide)) (rest := []) rfl rfl rfl (by decide) (by decide) rfl (q_dc (z := (22, .invokevirtual 63, 3, 0, 0)) tk_X9_speedOf 12 rfl) (Nat.le_of_ble_eq_true rfl) ⟨Nat.le_of_ble_eq_true rfl, Nat.le_of_ble_eq_true rfl⟩ ⟨Nat.le_of_ble_eq_true rfl, Nat.le_of_ble_eq_true rfl⟩ ?_
    refine q_nrm 25 [.int 1] 0 0 rfl rfl rfl rfl ?_
    refine q_go C tk_X9_speedOf [(13, 3)] [false] (pc1 := 40) (σ1 := (q_up σ 229 5 1)) (lv1 := [(0, .ref 229), (1, .int t), (2, .int g)]) (st1 := [.int 0]) rfl ⟨(by decide : ¬ (1 : Int32) = 0), trivial⟩ ?_
    exact q_iret C hr (q_dc (z := (40, .ireturn, 1, 0, 0)) tk_X9_speedOf 22 rfl) (congrArg Prod.snd hF) (congrArg (fun z => q_oi z.1) hF.symm) (Nat.le_of_ble_eq_true rfl) (Nat.le_of_ble_eq_true rfl)
  · rw [if_neg c1] at hF
    refine q_go C tk_X9_speedOf [(4, 2)] [false] (pc1 := 10) (σ1 := σ) (lv1 := [(0, .ref 229), (1, .int t), (2, .int g)]) (st1 := [.int g, .ref 229]) rfl ⟨c1, trivial⟩ ?_
    refine q_callS C hfl mw_X9_isLeg ms_X9_isLeg lk_X9_79 (k_X9_isLeg g σ) (rest := [.ref 229]) rfl rfl (q_dc (z := (10, .invokestatic 79, 3, 0, 0)) tk_X9_speedOf 6 rfl) (Nat.le_of_ble_eq_true rfl) ⟨Nat.le_of_ble_eq_true rfl, Nat.le_of_ble_eq_true rfl⟩ ⟨Nat.le_of_ble_eq_true rfl, Nat.le_of_ble_eq_true rfl⟩ ?_
    refine q_nrm 13 [.int (F_X9_isLeg g σ), .ref 229] 0 0 rfl rfl rfl rfl ?_
    by_cases c2 : (F_X9_isLeg g σ) = 0
    · rw [if_pos c2] at hF
      refine q_go C tk_X9_speedOf [(7, 3), (11, 1)] [false] (pc1 := 22) (σ1 := σ) (lv1 := [(0, .ref 229), (1, .int t), (2, .int g)]) (st1 := [.int 1, .int 1, .ref 229]) rfl ⟨c2, trivial⟩ ?_
      refine q_callV C hfl mw_X9_isThrown mi_X9_isThrown me_X9_isThrown lk_X9_63 (k_X9_isThrownN 1 1 σ (by decide) (by decide)) (rest := []) rfl rfl rfl (by decide) (by decide) rfl (q_dc (z := (22, .invokevirtual 63, 3, 0, 0)) tk_X9_speedOf 12 rfl) (Nat.le_of_ble_eq_true rfl) ⟨Nat.le_of_ble_eq_true rfl, Nat.le_of_ble_eq_true rfl⟩ ⟨Nat.le_of_ble_eq_true rfl, Nat.le_of_ble_eq_true rfl⟩ ?_
      refine q_nrm 25 [.int 1] 0 0 rfl rfl rfl rfl ?_
      refine q_go C tk_X9_speedOf [(13, 3)] [false] (pc1 := 40) (σ1 := (q_up σ 229 5 1)) (lv1 := [(0, .ref 229), (1, .int t), (2, .int g)]) (st1 := [.int 0]) rfl ⟨(by decide : ¬ (1 : Int32) = 0), trivial⟩ ?_
      exact q_iret C hr (q_dc (z := (40, .ireturn, 1, 0, 0)) tk_X9_speedOf 22 rfl) (congrArg Prod.snd hF) (congrArg (fun z => q_oi z.1) hF.symm) (Nat.le_of_ble_eq_true rfl) (Nat.le_of_ble_eq_true rfl)
    · rw [if_neg c2] at hF
      refine q_go C tk_X9_speedOf [(7, 1), (10, 2)] [true] (pc1 := 22) (σ1 := σ) (lv1 := [(0, .ref 229), (1, .int t), (2, .int g)]) (st1 := [.int 1, .int 0, .ref 229]) rfl ⟨c2, trivial⟩ ?_
      refine q_callV C hfl mw_X9_isThrown mi_X9_isThrown me_X9_isThrown lk_X9_63 (k_X9_isThrownZ 0 1 σ (by decide)) (rest := []) rfl rfl rfl (by decide) (by decide) rfl (q_dc (z := (22, .invokevirtual 63, 3, 0, 0)) tk_X9_speedOf 12 rfl) (Nat.le_of_ble_eq_true rfl) ⟨Nat.le_of_ble_eq_true rfl, Nat.le_of_ble_eq_true rfl⟩ ⟨Nat.le_of_ble_eq_true rfl, Nat.le_of_ble_eq_true rfl⟩ ?_
      refine q_nrm 25 [.int 0] 0 0 rfl rfl rfl rfl ?_
      refine q_go C tk_X9_speedOf [(13, 1), (16, 5)] [true] (pc1 := 37) (σ1 := (q_up σ 229 5 0)) (lv1 := [(0, .ref 229), (1, .int t), (2, .int g)]) (st1 := [.int (0 + g), .int t, .ref 229]) rfl ⟨(by decide : (0 : Int32) = 0), trivial⟩ ?_
      generalize e4 : (q_up σ 229 5 0) = σ3
      replace hF := q_let e4 hF
      refine q_callV C hfl mw_X9_of mi_X9_of me_X9_of lk_X9_52 (k_X9_of t (0 + g) σ3 (((hP.2 c1).2 c2) σ3 e4).1) (rest := []) rfl rfl rfl (by decide) (by decide) rfl (q_dc (z := (37, .invokevirtual 52, 3, 0, 0)) tk_X9_speedOf 21 rfl) (Nat.le_of_ble_eq_true rfl) ⟨Nat.le_of_ble_eq_true rfl, Nat.le_of_ble_eq_true rfl⟩ ⟨Nat.le_of_ble_eq_true rfl, Nat.le_of_ble_eq_true rfl⟩ ?_
      refine q_nrm 40 [.int (F_X9_of t (0 + g) σ3)] 0 0 rfl rfl rfl rfl ?_
      exact q_iret C hr (q_dc (z := (40, .ireturn, 1, 0, 0)) tk_X9_speedOf 22 rfl) (congrArg Prod.snd hF) (congrArg (fun z => q_oi z.1) hF.symm) (Nat.le_of_ble_eq_true rfl) (Nat.le_of_ble_eq_true rfl)
def F_X9_isRunning (t : Int32) (σ : q_M) : (Int32) × q_M := (q_L (F_X9_ofTeam t 6 σ).2 (fun σ1 : q_M => (if (F_X9_ofTeam t 6 σ).1 = 1 then (1, σ1) else (0, σ1))))
def P_X9_isRunning (t : Int32) (σ : q_M) : Prop := ((P_X9_ofTeam t 6 σ) ∧ True)
set_option maxRecDepth 100000 in
theorem k_X9_isRunning {α β : Nat → Nat} {D : va_G} {κ : Nat → ClassId} (t : Int32) (σ : q_M) (hP : P_X9_isRunning t σ) : q_C α β D κ yX9_isRunning cX9_isRunning 2 (Option.some Jvm.ClassFile.FieldType.boolean) 3 65 0 0 [.ref 229, .int t] σ (q_oi (F_X9_isRunning t σ).1) (F_X9_isRunning t σ).2 := by
  refine q_enter (own := RX9) (F := F_X9) (G := G_X9) (by decide +kernel) rfl Fok_X9 Gok_X9 (Nat.le_of_ble_eq_true rfl) (fun p l e s m args below meth c A hfl C hr hT => ?_)
  generalize hF : F_X9_isRunning t σ = r
  unfold F_X9_isRunning at hF
  refine q_go C tk_X9_isRunning [(0, 3)] [] (pc1 := 4) (σ1 := σ) (lv1 := [(0, .ref 229), (1, .int t)]) (st1 := [.int 6, .int t, .ref 229]) rfl trivial ?_
  refine q_callV C hfl mw_X9_ofTeam mi_X9_ofTeam me_X9_ofTeam lk_X9_145 (k_X9_ofTeam t 6 σ hP.1) (rest := []) rfl rfl rfl (by decide) (by decide) rfl (q_dc (z := (4, .invokevirtual 145, 3, 0, 0)) tk_X9_isRunning 3 rfl) (Nat.le_of_ble_eq_true rfl) ⟨Nat.le_of_ble_eq_true rfl, Nat.le_of_ble_eq_true rfl⟩ ⟨Nat.le_of_ble_eq_true rfl, Nat.le_of_ble_eq_true rfl⟩ ?_
  refine q_nrm 7 [.int (F_X9_ofTeam t 6 σ).1] 0 0 rfl rfl rfl rfl ?_
  generalize e2 : (F_X9_ofTeam t 6 σ).2 = σ1
  replace hF := q_let e2 hF
  refine q_go C tk_X9_isRunning [(4, 1)] [] (pc1 := 8) (σ1 := σ1) (lv1 := [(0, .ref 229), (1, .int t)]) (st1 := [.int 1, .int (F_X9_ofTeam t 6 σ).1]) rfl trivial ?_
  by_cases c3 : (F_X9_ofTeam t 6 σ).1 = 1
  · rw [if_pos c3] at hF
    refine q_go C tk_X9_isRunning [(5, 3)] [false] (pc1 := 16) (σ1 := σ1) (lv1 := [(0, .ref 229), (1, .int t)]) (st1 := [.int 1]) rfl ⟨c3, trivial⟩ ?_
    exact q_zret C hr (q_dc (z := (16, .ireturn, 1, 0, 0)) tk_X9_isRunning 9 rfl) (by decide +kernel) (congrArg Prod.snd hF) (congrArg (fun z => q_oi z.1) hF.symm) (Nat.le_of_ble_eq_true rfl) (Nat.le_of_ble_eq_true rfl)
  · rw [if_neg c3] at hF
    refine q_go C tk_X9_isRunning [(5, 1), (8, 1)] [true] (pc1 := 16) (σ1 := σ1) (lv1 := [(0, .ref 229), (1, .int t)]) (st1 := [.int 0]) rfl ⟨c3, trivial⟩ ?_
    exact q_zret C hr (q_dc (z := (16, .ireturn, 1, 0, 0)) tk_X9_isRunning 9 rfl) (by decide +kernel) (congrArg Prod.snd hF) (congrArg (fun z => q_oi z.1) hF.symm) (Nat.le_of_ble_eq_true rfl) (Nat.le_of_ble_eq_true rfl)
def F_X9_isInZone (t : Int32) (σ : q_M) : (Int32) × q_M := (if (F_X9_isTeam t σ) = 0 then (0, (q_up σ 229 5 1)) else (q_L (q_up σ 229 5 0) (fun σ2 : q_M => (if (F_X9_inZone t σ2) = 0 then (0, σ2) else (1, σ2)))))
def P_X9_isInZone (t : Int32) (σ : q_M) : Prop := (((F_X9_isTeam t σ) = 0 → True) ∧ (¬ (F_X9_isTeam t σ) = 0 → (∀ σ2 : q_M, (q_up σ 229 5 0) = σ2 → ((P_X9_inZone t σ2) ∧ True))))
set_option maxRecDepth 100000 in
theorem k_X9_isInZone {α β : Nat → Nat} {D : va_G} {κ : Nat → ClassId} (t : Int32) (σ : q_M) (hP : P_X9_isInZone t σ) : q_C α β D κ yX9_isInZone cX9_isInZone 2 (Option.some Jvm.ClassFile.FieldType.boolean) 2 45 0 0 [.ref 229, .int t] σ (q_oi (F_X9_isInZone t σ).1) (F_X9_isInZone t σ).2 := by
  refine q_enter (own := RX9) (F := F_X9) (G := G_X9) (by decide +kernel) rfl Fok_X9 Gok_X9 (Nat.le_of_ble_eq_true rfl) (fun p l e s m args below meth c A hfl C hr hT => ?_)
  generalize hF : F_X9_isInZone t σ = r
  unfold F_X9_isInZone at hF
  refine q_go C tk_X9_isInZone [(0, 3)] [] (pc1 := 3) (σ1 := σ) (lv1 := [(0, .ref 229), (1, .int t)]) (st1 := [.int t, .ref 229, .ref 229]) rfl trivial ?_
  refine q_callV C hfl mw_X9_isTeam mi_X9_isTeam me_X9_isTeam lk_X9_75 (k_X9_isTeam t σ) (rest := [.ref 229]) rfl rfl rfl (by decide) (by decide) rfl (q_dc (z := (3, .invokevirtual 75, 3, 0, 0)) tk_X9_isInZone 3 rfl) (Nat.le_of_ble_eq_true rfl) ⟨Nat.le_of_ble_eq_true rfl, Nat.le_of_ble_eq_true rfl⟩ ⟨Nat.le_of_ble_eq_true rfl, Nat.le_of_ble_eq_true rfl⟩ ?_
  refine q_nrm 6 [.int (F_X9_isTeam t σ), .ref 229] 0 0 rfl rfl rfl rfl ?_
  by_cases c1 : (F_X9_isTeam t σ) = 0
  · rw [if_pos c1] at hF
    refine q_go C tk_X9_isInZone [(4, 3), (8, 1)] [false] (pc1 := 15) (σ1 := σ) (lv1 := [(0, .ref 229), (1, .int t)]) (st1 := [.int 1, .int 1, .ref 229]) rfl ⟨c1, trivial⟩ ?_
    refine q_callV C hfl mw_X9_isThrown mi_X9_isThrown me_X9_isThrown lk_X9_63 (k_X9_isThrownN 1 1 σ (by decide) (by decide)) (rest := []) rfl rfl rfl (by decide) (by decide) rfl (q_dc (z := (15, .invokevirtual 63, 3, 0, 0)) tk_X9_isInZone 9 rfl) (Nat.le_of_ble_eq_true rfl) ⟨Nat.le_of_ble_eq_true rfl, Nat.le_of_ble_eq_true rfl⟩ ⟨Nat.le_of_ble_eq_true rfl, Nat.le_of_ble_eq_true rfl⟩ ?_
    refine q_nrm 18 [.int 1] 0 0 rfl rfl rfl rfl ?_
    refine q_go C tk_X9_isInZone [(10, 1), (17, 1)] [true] (pc1 := 34) (σ1 := (q_up σ 229 5 1)) (lv1 := [(0, .ref 229), (1, .int t)]) (st1 := [.int 0]) rfl ⟨(by decide : ¬ (1 : Int32) = 0), trivial⟩ ?_
    exact q_zret C hr (q_dc (z := (34, .ireturn, 1, 0, 0)) tk_X9_isInZone 18 rfl) (by decide +kernel) (congrArg Prod.snd hF) (congrArg (fun z => q_oi z.1) hF.symm) (Nat.le_of_ble_eq_true rfl) (Nat.le_of_ble_eq_true rfl)
  · rw [if_neg c1] at hF
    refine q_go C tk_X9_isInZone [(4, 1), (7, 2)] [true] (pc1 := 15) (σ1 := σ) (lv1 := [(0, .ref 229), (1, .int t)]) (st1 := [.int 1, .int 0, .ref 229]) rfl ⟨c1, trivial⟩ ?_
    refine q_callV C hfl mw_X9_isThrown mi_X9_isThrown me_X9_isThrown lk_X9_63 (k_X9_isThrownZ 0 1 σ (by decide)) (rest := []) rfl rfl rfl (by decide) (by decide) rfl (q_dc (z := (15, .invokevirtual 63, 3, 0, 0)) tk_X9_isInZone 9 rfl) (Nat.le_of_ble_eq_true rfl) ⟨Nat.le_of_ble_eq_true rfl, Nat.le_of_ble_eq_true rfl⟩ ⟨Nat.le_of_ble_eq_true rfl, Nat.le_of_ble_eq_true rfl⟩ ?_
    refine q_nrm 18 [.int 0] 0 0 rfl rfl rfl rfl ?_
    refine q_go C tk_X9_isInZone [(10, 3)] [false] (pc1 := 23) (σ1 := (q_up σ 229 5 0)) (lv1 := [(0, .ref 229), (1, .int t)]) (st1 := [.int t, .ref 229]) rfl ⟨(by decide : (0 : Int32) = 0), trivial⟩ ?_
    generalize e3 : (q_up σ 229 5 0) = σ2
    replace hF := q_let e3 hF
    refine q_callV C hfl mw_X9_inZone mi_X9_inZone me_X9_inZone lk_X9_133 (k_X9_inZone t σ2 ((hP.2 c1) σ2 e3).1) (rest := []) rfl rfl rfl (by decide) (by decide) rfl (q_dc (z := (23, .invokevirtual 133, 3, 0, 0)) tk_X9_isInZone 13 rfl) (Nat.le_of_ble_eq_true rfl) ⟨Nat.le_of_ble_eq_true rfl, Nat.le_of_ble_eq_true rfl⟩ ⟨Nat.le_of_ble_eq_true rfl, Nat.le_of_ble_eq_true rfl⟩ ?_
    refine q_nrm 26 [.int (F_X9_inZone t σ2)] 0 0 rfl rfl rfl rfl ?_
    by_cases c4 : (F_X9_inZone t σ2) = 0
    · rw [if_pos c4] at hF
      refine q_go C tk_X9_isInZone [(14, 1), (17, 1)] [true] (pc1 := 34) (σ1 := σ2) (lv1 := [(0, .ref 229), (1, .int t)]) (st1 := [.int 0]) rfl ⟨c4, trivial⟩ ?_
      exact q_zret C hr (q_dc (z := (34, .ireturn, 1, 0, 0)) tk_X9_isInZone 18 rfl) (by decide +kernel) (congrArg Prod.snd hF) (congrArg (fun z => q_oi z.1) hF.symm) (Nat.le_of_ble_eq_true rfl) (Nat.le_of_ble_eq_true rfl)
    · rw [if_neg c4] at hF
      refine q_go C tk_X9_isInZone [(14, 3)] [false] (pc1 := 34) (σ1 := σ2) (lv1 := [(0, .ref 229), (1, .int t)]) (st1 := [.int 1]) rfl ⟨c4, trivial⟩ ?_
      exact q_zret C hr (q_dc (z := (34, .ireturn, 1, 0, 0)) tk_X9_isInZone 18 rfl) (by decide +kernel) (congrArg Prod.snd hF) (congrArg (fun z => q_oi z.1) hF.symm) (Nat.le_of_ble_eq_true rfl) (Nat.le_of_ble_eq_true rfl)
def F_X9_hasFoul (t : Int32) (k : Int32) (σ : q_M) : (Int32) × q_M := (if (F_X9_isTeam t σ) = 0 then (0, (q_up σ 229 5 1)) else (q_L (q_up σ 229 5 0) (fun σ2 : q_M => (if (F_X9_isIn k 0 1 σ2) = 0 then (0, (q_up σ2 229 5 2)) else (q_L (q_up σ2 229 5 0) (fun σ5 : q_M => (if (F_X9_of t (11 + k) σ5) = 1 then (1, σ5) else (0, σ5))))))))
def P_X9_hasFoul (t : Int32) (k : Int32) (σ : q_M) : Prop := (((F_X9_isTeam t σ) = 0 → True) ∧ (¬ (F_X9_isTeam t σ) = 0 → (∀ σ2 : q_M, (q_up σ 229 5 0) = σ2 → (((F_X9_isIn k 0 1 σ2) = 0 → True) ∧ (¬ (F_X9_isIn k 0 1 σ2) = 0 → (∀ σ5 : q_M, (q_up σ2 229 5 0) = σ5 → ((P_X9_of t (11 + k) σ5) ∧ True)))))))
set_option maxRecDepth 100000 in
theorem k_X9_hasFoul {α β : Nat → Nat} {D : va_G} {κ : Nat → ClassId} (t : Int32) (k : Int32) (σ : q_M) (hP : P_X9_hasFoul t k σ) : q_C α β D κ yX9_hasFoul cX9_hasFoul 3 (Option.some Jvm.ClassFile.FieldType.boolean) 2 43 0 0 [.ref 229, .int t, .int k] σ (q_oi (F_X9_hasFoul t k σ).1) (F_X9_hasFoul t k σ).2 := by
  refine q_enter (own := RX9) (F := F_X9) (G := G_X9) (by decide +kernel) rfl Fok_X9 Gok_X9 (Nat.le_of_ble_eq_true rfl) (fun p l e s m args below meth c A hfl C hr hT => ?_)
  generalize hF : F_X9_hasFoul t k σ = r
  unfold F_X9_hasFoul at hF
  refine q_go C tk_X9_hasFoul [(0, 3)] [] (pc1 := 3) (σ1 := σ) (lv1 := [(0, .ref 229), (1, .int t), (2, .int k)]) (st1 := [.int t, .ref 229, .ref 229]) rfl trivial ?_
  refine q_callV C hfl mw_X9_isTeam mi_X9_isTeam me_X9_isTeam lk_X9_75 (k_X9_isTeam t σ) (rest := [.ref 229]) rfl rfl rfl (by decide) (by decide) rfl (q_dc (z := (3, .invokevirtual 75, 3, 0, 0)) tk_X9_hasFoul 3 rfl) (Nat.le_of_ble_eq_true rfl) ⟨Nat.le_of_ble_eq_true rfl, Nat.le_of_ble_eq_true rfl⟩ ⟨Nat.le_of_ble_eq_true rfl, Nat.le_of_ble_eq_true rfl⟩ ?_
  refine q_nrm 6 [.int (F_X9_isTeam t σ), .ref 229] 0 0 rfl rfl rfl rfl ?_
  by_cases c1 : (F_X9_isTeam t σ) = 0
  · rw [if_pos c1] at hF
    refine q_go C tk_X9_hasFoul [(4, 3), (8, 1)] [false] (pc1 := 15) (σ1 := σ) (lv1 := [(0, .ref 229), (1, .int t), (2, .int k)]) (st1 := [.int 1, .int 1, .ref 229]) rfl ⟨c1, trivial⟩ ?_
    refine q_callV C hfl mw_X9_isThrown mi_X9_isThrown me_X9_isThrown lk_X9_63 (k_X9_isThrownN 1 1 σ (by decide) (by decide)) (rest := []) rfl rfl rfl (by decide) (by decide) rfl (q_dc (z := (15, .invokevirtual 63, 3, 0, 0)) tk_X9_hasFoul 9 rfl) (Nat.le_of_ble_eq_true rfl) ⟨Nat.le_of_ble_eq_true rfl, Nat.le_of_ble_eq_true rfl⟩ ⟨Nat.le_of_ble_eq_true rfl, Nat.le_of_ble_eq_true rfl⟩ ?_
    refine q_nrm 18 [.int 1] 0 0 rfl rfl rfl rfl ?_
    refine q_go C tk_X9_hasFoul [(10, 1), (33, 1)] [true] (pc1 := 61) (σ1 := (q_up σ 229 5 1)) (lv1 := [(0, .ref 229), (1, .int t), (2, .int k)]) (st1 := [.int 0]) rfl ⟨(by decide : ¬ (1 : Int32) = 0), trivial⟩ ?_
    exact q_zret C hr (q_dc (z := (61, .ireturn, 1, 0, 0)) tk_X9_hasFoul 34 rfl) (by decide +kernel) (congrArg Prod.snd hF) (congrArg (fun z => q_oi z.1) hF.symm) (Nat.le_of_ble_eq_true rfl) (Nat.le_of_ble_eq_true rfl)
  · rw [if_neg c1] at hF
    refine q_go C tk_X9_hasFoul [(4, 1), (7, 2)] [true] (pc1 := 15) (σ1 := σ) (lv1 := [(0, .ref 229), (1, .int t), (2, .int k)]) (st1 := [.int 1, .int 0, .ref 229]) rfl ⟨c1, trivial⟩ ?_
    refine q_callV C hfl mw_X9_isThrown mi_X9_isThrown me_X9_isThrown lk_X9_63 (k_X9_isThrownZ 0 1 σ (by decide)) (rest := []) rfl rfl rfl (by decide) (by decide) rfl (q_dc (z := (15, .invokevirtual 63, 3, 0, 0)) tk_X9_hasFoul 9 rfl) (Nat.le_of_ble_eq_true rfl) ⟨Nat.le_of_ble_eq_true rfl, Nat.le_of_ble_eq_true rfl⟩ ⟨Nat.le_of_ble_eq_true rfl, Nat.le_of_ble_eq_true rfl⟩ ?_
    refine q_nrm 18 [.int 0] 0 0 rfl rfl rfl rfl ?_
    refine q_go C tk_X9_hasFoul [(10, 5)] [false] (pc1 := 25) (σ1 := (q_up σ 229 5 0)) (lv1 := [(0, .ref 229), (1, .int t), (2, .int k)]) (st1 := [.int 1, .int 0, .int k, .ref 229]) rfl ⟨(by decide : (0 : Int32) = 0), trivial⟩ ?_
    generalize e3 : (q_up σ 229 5 0) = σ2
    replace hF := q_let e3 hF
    refine q_callS C hfl mw_X9_isIn ms_X9_isIn lk_X9_48 (k_X9_isIn k 0 1 σ2) (rest := [.ref 229]) rfl rfl (q_dc (z := (25, .invokestatic 48, 3, 0, 0)) tk_X9_hasFoul 15 rfl) (Nat.le_of_ble_eq_true rfl) ⟨Nat.le_of_ble_eq_true rfl, Nat.le_of_ble_eq_true rfl⟩ ⟨Nat.le_of_ble_eq_true rfl, Nat.le_of_ble_eq_true rfl⟩ ?_
    refine q_nrm 28 [.int (F_X9_isIn k 0 1 σ2), .ref 229] 0 0 rfl rfl rfl rfl ?_
    by_cases c4 : (F_X9_isIn k 0 1 σ2) = 0
    · rw [if_pos c4] at hF
      refine q_go C tk_X9_hasFoul [(16, 3), (20, 1)] [false] (pc1 := 37) (σ1 := σ2) (lv1 := [(0, .ref 229), (1, .int t), (2, .int k)]) (st1 := [.int 2, .int 1, .ref 229]) rfl ⟨c4, trivial⟩ ?_
      refine q_callV C hfl mw_X9_isThrown mi_X9_isThrown me_X9_isThrown lk_X9_63 (k_X9_isThrownN 1 2 σ2 (by decide) (by decide)) (rest := []) rfl rfl rfl (by decide) (by decide) rfl (q_dc (z := (37, .invokevirtual 63, 3, 0, 0)) tk_X9_hasFoul 21 rfl) (Nat.le_of_ble_eq_true rfl) ⟨Nat.le_of_ble_eq_true rfl, Nat.le_of_ble_eq_true rfl⟩ ⟨Nat.le_of_ble_eq_true rfl, Nat.le_of_ble_eq_true rfl⟩ ?_
      refine q_nrm 40 [.int 1] 0 0 rfl rfl rfl rfl ?_
      refine q_go C tk_X9_hasFoul [(22, 1), (33, 1)] [true] (pc1 := 61) (σ1 := (q_up σ2 229 5 2)) (lv1 := [(0, .ref 229), (1, .int t), (2, .int k)]) (st1 := [.int 0]) rfl ⟨(by decide : ¬ (1 : Int32) = 0), trivial⟩ ?_
      exact q_zret C hr (q_dc (z := (61, .ireturn, 1, 0, 0)) tk_X9_hasFoul 34 rfl) (by decide +kernel) (congrArg Prod.snd hF) (congrArg (fun z => q_oi z.1) hF.symm) (Nat.le_of_ble_eq_true rfl) (Nat.le_of_ble_eq_true rfl)
    · rw [if_neg c4] at hF
      refine q_go C tk_X9_hasFoul [(16, 1), (19, 2)] [true] (pc1 := 37) (σ1 := σ2) (lv1 := [(0, .ref 229), (1, .int t), (2, .int k)]) (st1 := [.int 2, .int 0, .ref 229]) rfl ⟨c4, trivial⟩ ?_
      refine q_callV C hfl mw_X9_isThrown mi_X9_isThrown me_X9_isThrown lk_X9_63 (k_X9_isThrownZ 0 2 σ2 (by decide)) (rest := []) rfl rfl rfl (by decide) (by decide) rfl (q_dc (z := (37, .invokevirtual 63, 3, 0, 0)) tk_X9_hasFoul 21 rfl) (Nat.le_of_ble_eq_true rfl) ⟨Nat.le_of_ble_eq_true rfl, Nat.le_of_ble_eq_true rfl⟩ ⟨Nat.le_of_ble_eq_true rfl, Nat.le_of_ble_eq_true rfl⟩ ?_
      refine q_nrm 40 [.int 0] 0 0 rfl rfl rfl rfl ?_
      refine q_go C tk_X9_hasFoul [(22, 6)] [false] (pc1 := 49) (σ1 := (q_up σ2 229 5 0)) (lv1 := [(0, .ref 229), (1, .int t), (2, .int k)]) (st1 := [.int (11 + k), .int t, .ref 229]) rfl ⟨(by decide : (0 : Int32) = 0), trivial⟩ ?_
      generalize e6 : (q_up σ2 229 5 0) = σ5
      replace hF := q_let e6 hF
      refine q_callV C hfl mw_X9_of mi_X9_of me_X9_of lk_X9_52 (k_X9_of t (11 + k) σ5 ((((hP.2 c1) σ2 e3).2 c4) σ5 e6).1) (rest := []) rfl rfl rfl (by decide) (by decide) rfl (q_dc (z := (49, .invokevirtual 52, 3, 0, 0)) tk_X9_hasFoul 28 rfl) (Nat.le_of_ble_eq_true rfl) ⟨Nat.le_of_ble_eq_true rfl, Nat.le_of_ble_eq_true rfl⟩ ⟨Nat.le_of_ble_eq_true rfl, Nat.le_of_ble_eq_true rfl⟩ ?_
      refine q_nrm 52 [.int (F_X9_of t (11 + k) σ5)] 0 0 rfl rfl rfl rfl ?_
      refine q_go C tk_X9_hasFoul [(29, 1)] [] (pc1 := 53) (σ1 := σ5) (lv1 := [(0, .ref 229), (1, .int t), (2, .int k)]) (st1 := [.int 1, .int (F_X9_of t (11 + k) σ5)]) rfl trivial ?_
      by_cases c7 : (F_X9_of t (11 + k) σ5) = 1
      · rw [if_pos c7] at hF
        refine q_go C tk_X9_hasFoul [(30, 3)] [false] (pc1 := 61) (σ1 := σ5) (lv1 := [(0, .ref 229), (1, .int t), (2, .int k)]) (st1 := [.int 1]) rfl ⟨c7, trivial⟩ ?_
        exact q_zret C hr (q_dc (z := (61, .ireturn, 1, 0, 0)) tk_X9_hasFoul 34 rfl) (by decide +kernel) (congrArg Prod.snd hF) (congrArg (fun z => q_oi z.1) hF.symm) (Nat.le_of_ble_eq_true rfl) (Nat.le_of_ble_eq_true rfl)
      · rw [if_neg c7] at hF
        refine q_go C tk_X9_hasFoul [(30, 1), (33, 1)] [true] (pc1 := 61) (σ1 := σ5) (lv1 := [(0, .ref 229), (1, .int t), (2, .int k)]) (st1 := [.int 0]) rfl ⟨c7, trivial⟩ ?_
        exact q_zret C hr (q_dc (z := (61, .ireturn, 1, 0, 0)) tk_X9_hasFoul 34 rfl) (by decide +kernel) (congrArg Prod.snd hF) (congrArg (fun z => q_oi z.1) hF.symm) (Nat.le_of_ble_eq_true rfl) (Nat.le_of_ble_eq_true rfl)
def F_X9_splitOf (t : Int32) (g : Int32) (σ : q_M) : (Int32) × q_M := (if (F_X9_isTeam t σ) = 0 then (0, (q_up σ 229 5 1)) else (if (F_X9_isLeg g σ) = 0 then (0, (q_up σ 229 5 1)) else (q_L (q_up σ 229 5 0) (fun σ3 : q_M => (q_L ((F_X9_of t (14 + g) σ3) - 1) (fun x5 : Int32 => (if x5 < 0 then (0, (q_up σ3 229 5 2)) else (x5, (q_up σ3 229 5 0)))))))))
def P_X9_splitOf (t : Int32) (g : Int32) (σ : q_M) : Prop := (((F_X9_isTeam t σ) = 0 → True) ∧ (¬ (F_X9_isTeam t σ) = 0 → (((F_X9_isLeg g σ) = 0 → True) ∧ (¬ (F_X9_isLeg g σ) = 0 → (∀ σ3 : q_M, (q_up σ 229 5 0) = σ3 → ((P_X9_of t (14 + g) σ3) ∧ True))))))
set_option maxRecDepth 100000 in
theorem k_X9_splitOf {α β : Nat → Nat} {D : va_G} {κ : Nat → ClassId} (t : Int32) (g : Int32) (σ : q_M) (hP : P_X9_splitOf t g σ) : q_C α β D κ yX9_splitOf cX9_splitOf 4 (Option.some Jvm.ClassFile.FieldType.int) 2 43 0 0 [.ref 229, .int t, .int g] σ (q_oi (F_X9_splitOf t g σ).1) (F_X9_splitOf t g σ).2 := by
  refine q_enter (own := RX9) (F := F_X9) (G := G_X9) (by decide +kernel) rfl Fok_X9 Gok_X9 (Nat.le_of_ble_eq_true rfl) (fun p l e s m args below meth c A hfl C hr hT => ?_)
  generalize hF : F_X9_splitOf t g σ = r
  unfold F_X9_splitOf at hF
  refine q_go C tk_X9_splitOf [(0, 3)] [] (pc1 := 3) (σ1 := σ) (lv1 := [(0, .ref 229), (1, .int t), (2, .int g)]) (st1 := [.int t, .ref 229, .ref 229]) rfl trivial ?_
  refine q_callV C hfl mw_X9_isTeam mi_X9_isTeam me_X9_isTeam lk_X9_75 (k_X9_isTeam t σ) (rest := [.ref 229]) rfl rfl rfl (by decide) (by decide) rfl (q_dc (z := (3, .invokevirtual 75, 3, 0, 0)) tk_X9_splitOf 3 rfl) (Nat.le_of_ble_eq_true rfl) ⟨Nat.le_of_ble_eq_true rfl, Nat.le_of_ble_eq_true rfl⟩ ⟨Nat.le_of_ble_eq_true rfl, Nat.le_of_ble_eq_true rfl⟩ ?_
  refine q_nrm 6 [.int (F_X9_isTeam t σ), .ref 229] 0 0 rfl rfl rfl rfl ?_
  by_cases c1 : (F_X9_isTeam t σ) = 0
  · rw [if_pos c1] at hF
    refine q_go C tk_X9_splitOf [(4, 1), (8, 2), (11, 1)] [true] (pc1 := 22) (σ1 := σ) (lv1 := [(0, .ref 229), (1, .int t), (2, .int g)]) (st1 := [.int 1, .int 1, .ref 229]) rfl ⟨c1, trivial⟩ ?_
    refine q_callV C hfl mw_X9_isThrown mi_X9_isThrown me_X9_isThrown lk_X9_63 (k_X9_isThrownN 1 1 σ (by decide) (by decide)) (rest := []) rfl rfl rfl (by decide) (by decide) rfl (q_dc (z := (22, .invokevirtual 63, 3, 0, 0)) tk_X9_splitOf 12 rfl) (Nat.le_of_ble_eq_true rfl) ⟨Nat.le_of_ble_eq_true rfl, Nat.le_of_ble_eq_true rfl⟩ ⟨Nat.le_of_ble_eq_true rfl, Nat.le_of_ble_eq_true rfl⟩ ?_
    refine q_nrm 25 [.int 1] 0 0 rfl rfl rfl rfl ?_
    refine q_go C tk_X9_splitOf [(13, 2)] [false] (pc1 := 29) (σ1 := (q_up σ 229 5 1)) (lv1 := [(0, .ref 229), (1, .int t), (2, .int g)]) (st1 := [.int 0]) rfl ⟨(by decide : ¬ (1 : Int32) = 0), trivial⟩ ?_
    exact q_iret C hr (q_dc (z := (29, .ireturn, 1, 0, 0)) tk_X9_splitOf 15 rfl) (congrArg Prod.snd hF) (congrArg (fun z => q_oi z.1) hF.symm) (Nat.le_of_ble_eq_true rfl) (Nat.le_of_ble_eq_true rfl)
  · rw [if_neg c1] at hF
    refine q_go C tk_X9_splitOf [(4, 2)] [false] (pc1 := 10) (σ1 := σ) (lv1 := [(0, .ref 229), (1, .int t), (2, .int g)]) (st1 := [.int g, .ref 229]) rfl ⟨c1, trivial⟩ ?_
    refine q_callS C hfl mw_X9_isLeg ms_X9_isLeg lk_X9_79 (k_X9_isLeg g σ) (rest := [.ref 229]) rfl rfl (q_dc (z := (10, .invokestatic 79, 3, 0, 0)) tk_X9_splitOf 6 rfl) (Nat.le_of_ble_eq_true rfl) ⟨Nat.le_of_ble_eq_true rfl, Nat.le_of_ble_eq_true rfl⟩ ⟨Nat.le_of_ble_eq_true rfl, Nat.le_of_ble_eq_true rfl⟩ ?_
    refine q_nrm 13 [.int (F_X9_isLeg g σ), .ref 229] 0 0 rfl rfl rfl rfl ?_
    by_cases c2 : (F_X9_isLeg g σ) = 0
    · rw [if_pos c2] at hF
      refine q_go C tk_X9_splitOf [(7, 3), (11, 1)] [false] (pc1 := 22) (σ1 := σ) (lv1 := [(0, .ref 229), (1, .int t), (2, .int g)]) (st1 := [.int 1, .int 1, .ref 229]) rfl ⟨c2, trivial⟩ ?_
      refine q_callV C hfl mw_X9_isThrown mi_X9_isThrown me_X9_isThrown lk_X9_63 (k_X9_isThrownN 1 1 σ (by decide) (by decide)) (rest := []) rfl rfl rfl (by decide) (by decide) rfl (q_dc (z := (22, .invokevirtual 63, 3, 0, 0)) tk_X9_splitOf 12 rfl) (Nat.le_of_ble_eq_true rfl) ⟨Nat.le_of_ble_eq_true rfl, Nat.le_of_ble_eq_true rfl⟩ ⟨Nat.le_of_ble_eq_true rfl, Nat.le_of_ble_eq_true rfl⟩ ?_
      refine q_nrm 25 [.int 1] 0 0 rfl rfl rfl rfl ?_
      refine q_go C tk_X9_splitOf [(13, 2)] [false] (pc1 := 29) (σ1 := (q_up σ 229 5 1)) (lv1 := [(0, .ref 229), (1, .int t), (2, .int g)]) (st1 := [.int 0]) rfl ⟨(by decide : ¬ (1 : Int32) = 0), trivial⟩ ?_
      exact q_iret C hr (q_dc (z := (29, .ireturn, 1, 0, 0)) tk_X9_splitOf 15 rfl) (congrArg Prod.snd hF) (congrArg (fun z => q_oi z.1) hF.symm) (Nat.le_of_ble_eq_true rfl) (Nat.le_of_ble_eq_true rfl)
    · rw [if_neg c2] at hF
      refine q_go C tk_X9_splitOf [(7, 1), (10, 2)] [true] (pc1 := 22) (σ1 := σ) (lv1 := [(0, .ref 229), (1, .int t), (2, .int g)]) (st1 := [.int 1, .int 0, .ref 229]) rfl ⟨c2, trivial⟩ ?_
      refine q_callV C hfl mw_X9_isThrown mi_X9_isThrown me_X9_isThrown lk_X9_63 (k_X9_isThrownZ 0 1 σ (by decide)) (rest := []) rfl rfl rfl (by decide) (by decide) rfl (q_dc (z := (22, .invokevirtual 63, 3, 0, 0)) tk_X9_splitOf 12 rfl) (Nat.le_of_ble_eq_true rfl) ⟨Nat.le_of_ble_eq_true rfl, Nat.le_of_ble_eq_true rfl⟩ ⟨Nat.le_of_ble_eq_true rfl, Nat.le_of_ble_eq_true rfl⟩ ?_
      refine q_nrm 25 [.int 0] 0 0 rfl rfl rfl rfl ?_
      refine q_go C tk_X9_splitOf [(13, 1), (16, 5)] [true] (pc1 := 36) (σ1 := (q_up σ 229 5 0)) (lv1 := [(0, .ref 229), (1, .int t), (2, .int g)]) (st1 := [.int (14 + g), .int t, .ref 229]) rfl ⟨(by decide : (0 : Int32) = 0), trivial⟩ ?_
      generalize e4 : (q_up σ 229 5 0) = σ3
      replace hF := q_let e4 hF
      refine q_callV C hfl mw_X9_of mi_X9_of me_X9_of lk_X9_52 (k_X9_of t (14 + g) σ3 (((hP.2 c1).2 c2) σ3 e4).1) (rest := []) rfl rfl rfl (by decide) (by decide) rfl (q_dc (z := (36, .invokevirtual 52, 3, 0, 0)) tk_X9_splitOf 21 rfl) (Nat.le_of_ble_eq_true rfl) ⟨Nat.le_of_ble_eq_true rfl, Nat.le_of_ble_eq_true rfl⟩ ⟨Nat.le_of_ble_eq_true rfl, Nat.le_of_ble_eq_true rfl⟩ ?_
      refine q_nrm 39 [.int (F_X9_of t (14 + g) σ3)] 0 0 rfl rfl rfl rfl ?_
      refine q_go C tk_X9_splitOf [(22, 2)] [] (pc1 := 41) (σ1 := σ3) (lv1 := [(0, .ref 229), (1, .int t), (2, .int g)]) (st1 := [.int ((F_X9_of t (14 + g) σ3) - 1)]) rfl trivial ?_
      generalize e6 : ((F_X9_of t (14 + g) σ3) - 1) = x5
      replace hF := q_let e6 hF
      refine q_go C tk_X9_splitOf [(24, 3)] [] (pc1 := 44) (σ1 := σ3) (lv1 := [(3, .int x5), (0, .ref 229), (1, .int t), (2, .int g)]) (st1 := [.int x5, .ref 229]) rfl trivial ?_
      by_cases c7 : x5 < 0
      · rw [if_pos c7] at hF
        refine q_go C tk_X9_splitOf [(27, 3), (31, 1)] [false] (pc1 := 53) (σ1 := σ3) (lv1 := [(3, .int x5), (0, .ref 229), (1, .int t), (2, .int g)]) (st1 := [.int 2, .int 1, .ref 229]) rfl ⟨c7, trivial⟩ ?_
        refine q_callV C hfl mw_X9_isThrown mi_X9_isThrown me_X9_isThrown lk_X9_63 (k_X9_isThrownN 1 2 σ3 (by decide) (by decide)) (rest := []) rfl rfl rfl (by decide) (by decide) rfl (q_dc (z := (53, .invokevirtual 63, 3, 0, 0)) tk_X9_splitOf 32 rfl) (Nat.le_of_ble_eq_true rfl) ⟨Nat.le_of_ble_eq_true rfl, Nat.le_of_ble_eq_true rfl⟩ ⟨Nat.le_of_ble_eq_true rfl, Nat.le_of_ble_eq_true rfl⟩ ?_
        refine q_nrm 56 [.int 1] 0 0 rfl rfl rfl rfl ?_
        refine q_go C tk_X9_splitOf [(33, 3)] [false] (pc1 := 64) (σ1 := (q_up σ3 229 5 2)) (lv1 := [(3, .int x5), (0, .ref 229), (1, .int t), (2, .int g)]) (st1 := [.int 0]) rfl ⟨(by decide : ¬ (1 : Int32) = 0), trivial⟩ ?_
        exact q_iret C hr (q_dc (z := (64, .ireturn, 1, 0, 0)) tk_X9_splitOf 37 rfl) (congrArg Prod.snd hF) (congrArg (fun z => q_oi z.1) hF.symm) (Nat.le_of_ble_eq_true rfl) (Nat.le_of_ble_eq_true rfl)
      · rw [if_neg c7] at hF
        refine q_go C tk_X9_splitOf [(27, 1), (30, 2)] [true] (pc1 := 53) (σ1 := σ3) (lv1 := [(3, .int x5), (0, .ref 229), (1, .int t), (2, .int g)]) (st1 := [.int 2, .int 0, .ref 229]) rfl ⟨c7, trivial⟩ ?_
        refine q_callV C hfl mw_X9_isThrown mi_X9_isThrown me_X9_isThrown lk_X9_63 (k_X9_isThrownZ 0 2 σ3 (by decide)) (rest := []) rfl rfl rfl (by decide) (by decide) rfl (q_dc (z := (53, .invokevirtual 63, 3, 0, 0)) tk_X9_splitOf 32 rfl) (Nat.le_of_ble_eq_true rfl) ⟨Nat.le_of_ble_eq_true rfl, Nat.le_of_ble_eq_true rfl⟩ ⟨Nat.le_of_ble_eq_true rfl, Nat.le_of_ble_eq_true rfl⟩ ?_
        refine q_nrm 56 [.int 0] 0 0 rfl rfl rfl rfl ?_
        refine q_go C tk_X9_splitOf [(33, 1), (36, 1)] [true] (pc1 := 64) (σ1 := (q_up σ3 229 5 0)) (lv1 := [(3, .int x5), (0, .ref 229), (1, .int t), (2, .int g)]) (st1 := [.int x5]) rfl ⟨(by decide : (0 : Int32) = 0), trivial⟩ ?_
        exact q_iret C hr (q_dc (z := (64, .ireturn, 1, 0, 0)) tk_X9_splitOf 37 rfl) (congrArg Prod.snd hF) (congrArg (fun z => q_oi z.1) hF.symm) (Nat.le_of_ble_eq_true rfl) (Nat.le_of_ble_eq_true rfl)
def F_X9_isNoResult (t : Int32) (σ : q_M) : (Int32) × q_M := (if (F_X9_isTeam t σ) = 0 then (1, (q_up σ 229 5 1)) else (q_L (q_up σ 229 5 0) (fun σ2 : q_M => (if (F_X9_of t 6 σ2) = 2 then (0, (q_up σ2 229 5 0)) else (1, (q_up σ2 229 5 2))))))
def P_X9_isNoResult (t : Int32) (σ : q_M) : Prop := (((F_X9_isTeam t σ) = 0 → True) ∧ (¬ (F_X9_isTeam t σ) = 0 → (∀ σ2 : q_M, (q_up σ 229 5 0) = σ2 → ((P_X9_of t 6 σ2) ∧ True))))
set_option maxRecDepth 100000 in
theorem k_X9_isNoResult {α β : Nat → Nat} {D : va_G} {κ : Nat → ClassId} (t : Int32) (σ : q_M) (hP : P_X9_isNoResult t σ) : q_C α β D κ yX9_isNoResult cX9_isNoResult 2 (Option.some Jvm.ClassFile.FieldType.boolean) 2 43 0 0 [.ref 229, .int t] σ (q_oi (F_X9_isNoResult t σ).1) (F_X9_isNoResult t σ).2 := by
  refine q_enter (own := RX9) (F := F_X9) (G := G_X9) (by decide +kernel) rfl Fok_X9 Gok_X9 (Nat.le_of_ble_eq_true rfl) (fun p l e s m args below meth c A hfl C hr hT => ?_)
  generalize hF : F_X9_isNoResult t σ = r
  unfold F_X9_isNoResult at hF
  refine q_go C tk_X9_isNoResult [(0, 3)] [] (pc1 := 3) (σ1 := σ) (lv1 := [(0, .ref 229), (1, .int t)]) (st1 := [.int t, .ref 229, .ref 229]) rfl trivial ?_
  refine q_callV C hfl mw_X9_isTeam mi_X9_isTeam me_X9_isTeam lk_X9_75 (k_X9_isTeam t σ) (rest := [.ref 229]) rfl rfl rfl (by decide) (by decide) rfl (q_dc (z := (3, .invokevirtual 75, 3, 0, 0)) tk_X9_isNoResult 3 rfl) (Nat.le_of_ble_eq_true rfl) ⟨Nat.le_of_ble_eq_true rfl, Nat.le_of_ble_eq_true rfl⟩ ⟨Nat.le_of_ble_eq_true rfl, Nat.le_of_ble_eq_true rfl⟩ ?_
  refine q_nrm 6 [.int (F_X9_isTeam t σ), .ref 229] 0 0 rfl rfl rfl rfl ?_
  by_cases c1 : (F_X9_isTeam t σ) = 0
  · rw [if_pos c1] at hF
    refine q_go C tk_X9_isNoResult [(4, 3), (8, 1)] [false] (pc1 := 15) (σ1 := σ) (lv1 := [(0, .ref 229), (1, .int t)]) (st1 := [.int 1, .int 1, .ref 229]) rfl ⟨c1, trivial⟩ ?_
    refine q_callV C hfl mw_X9_isThrown mi_X9_isThrown me_X9_isThrown lk_X9_63 (k_X9_isThrownN 1 1 σ (by decide) (by decide)) (rest := []) rfl rfl rfl (by decide) (by decide) rfl (q_dc (z := (15, .invokevirtual 63, 3, 0, 0)) tk_X9_isNoResult 9 rfl) (Nat.le_of_ble_eq_true rfl) ⟨Nat.le_of_ble_eq_true rfl, Nat.le_of_ble_eq_true rfl⟩ ⟨Nat.le_of_ble_eq_true rfl, Nat.le_of_ble_eq_true rfl⟩ ?_
    refine q_nrm 18 [.int 1] 0 0 rfl rfl rfl rfl ?_
    refine q_go C tk_X9_isNoResult [(10, 1), (24, 2)] [true] (pc1 := 50) (σ1 := (q_up σ 229 5 1)) (lv1 := [(0, .ref 229), (1, .int t)]) (st1 := [.int 1]) rfl ⟨(by decide : ¬ (1 : Int32) = 0), trivial⟩ ?_
    exact q_zret C hr (q_dc (z := (50, .ireturn, 1, 0, 0)) tk_X9_isNoResult 27 rfl) (by decide +kernel) (congrArg Prod.snd hF) (congrArg (fun z => q_oi z.1) hF.symm) (Nat.le_of_ble_eq_true rfl) (Nat.le_of_ble_eq_true rfl)
  · rw [if_neg c1] at hF
    refine q_go C tk_X9_isNoResult [(4, 1), (7, 2)] [true] (pc1 := 15) (σ1 := σ) (lv1 := [(0, .ref 229), (1, .int t)]) (st1 := [.int 1, .int 0, .ref 229]) rfl ⟨c1, trivial⟩ ?_
    refine q_callV C hfl mw_X9_isThrown mi_X9_isThrown me_X9_isThrown lk_X9_63 (k_X9_isThrownZ 0 1 σ (by decide)) (rest := []) rfl rfl rfl (by decide) (by decide) rfl (q_dc (z := (15, .invokevirtual 63, 3, 0, 0)) tk_X9_isNoResult 9 rfl) (Nat.le_of_ble_eq_true rfl) ⟨Nat.le_of_ble_eq_true rfl, Nat.le_of_ble_eq_true rfl⟩ ⟨Nat.le_of_ble_eq_true rfl, Nat.le_of_ble_eq_true rfl⟩ ?_
    refine q_nrm 18 [.int 0] 0 0 rfl rfl rfl rfl ?_
    refine q_go C tk_X9_isNoResult [(10, 5)] [false] (pc1 := 26) (σ1 := (q_up σ 229 5 0)) (lv1 := [(0, .ref 229), (1, .int t)]) (st1 := [.int 6, .int t, .ref 229, .ref 229]) rfl ⟨(by decide : (0 : Int32) = 0), trivial⟩ ?_
    generalize e3 : (q_up σ 229 5 0) = σ2
    replace hF := q_let e3 hF
    refine q_callV C hfl mw_X9_of mi_X9_of me_X9_of lk_X9_52 (k_X9_of t 6 σ2 ((hP.2 c1) σ2 e3).1) (rest := [.ref 229]) rfl rfl rfl (by decide) (by decide) rfl (q_dc (z := (26, .invokevirtual 52, 3, 0, 0)) tk_X9_isNoResult 15 rfl) (Nat.le_of_ble_eq_true rfl) ⟨Nat.le_of_ble_eq_true rfl, Nat.le_of_ble_eq_true rfl⟩ ⟨Nat.le_of_ble_eq_true rfl, Nat.le_of_ble_eq_true rfl⟩ ?_
    refine q_nrm 29 [.int (F_X9_of t 6 σ2), .ref 229] 0 0 rfl rfl rfl rfl ?_
    refine q_go C tk_X9_isNoResult [(16, 1)] [] (pc1 := 30) (σ1 := σ2) (lv1 := [(0, .ref 229), (1, .int t)]) (st1 := [.int 2, .int (F_X9_of t 6 σ2), .ref 229]) rfl trivial ?_
    by_cases c4 : (F_X9_of t 6 σ2) = 2
    · rw [if_pos c4] at hF
      refine q_go C tk_X9_isNoResult [(17, 1), (20, 2)] [true] (pc1 := 39) (σ1 := σ2) (lv1 := [(0, .ref 229), (1, .int t)]) (st1 := [.int 2, .int 0, .ref 229]) rfl ⟨c4, trivial⟩ ?_
      refine q_callV C hfl mw_X9_isThrown mi_X9_isThrown me_X9_isThrown lk_X9_63 (k_X9_isThrownZ 0 2 σ2 (by decide)) (rest := []) rfl rfl rfl (by decide) (by decide) rfl (q_dc (z := (39, .invokevirtual 63, 3, 0, 0)) tk_X9_isNoResult 22 rfl) (Nat.le_of_ble_eq_true rfl) ⟨Nat.le_of_ble_eq_true rfl, Nat.le_of_ble_eq_true rfl⟩ ⟨Nat.le_of_ble_eq_true rfl, Nat.le_of_ble_eq_true rfl⟩ ?_
      refine q_nrm 42 [.int 0] 0 0 rfl rfl rfl rfl ?_
      refine q_go C tk_X9_isNoResult [(23, 1), (26, 1)] [true] (pc1 := 50) (σ1 := (q_up σ2 229 5 0)) (lv1 := [(0, .ref 229), (1, .int t)]) (st1 := [.int 0]) rfl ⟨(by decide : (0 : Int32) = 0), trivial⟩ ?_
      exact q_zret C hr (q_dc (z := (50, .ireturn, 1, 0, 0)) tk_X9_isNoResult 27 rfl) (by decide +kernel) (congrArg Prod.snd hF) (congrArg (fun z => q_oi z.1) hF.symm) (Nat.le_of_ble_eq_true rfl) (Nat.le_of_ble_eq_true rfl)
    · rw [if_neg c4] at hF
      refine q_go C tk_X9_isNoResult [(17, 3), (21, 1)] [false] (pc1 := 39) (σ1 := σ2) (lv1 := [(0, .ref 229), (1, .int t)]) (st1 := [.int 2, .int 1, .ref 229]) rfl ⟨c4, trivial⟩ ?_
      refine q_callV C hfl mw_X9_isThrown mi_X9_isThrown me_X9_isThrown lk_X9_63 (k_X9_isThrownN 1 2 σ2 (by decide) (by decide)) (rest := []) rfl rfl rfl (by decide) (by decide) rfl (q_dc (z := (39, .invokevirtual 63, 3, 0, 0)) tk_X9_isNoResult 22 rfl) (Nat.le_of_ble_eq_true rfl) ⟨Nat.le_of_ble_eq_true rfl, Nat.le_of_ble_eq_true rfl⟩ ⟨Nat.le_of_ble_eq_true rfl, Nat.le_of_ble_eq_true rfl⟩ ?_
      refine q_nrm 42 [.int 1] 0 0 rfl rfl rfl rfl ?_
      refine q_go C tk_X9_isNoResult [(23, 3)] [false] (pc1 := 50) (σ1 := (q_up σ2 229 5 2)) (lv1 := [(0, .ref 229), (1, .int t)]) (st1 := [.int 1]) rfl ⟨(by decide : ¬ (1 : Int32) = 0), trivial⟩ ?_
      exact q_zret C hr (q_dc (z := (50, .ireturn, 1, 0, 0)) tk_X9_isNoResult 27 rfl) (by decide +kernel) (congrArg Prod.snd hF) (congrArg (fun z => q_oi z.1) hF.symm) (Nat.le_of_ble_eq_true rfl) (Nat.le_of_ble_eq_true rfl)
def F_X9_result (t : Int32) (σ : q_M) : Int32 := ((F_X9_of t 18 σ) + (F_X9_of t 5 σ))
def P_X9_result (t : Int32) (σ : q_M) : Prop := ((P_X9_of t 18 σ) ∧ ((P_X9_of t 5 σ) ∧ True))
set_option maxRecDepth 100000 in
theorem k_X9_result {α β : Nat → Nat} {D : va_G} {κ : Nat → ClassId} (t : Int32) (σ : q_M) (hP : P_X9_result t σ) : q_C α β D κ yX9_result cX9_result 2 (Option.some Jvm.ClassFile.FieldType.int) 1 22 0 0 [.ref 229, .int t] σ (q_oi (F_X9_result t σ)) σ := by
  refine q_enter (own := RX9) (F := F_X9) (G := G_X9) (by decide +kernel) rfl Fok_X9 Gok_X9 (Nat.le_of_ble_eq_true rfl) (fun p l e s m args below meth c A hfl C hr hT => ?_)
  generalize hF : F_X9_result t σ = r
  unfold F_X9_result at hF
  refine q_go C tk_X9_result [(0, 3)] [] (pc1 := 4) (σ1 := σ) (lv1 := [(0, .ref 229), (1, .int t)]) (st1 := [.int 18, .int t, .ref 229]) rfl trivial ?_
  refine q_callV C hfl mw_X9_of mi_X9_of me_X9_of lk_X9_52 (k_X9_of t 18 σ hP.1) (rest := []) rfl rfl rfl (by decide) (by decide) rfl (q_dc (z := (4, .invokevirtual 52, 3, 0, 0)) tk_X9_result 3 rfl) (Nat.le_of_ble_eq_true rfl) ⟨Nat.le_of_ble_eq_true rfl, Nat.le_of_ble_eq_true rfl⟩ ⟨Nat.le_of_ble_eq_true rfl, Nat.le_of_ble_eq_true rfl⟩ ?_
  refine q_nrm 7 [.int (F_X9_of t 18 σ)] 0 0 rfl rfl rfl rfl ?_
  refine q_go C tk_X9_result [(4, 3)] [] (pc1 := 10) (σ1 := σ) (lv1 := [(0, .ref 229), (1, .int t)]) (st1 := [.int 5, .int t, .ref 229, .int (F_X9_of t 18 σ)]) rfl trivial ?_
  refine q_callV C hfl mw_X9_of mi_X9_of me_X9_of lk_X9_52 (k_X9_of t 5 σ hP.2.1) (rest := [.int (F_X9_of t 18 σ)]) rfl rfl rfl (by decide) (by decide) rfl (q_dc (z := (10, .invokevirtual 52, 3, 0, 0)) tk_X9_result 7 rfl) (Nat.le_of_ble_eq_true rfl) ⟨Nat.le_of_ble_eq_true rfl, Nat.le_of_ble_eq_true rfl⟩ ⟨Nat.le_of_ble_eq_true rfl, Nat.le_of_ble_eq_true rfl⟩ ?_
  refine q_nrm 13 [.int (F_X9_of t 5 σ), .int (F_X9_of t 18 σ)] 0 0 rfl rfl rfl rfl ?_
  refine q_go C tk_X9_result [(8, 1)] [] (pc1 := 14) (σ1 := σ) (lv1 := [(0, .ref 229), (1, .int t)]) (st1 := [.int ((F_X9_of t 18 σ) + (F_X9_of t 5 σ))]) rfl trivial ?_
  exact q_iret C hr (q_dc (z := (14, .ireturn, 1, 0, 0)) tk_X9_result 9 rfl) rfl (congrArg q_oi hF.symm) (Nat.le_of_ble_eq_true rfl) (Nat.le_of_ble_eq_true rfl)
def F_X9_timeOf (t : Int32) (σ : q_M) : (Int32) × q_M := (q_L (F_X9_isNoResult t σ).2 (fun σ1 : q_M => (if (F_X9_isNoResult t σ).1 = 0 then ((F_X9_of t 18 σ1), σ1) else (0, σ1))))
def P_X9_timeOf (t : Int32) (σ : q_M) : Prop := ((P_X9_isNoResult t σ) ∧ (∀ σ1 : q_M, (F_X9_isNoResult t σ).2 = σ1 → (((F_X9_isNoResult t σ).1 = 0 → ((P_X9_of t 18 σ1) ∧ True)) ∧ (¬ (F_X9_isNoResult t σ).1 = 0 → True))))
set_option maxRecDepth 100000 in
theorem k_X9_timeOf {α β : Nat → Nat} {D : va_G} {κ : Nat → ClassId} (t : Int32) (σ : q_M) (hP : P_X9_timeOf t σ) : q_C α β D κ yX9_timeOf cX9_timeOf 2 (Option.some Jvm.ClassFile.FieldType.int) 3 64 0 0 [.ref 229, .int t] σ (q_oi (F_X9_timeOf t σ).1) (F_X9_timeOf t σ).2 := by
  refine q_enter (own := RX9) (F := F_X9) (G := G_X9) (by decide +kernel) rfl Fok_X9 Gok_X9 (Nat.le_of_ble_eq_true rfl) (fun p l e s m args below meth c A hfl C hr hT => ?_)
  generalize hF : F_X9_timeOf t σ = r
  unfold F_X9_timeOf at hF
  refine q_go C tk_X9_timeOf [(0, 2)] [] (pc1 := 2) (σ1 := σ) (lv1 := [(0, .ref 229), (1, .int t)]) (st1 := [.int t, .ref 229]) rfl trivial ?_
  refine q_callV C hfl mw_X9_isNoResult mi_X9_isNoResult me_X9_isNoResult lk_X9_148 (k_X9_isNoResult t σ hP.1) (rest := []) rfl rfl rfl (by decide) (by decide) rfl (q_dc (z := (2, .invokevirtual 148, 3, 0, 0)) tk_X9_timeOf 2 rfl) (Nat.le_of_ble_eq_true rfl) ⟨Nat.le_of_ble_eq_true rfl, Nat.le_of_ble_eq_true rfl⟩ ⟨Nat.le_of_ble_eq_true rfl, Nat.le_of_ble_eq_true rfl⟩ ?_
  refine q_nrm 5 [.int (F_X9_isNoResult t σ).1] 0 0 rfl rfl rfl rfl ?_
  generalize e2 : (F_X9_isNoResult t σ).2 = σ1
  replace hF := q_let e2 hF
  by_cases c3 : (F_X9_isNoResult t σ).1 = 0
  · rw [if_pos c3] at hF
    refine q_go C tk_X9_timeOf [(3, 1), (6, 3)] [true] (pc1 := 16) (σ1 := σ1) (lv1 := [(0, .ref 229), (1, .int t)]) (st1 := [.int 18, .int t, .ref 229]) rfl ⟨c3, trivial⟩ ?_
    refine q_callV C hfl mw_X9_of mi_X9_of me_X9_of lk_X9_52 (k_X9_of t 18 σ1 ((hP.2 σ1 e2).1 c3).1) (rest := []) rfl rfl rfl (by decide) (by decide) rfl (q_dc (z := (16, .invokevirtual 52, 3, 0, 0)) tk_X9_timeOf 9 rfl) (Nat.le_of_ble_eq_true rfl) ⟨Nat.le_of_ble_eq_true rfl, Nat.le_of_ble_eq_true rfl⟩ ⟨Nat.le_of_ble_eq_true rfl, Nat.le_of_ble_eq_true rfl⟩ ?_
    refine q_nrm 19 [.int (F_X9_of t 18 σ1)] 0 0 rfl rfl rfl rfl ?_
    exact q_iret C hr (q_dc (z := (19, .ireturn, 1, 0, 0)) tk_X9_timeOf 10 rfl) (congrArg Prod.snd hF) (congrArg (fun z => q_oi z.1) hF.symm) (Nat.le_of_ble_eq_true rfl) (Nat.le_of_ble_eq_true rfl)
  · rw [if_neg c3] at hF
    refine q_go C tk_X9_timeOf [(3, 3)] [false] (pc1 := 19) (σ1 := σ1) (lv1 := [(0, .ref 229), (1, .int t)]) (st1 := [.int 0]) rfl ⟨c3, trivial⟩ ?_
    exact q_iret C hr (q_dc (z := (19, .ireturn, 1, 0, 0)) tk_X9_timeOf 10 rfl) (congrArg Prod.snd hF) (congrArg (fun z => q_oi z.1) hF.symm) (Nat.le_of_ble_eq_true rfl) (Nat.le_of_ble_eq_true rfl)
def F_X9_resultOf (t : Int32) (σ : q_M) : (Int32) × q_M := (q_L (F_X9_isNoResult t σ).2 (fun σ1 : q_M => (if (F_X9_isNoResult t σ).1 = 0 then ((F_X9_result t σ1), σ1) else (0, σ1))))
def P_X9_resultOf (t : Int32) (σ : q_M) : Prop := ((P_X9_isNoResult t σ) ∧ (∀ σ1 : q_M, (F_X9_isNoResult t σ).2 = σ1 → (((F_X9_isNoResult t σ).1 = 0 → ((P_X9_result t σ1) ∧ True)) ∧ (¬ (F_X9_isNoResult t σ).1 = 0 → True))))
set_option maxRecDepth 100000 in
theorem k_X9_resultOf {α β : Nat → Nat} {D : va_G} {κ : Nat → ClassId} (t : Int32) (σ : q_M) (hP : P_X9_resultOf t σ) : q_C α β D κ yX9_resultOf cX9_resultOf 2 (Option.some Jvm.ClassFile.FieldType.int) 3 64 0 0 [.ref 229, .int t] σ (q_oi (F_X9_resultOf t σ).1) (F_X9_resultOf t σ).2 := by
  refine q_enter (own := RX9) (F := F_X9) (G := G_X9) (by decide +kernel) rfl Fok_X9 Gok_X9 (Nat.le_of_ble_eq_true rfl) (fun p l e s m args below meth c A hfl C hr hT => ?_)
  generalize hF : F_X9_resultOf t σ = r
  unfold F_X9_resultOf at hF
  refine q_go C tk_X9_resultOf [(0, 2)] [] (pc1 := 2) (σ1 := σ) (lv1 := [(0, .ref 229), (1, .int t)]) (st1 := [.int t, .ref 229]) rfl trivial ?_
  refine q_callV C hfl mw_X9_isNoResult mi_X9_isNoResult me_X9_isNoResult lk_X9_148 (k_X9_isNoResult t σ hP.1) (rest := []) rfl rfl rfl (by decide) (by decide) rfl (q_dc (z := (2, .invokevirtual 148, 3, 0, 0)) tk_X9_resultOf 2 rfl) (Nat.le_of_ble_eq_true rfl) ⟨Nat.le_of_ble_eq_true rfl, Nat.le_of_ble_eq_true rfl⟩ ⟨Nat.le_of_ble_eq_true rfl, Nat.le_of_ble_eq_true rfl⟩ ?_
  refine q_nrm 5 [.int (F_X9_isNoResult t σ).1] 0 0 rfl rfl rfl rfl ?_
  generalize e2 : (F_X9_isNoResult t σ).2 = σ1
  replace hF := q_let e2 hF
  by_cases c3 : (F_X9_isNoResult t σ).1 = 0
  · rw [if_pos c3] at hF
    refine q_go C tk_X9_resultOf [(3, 1), (6, 2)] [true] (pc1 := 14) (σ1 := σ1) (lv1 := [(0, .ref 229), (1, .int t)]) (st1 := [.int t, .ref 229]) rfl ⟨c3, trivial⟩ ?_
    refine q_callV C hfl mw_X9_result mi_X9_result me_X9_result lk_X9_151 (k_X9_result t σ1 ((hP.2 σ1 e2).1 c3).1) (rest := []) rfl rfl rfl (by decide) (by decide) rfl (q_dc (z := (14, .invokevirtual 151, 3, 0, 0)) tk_X9_resultOf 8 rfl) (Nat.le_of_ble_eq_true rfl) ⟨Nat.le_of_ble_eq_true rfl, Nat.le_of_ble_eq_true rfl⟩ ⟨Nat.le_of_ble_eq_true rfl, Nat.le_of_ble_eq_true rfl⟩ ?_
    refine q_nrm 17 [.int (F_X9_result t σ1)] 0 0 rfl rfl rfl rfl ?_
    exact q_iret C hr (q_dc (z := (17, .ireturn, 1, 0, 0)) tk_X9_resultOf 9 rfl) (congrArg Prod.snd hF) (congrArg (fun z => q_oi z.1) hF.symm) (Nat.le_of_ble_eq_true rfl) (Nat.le_of_ble_eq_true rfl)
  · rw [if_neg c3] at hF
    refine q_go C tk_X9_resultOf [(3, 3)] [false] (pc1 := 17) (σ1 := σ1) (lv1 := [(0, .ref 229), (1, .int t)]) (st1 := [.int 0]) rfl ⟨c3, trivial⟩ ?_
    exact q_iret C hr (q_dc (z := (17, .ireturn, 1, 0, 0)) tk_X9_resultOf 9 rfl) (congrArg Prod.snd hF) (congrArg (fun z => q_oi z.1) hF.symm) (Nat.le_of_ble_eq_true rfl) (Nat.le_of_ble_eq_true rfl)
def F_X9_group (t : Int32) (σ : q_M) : Int32 := (q_L (F_X9_of t 6 σ) (fun x1 : Int32 => (if x1 = 2 then 0 else (if x1 = 3 then 2 else 1))))
def P_X9_group (t : Int32) (σ : q_M) : Prop := ((P_X9_of t 6 σ) ∧ True)
set_option maxRecDepth 100000 in
theorem k_X9_group {α β : Nat → Nat} {D : va_G} {κ : Nat → ClassId} (t : Int32) (σ : q_M) (hP : P_X9_group t σ) : q_C α β D κ yX9_group cX9_group 3 (Option.some Jvm.ClassFile.FieldType.int) 1 22 0 0 [.ref 229, .int t] σ (q_oi (F_X9_group t σ)) σ := by
  refine q_enter (own := RX9) (F := F_X9) (G := G_X9) (by decide +kernel) rfl Fok_X9 Gok_X9 (Nat.le_of_ble_eq_true rfl) (fun p l e s m args below meth c A hfl C hr hT => ?_)
  generalize hF : F_X9_group t σ = r
  unfold F_X9_group at hF
  refine q_go C tk_X9_group [(0, 3)] [] (pc1 := 4) (σ1 := σ) (lv1 := [(0, .ref 229), (1, .int t)]) (st1 := [.int 6, .int t, .ref 229]) rfl trivial ?_
  refine q_callV C hfl mw_X9_of mi_X9_of me_X9_of lk_X9_52 (k_X9_of t 6 σ hP.1) (rest := []) rfl rfl rfl (by decide) (by decide) rfl (q_dc (z := (4, .invokevirtual 52, 3, 0, 0)) tk_X9_group 3 rfl) (Nat.le_of_ble_eq_true rfl) ⟨Nat.le_of_ble_eq_true rfl, Nat.le_of_ble_eq_true rfl⟩ ⟨Nat.le_of_ble_eq_true rfl, Nat.le_of_ble_eq_true rfl⟩ ?_
  refine q_nrm 7 [.int (F_X9_of t 6 σ)] 0 0 rfl rfl rfl rfl ?_
  generalize e2 : (F_X9_of t 6 σ) = x1
  replace hF := q_let e2 hF
  refine q_go C tk_X9_group [(4, 3)] [] (pc1 := 10) (σ1 := σ) (lv1 := [(2, .int x1), (0, .ref 229), (1, .int t)]) (st1 := [.int 2, .int x1]) rfl trivial ?_
  by_cases c3 : x1 = 2
  · rw [if_pos c3] at hF
    refine q_go C tk_X9_group [(7, 3)] [false] (pc1 := 27) (σ1 := σ) (lv1 := [(2, .int x1), (0, .ref 229), (1, .int t)]) (st1 := [.int 0]) rfl ⟨c3, trivial⟩ ?_
    exact q_iret C hr (q_dc (z := (27, .ireturn, 1, 0, 0)) tk_X9_group 16 rfl) rfl (congrArg q_oi hF.symm) (Nat.le_of_ble_eq_true rfl) (Nat.le_of_ble_eq_true rfl)
  · rw [if_neg c3] at hF
    refine q_go C tk_X9_group [(7, 1), (10, 2)] [true] (pc1 := 19) (σ1 := σ) (lv1 := [(2, .int x1), (0, .ref 229), (1, .int t)]) (st1 := [.int 3, .int x1]) rfl ⟨c3, trivial⟩ ?_
    by_cases c4 : x1 = 3
    · rw [if_pos c4] at hF
      refine q_go C tk_X9_group [(12, 3)] [false] (pc1 := 27) (σ1 := σ) (lv1 := [(2, .int x1), (0, .ref 229), (1, .int t)]) (st1 := [.int 2]) rfl ⟨c4, trivial⟩ ?_
      exact q_iret C hr (q_dc (z := (27, .ireturn, 1, 0, 0)) tk_X9_group 16 rfl) rfl (congrArg q_oi hF.symm) (Nat.le_of_ble_eq_true rfl) (Nat.le_of_ble_eq_true rfl)
    · rw [if_neg c4] at hF
      refine q_go C tk_X9_group [(12, 1), (15, 1)] [true] (pc1 := 27) (σ1 := σ) (lv1 := [(2, .int x1), (0, .ref 229), (1, .int t)]) (st1 := [.int 1]) rfl ⟨c4, trivial⟩ ?_
      exact q_iret C hr (q_dc (z := (27, .ireturn, 1, 0, 0)) tk_X9_group 16 rfl) rfl (congrArg q_oi hF.symm) (Nat.le_of_ble_eq_true rfl) (Nat.le_of_ble_eq_true rfl)
def F_X9_isAhead (a : Int32) (b : Int32) (σ : q_M) : Int32 := (if (F_X9_group a σ) = (F_X9_group b σ) then (q_L (if (F_X9_group a σ) = 0 then ((F_X9_result b σ) - (F_X9_result a σ)) else ((F_X9_of a 7 σ) - (F_X9_of b 7 σ))) (fun x3 : Int32 => (if x3 = 0 then (if (F_X9_of a 4 σ) < (F_X9_of b 4 σ) then 1 else 0) else (if 0 < x3 then 1 else 0)))) else (if (F_X9_group a σ) < (F_X9_group b σ) then 1 else 0))
def P_X9_isAhead (a : Int32) (b : Int32) (σ : q_M) : Prop := ((P_X9_group a σ) ∧ ((P_X9_group b σ) ∧ (((F_X9_group a σ) = (F_X9_group b σ) → ((P_X9_group a σ) ∧ ((((F_X9_group a σ) = 0 → ((P_X9_result b σ) ∧ ((P_X9_result a σ) ∧ True))) ∧ (¬ (F_X9_group a σ) = 0 → ((P_X9_of a 7 σ) ∧ ((P_X9_of b 7 σ) ∧ True)))) ∧ (∀ x3 : Int32, (if (F_X9_group a σ) = 0 then ((F_X9_result b σ) - (F_X9_result a σ)) else ((F_X9_of a 7 σ) - (F_X9_of b 7 σ))) = x3 → ((x3 = 0 → ((P_X9_of a 4 σ) ∧ ((P_X9_of b 4 σ) ∧ True))) ∧ (¬ x3 = 0 → True)))))) ∧ (¬ (F_X9_group a σ) = (F_X9_group b σ) → ((P_X9_group a σ) ∧ ((P_X9_group b σ) ∧ True))))))
set_option maxRecDepth 100000 in
theorem k_X9_isAhead {α β : Nat → Nat} {D : va_G} {κ : Nat → ClassId} (a : Int32) (b : Int32) (σ : q_M) (hP : P_X9_isAhead a b σ) : q_C α β D κ yX9_isAhead cX9_isAhead 4 (Option.some Jvm.ClassFile.FieldType.boolean) 2 44 0 0 [.ref 229, .int a, .int b] σ (q_oi (F_X9_isAhead a b σ)) σ := by
  refine q_enter (own := RX9) (F := F_X9) (G := G_X9) (by decide +kernel) rfl Fok_X9 Gok_X9 (Nat.le_of_ble_eq_true rfl) (fun p l e s m args below meth c A hfl C hr hT => ?_)
  generalize hF : F_X9_isAhead a b σ = r
  unfold F_X9_isAhead at hF
  refine q_go C tk_X9_isAhead [(0, 2)] [] (pc1 := 2) (σ1 := σ) (lv1 := [(0, .ref 229), (1, .int a), (2, .int b)]) (st1 := [.int a, .ref 229]) rfl trivial ?_
  refine q_callV C hfl mw_X9_group mi_X9_group me_X9_group lk_X9_154 (k_X9_group a σ hP.1) (rest := []) rfl rfl rfl (by decide) (by decide) rfl (q_dc (z := (2, .invokevirtual 154, 3, 0, 0)) tk_X9_isAhead 2 rfl) (Nat.le_of_ble_eq_true rfl) ⟨Nat.le_of_ble_eq_true rfl, Nat.le_of_ble_eq_true rfl⟩ ⟨Nat.le_of_ble_eq_true rfl, Nat.le_of_ble_eq_true rfl⟩ ?_
  refine q_nrm 5 [.int (F_X9_group a σ)] 0 0 rfl rfl rfl rfl ?_
  refine q_go C tk_X9_isAhead [(3, 2)] [] (pc1 := 7) (σ1 := σ) (lv1 := [(0, .ref 229), (1, .int a), (2, .int b)]) (st1 := [.int b, .ref 229, .int (F_X9_group a σ)]) rfl trivial ?_
  refine q_callV C hfl mw_X9_group mi_X9_group me_X9_group lk_X9_154 (k_X9_group b σ hP.2.1) (rest := [.int (F_X9_group a σ)]) rfl rfl rfl (by decide) (by decide) rfl (q_dc (z := (7, .invokevirtual 154, 3, 0, 0)) tk_X9_isAhead 5 rfl) (Nat.le_of_ble_eq_true rfl) ⟨Nat.le_of_ble_eq_true rfl, Nat.le_of_ble_eq_true rfl⟩ ⟨Nat.le_of_ble_eq_true rfl, Nat.le_of_ble_eq_true rfl⟩ ?_
  refine q_nrm 10 [.int (F_X9_group b σ), .int (F_X9_group a σ)] 0 0 rfl rfl rfl rfl ?_
  by_cases c1 : (F_X9_group a σ) = (F_X9_group b σ)
  · rw [if_pos c1] at hF
    refine q_go C tk_X9_isAhead [(6, 1), (18, 2)] [true] (pc1 := 34) (σ1 := σ) (lv1 := [(0, .ref 229), (1, .int a), (2, .int b)]) (st1 := [.int a, .ref 229]) rfl ⟨c1, trivial⟩ ?_
    refine q_callV C hfl mw_X9_group mi_X9_group me_X9_group lk_X9_154 (k_X9_group a σ (hP.2.2.1 c1).1) (rest := []) rfl rfl rfl (by decide) (by decide) rfl (q_dc (z := (34, .invokevirtual 154, 3, 0, 0)) tk_X9_isAhead 20 rfl) (Nat.le_of_ble_eq_true rfl) ⟨Nat.le_of_ble_eq_true rfl, Nat.le_of_ble_eq_true rfl⟩ ⟨Nat.le_of_ble_eq_true rfl, Nat.le_of_ble_eq_true rfl⟩ ?_
    refine q_nrm 37 [.int (F_X9_group a σ)] 0 0 rfl rfl rfl rfl ?_
    refine q_mrg (v := (if (F_X9_group a σ) = 0 then ((F_X9_result b σ) - (F_X9_result a σ)) else ((F_X9_of a 7 σ) - (F_X9_of b 7 σ)))) (M := 69) (σ1 := σ) (lv1 := [(0, .ref 229), (1, .int a), (2, .int b)]) (st1 := []) (fun x3 e4 => ?_) (fun K => ?_)
    · replace hF := q_let e4 hF
      refine q_go C tk_X9_isAhead [(39, 2)] [] (pc1 := 71) (σ1 := σ) (lv1 := [(3, .int x3), (0, .ref 229), (1, .int a), (2, .int b)]) (st1 := [.int x3]) rfl trivial ?_
      by_cases c5 : x3 = 0
      · rw [if_pos c5] at hF
        refine q_go C tk_X9_isAhead [(41, 1), (48, 3)] [true] (pc1 := 89) (σ1 := σ) (lv1 := [(3, .int x3), (0, .ref 229), (1, .int a), (2, .int b)]) (st1 := [.int 4, .int a, .ref 229]) rfl ⟨c5, trivial⟩ ?_
        refine q_callV C hfl mw_X9_of mi_X9_of me_X9_of lk_X9_52 (k_X9_of a 4 σ (((hP.2.2.1 c1).2.2 x3 e4).1 c5).1) (rest := []) rfl rfl rfl (by decide) (by decide) rfl (q_dc (z := (89, .invokevirtual 52, 3, 0, 0)) tk_X9_isAhead 51 rfl) (Nat.le_of_ble_eq_true rfl) ⟨Nat.le_of_ble_eq_true rfl, Nat.le_of_ble_eq_true rfl⟩ ⟨Nat.le_of_ble_eq_true rfl, Nat.le_of_ble_eq_true rfl⟩ ?_
        refine q_nrm 92 [.int (F_X9_of a 4 σ)] 0 0 rfl rfl rfl rfl ?_
        refine q_go C tk_X9_isAhead [(52, 3)] [] (pc1 := 95) (σ1 := σ) (lv1 := [(3, .int x3), (0, .ref 229), (1, .int a), (2, .int b)]) (st1 := [.int 4, .int b, .ref 229, .int (F_X9_of a 4 σ)]) rfl trivial ?_
        refine q_callV C hfl mw_X9_of mi_X9_of me_X9_of lk_X9_52 (k_X9_of b 4 σ (((hP.2.2.1 c1).2.2 x3 e4).1 c5).2.1) (rest := [.int (F_X9_of a 4 σ)]) rfl rfl rfl (by decide) (by decide) rfl (q_dc (z := (95, .invokevirtual 52, 3, 0, 0)) tk_X9_isAhead 55 rfl) (Nat.le_of_ble_eq_true rfl) ⟨Nat.le_of_ble_eq_true rfl, Nat.le_of_ble_eq_true rfl⟩ ⟨Nat.le_of_ble_eq_true rfl, Nat.le_of_ble_eq_true rfl⟩ ?_
        refine q_nrm 98 [.int (F_X9_of b 4 σ), .int (F_X9_of a 4 σ)] 0 0 rfl rfl rfl rfl ?_
        by_cases c6 : (F_X9_of a 4 σ) < (F_X9_of b 4 σ)
        · rw [if_pos c6] at hF
          refine q_go C tk_X9_isAhead [(56, 3)] [false] (pc1 := 106) (σ1 := σ) (lv1 := [(3, .int x3), (0, .ref 229), (1, .int a), (2, .int b)]) (st1 := [.int 1]) rfl ⟨c6, trivial⟩ ?_
          exact q_zret C hr (q_dc (z := (106, .ireturn, 1, 0, 0)) tk_X9_isAhead 60 rfl) (by decide +kernel) rfl (congrArg q_oi hF.symm) (Nat.le_of_ble_eq_true rfl) (Nat.le_of_ble_eq_true rfl)
        · rw [if_neg c6] at hF
          refine q_go C tk_X9_isAhead [(56, 1), (59, 1)] [true] (pc1 := 106) (σ1 := σ) (lv1 := [(3, .int x3), (0, .ref 229), (1, .int a), (2, .int b)]) (st1 := [.int 0]) rfl ⟨c6, trivial⟩ ?_
          exact q_zret C hr (q_dc (z := (106, .ireturn, 1, 0, 0)) tk_X9_isAhead 60 rfl) (by decide +kernel) rfl (congrArg q_oi hF.symm) (Nat.le_of_ble_eq_true rfl) (Nat.le_of_ble_eq_true rfl)
      · rw [if_neg c5] at hF
        refine q_go C tk_X9_isAhead [(41, 2)] [false] (pc1 := 75) (σ1 := σ) (lv1 := [(3, .int x3), (0, .ref 229), (1, .int a), (2, .int b)]) (st1 := [.int x3]) rfl ⟨c5, trivial⟩ ?_
        by_cases c7 : 0 < x3
        · rw [if_pos c7] at hF
          refine q_go C tk_X9_isAhead [(43, 3)] [false] (pc1 := 106) (σ1 := σ) (lv1 := [(3, .int x3), (0, .ref 229), (1, .int a), (2, .int b)]) (st1 := [.int 1]) rfl ⟨c7, trivial⟩ ?_
          exact q_zret C hr (q_dc (z := (106, .ireturn, 1, 0, 0)) tk_X9_isAhead 60 rfl) (by decide +kernel) rfl (congrArg q_oi hF.symm) (Nat.le_of_ble_eq_true rfl) (Nat.le_of_ble_eq_true rfl)
        · rw [if_neg c7] at hF
          refine q_go C tk_X9_isAhead [(43, 1), (46, 2)] [true] (pc1 := 106) (σ1 := σ) (lv1 := [(3, .int x3), (0, .ref 229), (1, .int a), (2, .int b)]) (st1 := [.int 0]) rfl ⟨c7, trivial⟩ ?_
          exact q_zret C hr (q_dc (z := (106, .ireturn, 1, 0, 0)) tk_X9_isAhead 60 rfl) (by decide +kernel) rfl (congrArg q_oi hF.symm) (Nat.le_of_ble_eq_true rfl) (Nat.le_of_ble_eq_true rfl)
    · clear hF
      by_cases c2 : (F_X9_group a σ) = 0
      · skip
        refine q_go C tk_X9_isAhead [(21, 3)] [false] (pc1 := 42) (σ1 := σ) (lv1 := [(0, .ref 229), (1, .int a), (2, .int b)]) (st1 := [.int b, .ref 229]) rfl ⟨c2, trivial⟩ ?_
        refine q_callV C hfl mw_X9_result mi_X9_result me_X9_result lk_X9_151 (k_X9_result b σ ((hP.2.2.1 c1).2.1.1 c2).1) (rest := []) rfl rfl rfl (by decide) (by decide) rfl (q_dc (z := (42, .invokevirtual 151, 3, 0, 0)) tk_X9_isAhead 24 rfl) (Nat.le_of_ble_eq_true rfl) ⟨Nat.le_of_ble_eq_true rfl, Nat.le_of_ble_eq_true rfl⟩ ⟨Nat.le_of_ble_eq_true rfl, Nat.le_of_ble_eq_true rfl⟩ ?_
        refine q_nrm 45 [.int (F_X9_result b σ)] 0 0 rfl rfl rfl rfl ?_
        refine q_go C tk_X9_isAhead [(25, 2)] [] (pc1 := 47) (σ1 := σ) (lv1 := [(0, .ref 229), (1, .int a), (2, .int b)]) (st1 := [.int a, .ref 229, .int (F_X9_result b σ)]) rfl trivial ?_
        refine q_callV C hfl mw_X9_result mi_X9_result me_X9_result lk_X9_151 (k_X9_result a σ ((hP.2.2.1 c1).2.1.1 c2).2.1) (rest := [.int (F_X9_result b σ)]) rfl rfl rfl (by decide) (by decide) rfl (q_dc (z := (47, .invokevirtual 151, 3, 0, 0)) tk_X9_isAhead 27 rfl) (Nat.le_of_ble_eq_true rfl) ⟨Nat.le_of_ble_eq_true rfl, Nat.le_of_ble_eq_true rfl⟩ ⟨Nat.le_of_ble_eq_true rfl, Nat.le_of_ble_eq_true rfl⟩ ?_
        refine q_nrm 50 [.int (F_X9_result a σ), .int (F_X9_result b σ)] 0 0 rfl rfl rfl rfl ?_
        refine q_go C tk_X9_isAhead [(28, 2)] [] (pc1 := 69) (σ1 := σ) (lv1 := [(0, .ref 229), (1, .int a), (2, .int b)]) (st1 := [.int ((F_X9_result b σ) - (F_X9_result a σ))]) rfl trivial ?_
        rw [if_pos c2] at K; exact K
      · skip
        refine q_go C tk_X9_isAhead [(21, 1), (30, 3)] [true] (pc1 := 58) (σ1 := σ) (lv1 := [(0, .ref 229), (1, .int a), (2, .int b)]) (st1 := [.int 7, .int a, .ref 229]) rfl ⟨c2, trivial⟩ ?_
        refine q_callV C hfl mw_X9_of mi_X9_of me_X9_of lk_X9_52 (k_X9_of a 7 σ ((hP.2.2.1 c1).2.1.2 c2).1) (rest := []) rfl rfl rfl (by decide) (by decide) rfl (q_dc (z := (58, .invokevirtual 52, 3, 0, 0)) tk_X9_isAhead 33 rfl) (Nat.le_of_ble_eq_true rfl) ⟨Nat.le_of_ble_eq_true rfl, Nat.le_of_ble_eq_true rfl⟩ ⟨Nat.le_of_ble_eq_true rfl, Nat.le_of_ble_eq_true rfl⟩ ?_
        refine q_nrm 61 [.int (F_X9_of a 7 σ)] 0 0 rfl rfl rfl rfl ?_
        refine q_go C tk_X9_isAhead [(34, 3)] [] (pc1 := 65) (σ1 := σ) (lv1 := [(0, .ref 229), (1, .int a), (2, .int b)]) (st1 := [.int 7, .int b, .ref 229, .int (F_X9_of a 7 σ)]) rfl trivial ?_
        refine q_callV C hfl mw_X9_of mi_X9_of me_X9_of lk_X9_52 (k_X9_of b 7 σ ((hP.2.2.1 c1).2.1.2 c2).2.1) (rest := [.int (F_X9_of a 7 σ)]) rfl rfl rfl (by decide) (by decide) rfl (q_dc (z := (65, .invokevirtual 52, 3, 0, 0)) tk_X9_isAhead 37 rfl) (Nat.le_of_ble_eq_true rfl) ⟨Nat.le_of_ble_eq_true rfl, Nat.le_of_ble_eq_true rfl⟩ ⟨Nat.le_of_ble_eq_true rfl, Nat.le_of_ble_eq_true rfl⟩ ?_
        refine q_nrm 68 [.int (F_X9_of b 7 σ), .int (F_X9_of a 7 σ)] 0 0 rfl rfl rfl rfl ?_
        refine q_go C tk_X9_isAhead [(38, 1)] [] (pc1 := 69) (σ1 := σ) (lv1 := [(0, .ref 229), (1, .int a), (2, .int b)]) (st1 := [.int ((F_X9_of a 7 σ) - (F_X9_of b 7 σ))]) rfl trivial ?_
        rw [if_neg c2] at K; exact K
  · rw [if_neg c1] at hF
    refine q_go C tk_X9_isAhead [(6, 3)] [false] (pc1 := 15) (σ1 := σ) (lv1 := [(0, .ref 229), (1, .int a), (2, .int b)]) (st1 := [.int a, .ref 229]) rfl ⟨c1, trivial⟩ ?_
    refine q_callV C hfl mw_X9_group mi_X9_group me_X9_group lk_X9_154 (k_X9_group a σ (hP.2.2.2 c1).1) (rest := []) rfl rfl rfl (by decide) (by decide) rfl (q_dc (z := (15, .invokevirtual 154, 3, 0, 0)) tk_X9_isAhead 9 rfl) (Nat.le_of_ble_eq_true rfl) ⟨Nat.le_of_ble_eq_true rfl, Nat.le_of_ble_eq_true rfl⟩ ⟨Nat.le_of_ble_eq_true rfl, Nat.le_of_ble_eq_true rfl⟩ ?_
    refine q_nrm 18 [.int (F_X9_group a σ)] 0 0 rfl rfl rfl rfl ?_
    refine q_go C tk_X9_isAhead [(10, 2)] [] (pc1 := 20) (σ1 := σ) (lv1 := [(0, .ref 229), (1, .int a), (2, .int b)]) (st1 := [.int b, .ref 229, .int (F_X9_group a σ)]) rfl trivial ?_
    refine q_callV C hfl mw_X9_group mi_X9_group me_X9_group lk_X9_154 (k_X9_group b σ (hP.2.2.2 c1).2.1) (rest := [.int (F_X9_group a σ)]) rfl rfl rfl (by decide) (by decide) rfl (q_dc (z := (20, .invokevirtual 154, 3, 0, 0)) tk_X9_isAhead 12 rfl) (Nat.le_of_ble_eq_true rfl) ⟨Nat.le_of_ble_eq_true rfl, Nat.le_of_ble_eq_true rfl⟩ ⟨Nat.le_of_ble_eq_true rfl, Nat.le_of_ble_eq_true rfl⟩ ?_
    refine q_nrm 23 [.int (F_X9_group b σ), .int (F_X9_group a σ)] 0 0 rfl rfl rfl rfl ?_
    by_cases c8 : (F_X9_group a σ) < (F_X9_group b σ)
    · rw [if_pos c8] at hF
      refine q_go C tk_X9_isAhead [(13, 3)] [false] (pc1 := 31) (σ1 := σ) (lv1 := [(0, .ref 229), (1, .int a), (2, .int b)]) (st1 := [.int 1]) rfl ⟨c8, trivial⟩ ?_
      exact q_zret C hr (q_dc (z := (31, .ireturn, 1, 0, 0)) tk_X9_isAhead 17 rfl) (by decide +kernel) rfl (congrArg q_oi hF.symm) (Nat.le_of_ble_eq_true rfl) (Nat.le_of_ble_eq_true rfl)
    · rw [if_neg c8] at hF
      refine q_go C tk_X9_isAhead [(13, 1), (16, 1)] [true] (pc1 := 31) (σ1 := σ) (lv1 := [(0, .ref 229), (1, .int a), (2, .int b)]) (st1 := [.int 0]) rfl ⟨c8, trivial⟩ ?_
      exact q_zret C hr (q_dc (z := (31, .ireturn, 1, 0, 0)) tk_X9_isAhead 17 rfl) (by decide +kernel) rfl (congrArg q_oi hF.symm) (Nat.le_of_ble_eq_true rfl) (Nat.le_of_ble_eq_true rfl)
def F_X9_carries (t : Int32) (σ : q_M) : q_M := (q_L (F_X9_of t 8 σ) (fun x1 : Int32 => (q_L ((F_X9_of t 7 σ) + (F_X9_step (F_X9_of t (0 + x1) σ) (F_X9_of t 9 σ) σ)) (fun x3 : Int32 => (q_L ((F_X9_endOf x1 σ) + 300) (fun x5 : Int32 => (q_L (if x1 < 3 then (if x5 < x3 then x5 else x3) else x3) (fun x9 : Int32 => (q_L (F_X9_sets t 7 x9 σ) (fun σ11 : q_M => (q_L (F_X9_sets t 9 ((F_X9_of t 9 σ11) + 1) σ11) (fun σ13 : q_M => (if x1 = 3 then (if x3 < (F_X9_endOf x1 σ13) then σ13 else (q_L (F_X9_sets t 6 2 σ13) (fun σ17 : q_M => (q_L (F_X9_sets t 18 (σ17 230 2) σ17) (fun σ19 : q_M => (q_L (F_X9_sets t (14 + x1) ((1 + (σ19 230 2)) - (F_X9_of t 13 σ19)) σ19) (fun σ21 : q_M => σ21))))))) else σ13)))))))))))))
def P_X9_carries (t : Int32) (σ : q_M) : Prop := ((P_X9_of t 8 σ) ∧ (∀ x1 : Int32, (F_X9_of t 8 σ) = x1 → ((P_X9_of t 7 σ) ∧ ((P_X9_of t (0 + x1) σ) ∧ ((P_X9_of t 9 σ) ∧ (∀ x3 : Int32, ((F_X9_of t 7 σ) + (F_X9_step (F_X9_of t (0 + x1) σ) (F_X9_of t 9 σ) σ)) = x3 → (∀ x5 : Int32, ((F_X9_endOf x1 σ) + 300) = x5 → (True ∧ (∀ x9 : Int32, (if x1 < 3 then (if x5 < x3 then x5 else x3) else x3) = x9 → ((P_X9_sets t 7 x9 σ) ∧ (∀ σ11 : q_M, (F_X9_sets t 7 x9 σ) = σ11 → ((P_X9_of t 9 σ11) ∧ ((P_X9_sets t 9 ((F_X9_of t 9 σ11) + 1) σ11) ∧ (∀ σ13 : q_M, (F_X9_sets t 9 ((F_X9_of t 9 σ11) + 1) σ11) = σ13 → ((x1 = 3 → ((x3 < (F_X9_endOf x1 σ13) → True) ∧ (¬ x3 < (F_X9_endOf x1 σ13) → ((P_X9_sets t 6 2 σ13) ∧ (∀ σ17 : q_M, (F_X9_sets t 6 2 σ13) = σ17 → ((P_X9_sets t 18 (σ17 230 2) σ17) ∧ (∀ σ19 : q_M, (F_X9_sets t 18 (σ17 230 2) σ17) = σ19 → ((P_X9_of t 13 σ19) ∧ ((P_X9_sets t (14 + x1) ((1 + (σ19 230 2)) - (F_X9_of t 13 σ19)) σ19) ∧ True))))))))) ∧ (¬ x1 = 3 → True))))))))))))))))
set_option maxRecDepth 100000 in
theorem k_X9_carries {α β : Nat → Nat} {D : va_G} {κ : Nat → ClassId} (t : Int32) (σ : q_M) (hP : P_X9_carries t σ) : q_C α β D κ yX9_carries cX9_carries 5 (Option.none : Option Jvm.ClassFile.FieldType) 1 23 0 0 [.ref 229, .int t] σ q_ov (F_X9_carries t σ) := by
  refine q_enter (own := RX9) (F := F_X9) (G := G_X9) (by decide +kernel) rfl Fok_X9 Gok_X9 (Nat.le_of_ble_eq_true rfl) (fun p l e s m args below meth c A hfl C hr hT => ?_)
  generalize hF : F_X9_carries t σ = r
  unfold F_X9_carries at hF
  refine q_go C tk_X9_carries [(0, 3)] [] (pc1 := 4) (σ1 := σ) (lv1 := [(0, .ref 229), (1, .int t)]) (st1 := [.int 8, .int t, .ref 229]) rfl trivial ?_
  refine q_callV C hfl mw_X9_of mi_X9_of me_X9_of lk_X9_52 (k_X9_of t 8 σ hP.1) (rest := []) rfl rfl rfl (by decide) (by decide) rfl (q_dc (z := (4, .invokevirtual 52, 3, 0, 0)) tk_X9_carries 3 rfl) (Nat.le_of_ble_eq_true rfl) ⟨Nat.le_of_ble_eq_true rfl, Nat.le_of_ble_eq_true rfl⟩ ⟨Nat.le_of_ble_eq_true rfl, Nat.le_of_ble_eq_true rfl⟩ ?_
  refine q_nrm 7 [.int (F_X9_of t 8 σ)] 0 0 rfl rfl rfl rfl ?_
  generalize e2 : (F_X9_of t 8 σ) = x1
  replace hF := q_let e2 hF
  refine q_go C tk_X9_carries [(4, 4)] [] (pc1 := 12) (σ1 := σ) (lv1 := [(2, .int x1), (0, .ref 229), (1, .int t)]) (st1 := [.int 7, .int t, .ref 229]) rfl trivial ?_
  refine q_callV C hfl mw_X9_of mi_X9_of me_X9_of lk_X9_52 (k_X9_of t 7 σ (hP.2 x1 e2).1) (rest := []) rfl rfl rfl (by decide) (by decide) rfl (q_dc (z := (12, .invokevirtual 52, 3, 0, 0)) tk_X9_carries 8 rfl) (Nat.le_of_ble_eq_true rfl) ⟨Nat.le_of_ble_eq_true rfl, Nat.le_of_ble_eq_true rfl⟩ ⟨Nat.le_of_ble_eq_true rfl, Nat.le_of_ble_eq_true rfl⟩ ?_
  refine q_nrm 15 [.int (F_X9_of t 7 σ)] 0 0 rfl rfl rfl rfl ?_
  refine q_go C tk_X9_carries [(9, 5)] [] (pc1 := 20) (σ1 := σ) (lv1 := [(2, .int x1), (0, .ref 229), (1, .int t)]) (st1 := [.int (0 + x1), .int t, .ref 229, .int (F_X9_of t 7 σ)]) rfl trivial ?_
  refine q_callV C hfl mw_X9_of mi_X9_of me_X9_of lk_X9_52 (k_X9_of t (0 + x1) σ (hP.2 x1 e2).2.1) (rest := [.int (F_X9_of t 7 σ)]) rfl rfl rfl (by decide) (by decide) rfl (q_dc (z := (20, .invokevirtual 52, 3, 0, 0)) tk_X9_carries 14 rfl) (Nat.le_of_ble_eq_true rfl) ⟨Nat.le_of_ble_eq_true rfl, Nat.le_of_ble_eq_true rfl⟩ ⟨Nat.le_of_ble_eq_true rfl, Nat.le_of_ble_eq_true rfl⟩ ?_
  refine q_nrm 23 [.int (F_X9_of t (0 + x1) σ), .int (F_X9_of t 7 σ)] 0 0 rfl rfl rfl rfl ?_
  refine q_go C tk_X9_carries [(15, 3)] [] (pc1 := 27) (σ1 := σ) (lv1 := [(2, .int x1), (0, .ref 229), (1, .int t)]) (st1 := [.int 9, .int t, .ref 229, .int (F_X9_of t (0 + x1) σ), .int (F_X9_of t 7 σ)]) rfl trivial ?_
  refine q_callV C hfl mw_X9_of mi_X9_of me_X9_of lk_X9_52 (k_X9_of t 9 σ (hP.2 x1 e2).2.2.1) (rest := [.int (F_X9_of t (0 + x1) σ), .int (F_X9_of t 7 σ)]) rfl rfl rfl (by decide) (by decide) rfl (q_dc (z := (27, .invokevirtual 52, 3, 0, 0)) tk_X9_carries 18 rfl) (Nat.le_of_ble_eq_true rfl) ⟨Nat.le_of_ble_eq_true rfl, Nat.le_of_ble_eq_true rfl⟩ ⟨Nat.le_of_ble_eq_true rfl, Nat.le_of_ble_eq_true rfl⟩ ?_
  refine q_nrm 30 [.int (F_X9_of t 9 σ), .int (F_X9_of t (0 + x1) σ), .int (F_X9_of t 7 σ)] 0 0 rfl rfl rfl rfl ?_
  refine q_callS C hfl mw_X9_step ms_X9_step lk_X9_99 (k_X9_step (F_X9_of t (0 + x1) σ) (F_X9_of t 9 σ) σ) (rest := [.int (F_X9_of t 7 σ)]) rfl rfl (q_dc (z := (30, .invokestatic 99, 3, 0, 0)) tk_X9_carries 19 rfl) (Nat.le_of_ble_eq_true rfl) ⟨Nat.le_of_ble_eq_true rfl, Nat.le_of_ble_eq_true rfl⟩ ⟨Nat.le_of_ble_eq_true rfl, Nat.le_of_ble_eq_true rfl⟩ ?_
  refine q_nrm 33 [.int (F_X9_step (F_X9_of t (0 + x1) σ) (F_X9_of t 9 σ) σ), .int (F_X9_of t 7 σ)] 0 0 rfl rfl rfl rfl ?_
  refine q_go C tk_X9_carries [(20, 1)] [] (pc1 := 34) (σ1 := σ) (lv1 := [(2, .int x1), (0, .ref 229), (1, .int t)]) (st1 := [.int ((F_X9_of t 7 σ) + (F_X9_step (F_X9_of t (0 + x1) σ) (F_X9_of t 9 σ) σ))]) rfl trivial ?_
  generalize e4 : ((F_X9_of t 7 σ) + (F_X9_step (F_X9_of t (0 + x1) σ) (F_X9_of t 9 σ) σ)) = x3
  replace hF := q_let e4 hF
  refine q_go C tk_X9_carries [(21, 3)] [] (pc1 := 37) (σ1 := σ) (lv1 := [(3, .int x3), (2, .int x1), (0, .ref 229), (1, .int t)]) (st1 := [.int x1, .ref 229]) rfl trivial ?_
  refine q_callV C hfl mw_X9_endOf mi_X9_endOf me_X9_endOf lk_X9_96 (k_X9_endOf x1 σ) (rest := []) rfl rfl rfl (by decide) (by decide) rfl (q_dc (z := (37, .invokevirtual 96, 3, 0, 0)) tk_X9_carries 24 rfl) (Nat.le_of_ble_eq_true rfl) ⟨Nat.le_of_ble_eq_true rfl, Nat.le_of_ble_eq_true rfl⟩ ⟨Nat.le_of_ble_eq_true rfl, Nat.le_of_ble_eq_true rfl⟩ ?_
  refine q_nrm 40 [.int (F_X9_endOf x1 σ)] 0 0 rfl rfl rfl rfl ?_
  refine q_go C tk_X9_carries [(25, 2)] [] (pc1 := 44) (σ1 := σ) (lv1 := [(3, .int x3), (2, .int x1), (0, .ref 229), (1, .int t)]) (st1 := [.int ((F_X9_endOf x1 σ) + 300)]) rfl trivial ?_
  generalize e6 : ((F_X9_endOf x1 σ) + 300) = x5
  replace hF := q_let e6 hF
  refine q_go C tk_X9_carries [(27, 6)] [] (pc1 := 52) (σ1 := σ) (lv1 := [(4, .int x5), (3, .int x3), (2, .int x1), (0, .ref 229), (1, .int t)]) (st1 := [.int 3, .int x1, .int 7, .int t, .ref 229]) rfl trivial ?_
  refine q_mrg (v := (if x1 < 3 then (if x5 < x3 then x5 else x3) else x3)) (M := 67) (σ1 := σ) (lv1 := [(4, .int x5), (3, .int x3), (2, .int x1), (0, .ref 229), (1, .int t)]) (st1 := [.int 7, .int t, .ref 229]) (fun x9 e10 => ?_) (fun K => ?_)
  · replace hF := q_let e10 hF
    refine q_callV C hfl mw_X9_sets mi_X9_sets me_X9_sets lk_X9_67 (k_X9_sets t 7 x9 σ ((((hP.2 x1 e2).2.2.2 x3 e4) x5 e6).2 x9 e10).1) (rest := []) rfl rfl rfl (by decide) (by decide) rfl (q_dc (z := (67, .invokevirtual 67, 3, 0, 0)) tk_X9_carries 40 rfl) (Nat.le_of_ble_eq_true rfl) ⟨Nat.le_of_ble_eq_true rfl, Nat.le_of_ble_eq_true rfl⟩ ⟨Nat.le_of_ble_eq_true rfl, Nat.le_of_ble_eq_true rfl⟩ ?_
    refine q_nrm 70 [] 0 0 rfl rfl rfl rfl ?_
    generalize e12 : (F_X9_sets t 7 x9 σ) = σ11
    replace hF := q_let e12 hF
    refine q_go C tk_X9_carries [(41, 6)] [] (pc1 := 78) (σ1 := σ11) (lv1 := [(4, .int x5), (3, .int x3), (2, .int x1), (0, .ref 229), (1, .int t)]) (st1 := [.int 9, .int t, .ref 229, .int 9, .int t, .ref 229]) rfl trivial ?_
    refine q_callV C hfl mw_X9_of mi_X9_of me_X9_of lk_X9_52 (k_X9_of t 9 σ11 (((((hP.2 x1 e2).2.2.2 x3 e4) x5 e6).2 x9 e10).2 σ11 e12).1) (rest := [.int 9, .int t, .ref 229]) rfl rfl rfl (by decide) (by decide) rfl (q_dc (z := (78, .invokevirtual 52, 3, 0, 0)) tk_X9_carries 47 rfl) (Nat.le_of_ble_eq_true rfl) ⟨Nat.le_of_ble_eq_true rfl, Nat.le_of_ble_eq_true rfl⟩ ⟨Nat.le_of_ble_eq_true rfl, Nat.le_of_ble_eq_true rfl⟩ ?_
    refine q_nrm 81 [.int (F_X9_of t 9 σ11), .int 9, .int t, .ref 229] 0 0 rfl rfl rfl rfl ?_
    refine q_go C tk_X9_carries [(48, 2)] [] (pc1 := 83) (σ1 := σ11) (lv1 := [(4, .int x5), (3, .int x3), (2, .int x1), (0, .ref 229), (1, .int t)]) (st1 := [.int ((F_X9_of t 9 σ11) + 1), .int 9, .int t, .ref 229]) rfl trivial ?_
    refine q_callV C hfl mw_X9_sets mi_X9_sets me_X9_sets lk_X9_67 (k_X9_sets t 9 ((F_X9_of t 9 σ11) + 1) σ11 (((((hP.2 x1 e2).2.2.2 x3 e4) x5 e6).2 x9 e10).2 σ11 e12).2.1) (rest := []) rfl rfl rfl (by decide) (by decide) rfl (q_dc (z := (83, .invokevirtual 67, 3, 0, 0)) tk_X9_carries 50 rfl) (Nat.le_of_ble_eq_true rfl) ⟨Nat.le_of_ble_eq_true rfl, Nat.le_of_ble_eq_true rfl⟩ ⟨Nat.le_of_ble_eq_true rfl, Nat.le_of_ble_eq_true rfl⟩ ?_
    refine q_nrm 86 [] 0 0 rfl rfl rfl rfl ?_
    generalize e14 : (F_X9_sets t 9 ((F_X9_of t 9 σ11) + 1) σ11) = σ13
    replace hF := q_let e14 hF
    refine q_go C tk_X9_carries [(51, 2)] [] (pc1 := 88) (σ1 := σ13) (lv1 := [(4, .int x5), (3, .int x3), (2, .int x1), (0, .ref 229), (1, .int t)]) (st1 := [.int 3, .int x1]) rfl trivial ?_
    by_cases c15 : x1 = 3
    · rw [if_pos c15] at hF
      refine q_go C tk_X9_carries [(53, 4)] [false] (pc1 := 94) (σ1 := σ13) (lv1 := [(4, .int x5), (3, .int x3), (2, .int x1), (0, .ref 229), (1, .int t)]) (st1 := [.int x1, .ref 229, .int x3]) rfl ⟨c15, trivial⟩ ?_
      refine q_callV C hfl mw_X9_endOf mi_X9_endOf me_X9_endOf lk_X9_96 (k_X9_endOf x1 σ13) (rest := [.int x3]) rfl rfl rfl (by decide) (by decide) rfl (q_dc (z := (94, .invokevirtual 96, 3, 0, 0)) tk_X9_carries 57 rfl) (Nat.le_of_ble_eq_true rfl) ⟨Nat.le_of_ble_eq_true rfl, Nat.le_of_ble_eq_true rfl⟩ ⟨Nat.le_of_ble_eq_true rfl, Nat.le_of_ble_eq_true rfl⟩ ?_
      refine q_nrm 97 [.int (F_X9_endOf x1 σ13), .int x3] 0 0 rfl rfl rfl rfl ?_
      by_cases c16 : x3 < (F_X9_endOf x1 σ13)
      · rw [if_pos c16] at hF
        refine q_go C tk_X9_carries [(58, 1)] [true] (pc1 := 146) (σ1 := σ13) (lv1 := [(4, .int x5), (3, .int x3), (2, .int x1), (0, .ref 229), (1, .int t)]) (st1 := []) rfl ⟨c16, trivial⟩ ?_
        exact q_vret C hr (q_dc (z := (146, .return_, 1, 0, 0)) tk_X9_carries 89 rfl) hF rfl (Nat.le_of_ble_eq_true rfl) (Nat.le_of_ble_eq_true rfl)
      · rw [if_neg c16] at hF
        refine q_go C tk_X9_carries [(58, 5)] [false] (pc1 := 105) (σ1 := σ13) (lv1 := [(4, .int x5), (3, .int x3), (2, .int x1), (0, .ref 229), (1, .int t)]) (st1 := [.int 2, .int 6, .int t, .ref 229]) rfl ⟨c16, trivial⟩ ?_
        refine q_callV C hfl mw_X9_sets mi_X9_sets me_X9_sets lk_X9_67 (k_X9_sets t 6 2 σ13 ((((((((hP.2 x1 e2).2.2.2 x3 e4) x5 e6).2 x9 e10).2 σ11 e12).2.2 σ13 e14).1 c15).2 c16).1) (rest := []) rfl rfl rfl (by decide) (by decide) rfl (q_dc (z := (105, .invokevirtual 67, 3, 0, 0)) tk_X9_carries 63 rfl) (Nat.le_of_ble_eq_true rfl) ⟨Nat.le_of_ble_eq_true rfl, Nat.le_of_ble_eq_true rfl⟩ ⟨Nat.le_of_ble_eq_true rfl, Nat.le_of_ble_eq_true rfl⟩ ?_
        refine q_nrm 108 [] 0 0 rfl rfl rfl rfl ?_
        generalize e18 : (F_X9_sets t 6 2 σ13) = σ17
        replace hF := q_let e18 hF
        refine q_go C tk_X9_carries [(64, 7)] [] (pc1 := 118) (σ1 := σ17) (lv1 := [(4, .int x5), (3, .int x3), (2, .int x1), (0, .ref 229), (1, .int t)]) (st1 := [.int (σ17 230 2), .int 18, .int t, .ref 229]) rfl ⟨rfl, rfl, (by unfold vp_in; decide +kernel), trivial⟩ ?_
        refine q_callV C hfl mw_X9_sets mi_X9_sets me_X9_sets lk_X9_67 (k_X9_sets t 18 (σ17 230 2) σ17 (((((((((hP.2 x1 e2).2.2.2 x3 e4) x5 e6).2 x9 e10).2 σ11 e12).2.2 σ13 e14).1 c15).2 c16).2 σ17 e18).1) (rest := []) rfl rfl rfl (by decide) (by decide) rfl (q_dc (z := (118, .invokevirtual 67, 3, 0, 0)) tk_X9_carries 71 rfl) (Nat.le_of_ble_eq_true rfl) ⟨Nat.le_of_ble_eq_true rfl, Nat.le_of_ble_eq_true rfl⟩ ⟨Nat.le_of_ble_eq_true rfl, Nat.le_of_ble_eq_true rfl⟩ ?_
        refine q_nrm 121 [] 0 0 rfl rfl rfl rfl ?_
        generalize e20 : (F_X9_sets t 18 (σ17 230 2) σ17) = σ19
        replace hF := q_let e20 hF
        refine q_go C tk_X9_carries [(72, 14)] [] (pc1 := 139) (σ1 := σ19) (lv1 := [(4, .int x5), (3, .int x3), (2, .int x1), (0, .ref 229), (1, .int t)]) (st1 := [.int 13, .int t, .ref 229, .int (1 + (σ19 230 2)), .int (14 + x1), .int t, .ref 229]) rfl ⟨rfl, rfl, (by unfold vp_in; decide +kernel), trivial⟩ ?_
        refine q_callV C hfl mw_X9_of mi_X9_of me_X9_of lk_X9_52 (k_X9_of t 13 σ19 ((((((((((hP.2 x1 e2).2.2.2 x3 e4) x5 e6).2 x9 e10).2 σ11 e12).2.2 σ13 e14).1 c15).2 c16).2 σ17 e18).2 σ19 e20).1) (rest := [.int (1 + (σ19 230 2)), .int (14 + x1), .int t, .ref 229]) rfl rfl rfl (by decide) (by decide) rfl (q_dc (z := (139, .invokevirtual 52, 3, 0, 0)) tk_X9_carries 86 rfl) (Nat.le_of_ble_eq_true rfl) ⟨Nat.le_of_ble_eq_true rfl, Nat.le_of_ble_eq_true rfl⟩ ⟨Nat.le_of_ble_eq_true rfl, Nat.le_of_ble_eq_true rfl⟩ ?_
        refine q_nrm 142 [.int (F_X9_of t 13 σ19), .int (1 + (σ19 230 2)), .int (14 + x1), .int t, .ref 229] 0 0 rfl rfl rfl rfl ?_
        refine q_go C tk_X9_carries [(87, 1)] [] (pc1 := 143) (σ1 := σ19) (lv1 := [(4, .int x5), (3, .int x3), (2, .int x1), (0, .ref 229), (1, .int t)]) (st1 := [.int ((1 + (σ19 230 2)) - (F_X9_of t 13 σ19)), .int (14 + x1), .int t, .ref 229]) rfl trivial ?_
        refine q_callV C hfl mw_X9_sets mi_X9_sets me_X9_sets lk_X9_67 (k_X9_sets t (14 + x1) ((1 + (σ19 230 2)) - (F_X9_of t 13 σ19)) σ19 ((((((((((hP.2 x1 e2).2.2.2 x3 e4) x5 e6).2 x9 e10).2 σ11 e12).2.2 σ13 e14).1 c15).2 c16).2 σ17 e18).2 σ19 e20).2.1) (rest := []) rfl rfl rfl (by decide) (by decide) rfl (q_dc (z := (143, .invokevirtual 67, 3, 0, 0)) tk_X9_carries 88 rfl) (Nat.le_of_ble_eq_true rfl) ⟨Nat.le_of_ble_eq_true rfl, Nat.le_of_ble_eq_true rfl⟩ ⟨Nat.le_of_ble_eq_true rfl, Nat.le_of_ble_eq_true rfl⟩ ?_
        refine q_nrm 146 [] 0 0 rfl rfl rfl rfl ?_
        generalize e22 : (F_X9_sets t (14 + x1) ((1 + (σ19 230 2)) - (F_X9_of t 13 σ19)) σ19) = σ21
        replace hF := q_let e22 hF
        exact q_vret C hr (q_dc (z := (146, .return_, 1, 0, 0)) tk_X9_carries 89 rfl) hF rfl (Nat.le_of_ble_eq_true rfl) (Nat.le_of_ble_eq_true rfl)
    · rw [if_neg c15] at hF
      refine q_go C tk_X9_carries [(53, 1)] [true] (pc1 := 146) (σ1 := σ13) (lv1 := [(4, .int x5), (3, .int x3), (2, .int x1), (0, .ref 229), (1, .int t)]) (st1 := []) rfl ⟨c15, trivial⟩ ?_
      exact q_vret C hr (q_dc (z := (146, .return_, 1, 0, 0)) tk_X9_carries 89 rfl) hF rfl (Nat.le_of_ble_eq_true rfl) (Nat.le_of_ble_eq_true rfl)
  · clear hF
    by_cases c7 : x1 < 3
    · skip
      refine q_go C tk_X9_carries [(33, 3)] [false] (pc1 := 58) (σ1 := σ) (lv1 := [(4, .int x5), (3, .int x3), (2, .int x1), (0, .ref 229), (1, .int t)]) (st1 := [.int x5, .int x3, .int 7, .int t, .ref 229]) rfl ⟨c7, trivial⟩ ?_
      by_cases c8 : x5 < x3
      · skip
        refine q_go C tk_X9_carries [(36, 3)] [false] (pc1 := 67) (σ1 := σ) (lv1 := [(4, .int x5), (3, .int x3), (2, .int x1), (0, .ref 229), (1, .int t)]) (st1 := [.int x5, .int 7, .int t, .ref 229]) rfl ⟨c8, trivial⟩ ?_
        rw [if_pos c7, if_pos c8] at K; exact K
      · skip
        refine q_go C tk_X9_carries [(36, 1), (39, 1)] [true] (pc1 := 67) (σ1 := σ) (lv1 := [(4, .int x5), (3, .int x3), (2, .int x1), (0, .ref 229), (1, .int t)]) (st1 := [.int x3, .int 7, .int t, .ref 229]) rfl ⟨c8, trivial⟩ ?_
        rw [if_pos c7, if_neg c8] at K; exact K
    · skip
      refine q_go C tk_X9_carries [(33, 1), (39, 1)] [true] (pc1 := 67) (σ1 := σ) (lv1 := [(4, .int x5), (3, .int x3), (2, .int x1), (0, .ref 229), (1, .int t)]) (st1 := [.int x3, .int 7, .int t, .ref 229]) rfl ⟨c7, trivial⟩ ?_
      rw [if_neg c7] at K; exact K
def F_X9_moves (t : Int32) (σ : q_M) : q_M := (if 0 < (F_X9_of t 10 σ) then (q_L (F_X9_sets t 10 ((F_X9_of t 10 σ) - 1) σ) (fun σ2 : q_M => σ2)) else (if (F_X9_standsAtBound t σ) = 0 then (q_L (F_X9_carries t σ) (fun σ5 : q_M => σ5)) else σ))
def P_X9_moves (t : Int32) (σ : q_M) : Prop := ((P_X9_of t 10 σ) ∧ ((0 < (F_X9_of t 10 σ) → ((P_X9_of t 10 σ) ∧ ((P_X9_sets t 10 ((F_X9_of t 10 σ) - 1) σ) ∧ True))) ∧ (¬ 0 < (F_X9_of t 10 σ) → ((P_X9_standsAtBound t σ) ∧ (((F_X9_standsAtBound t σ) = 0 → ((P_X9_carries t σ) ∧ True)) ∧ (¬ (F_X9_standsAtBound t σ) = 0 → True))))))
set_option maxRecDepth 100000 in
theorem k_X9_moves {α β : Nat → Nat} {D : va_G} {κ : Nat → ClassId} (t : Int32) (σ : q_M) (hP : P_X9_moves t σ) : q_C α β D κ yX9_moves cX9_moves 2 (Option.none : Option Jvm.ClassFile.FieldType) 2 47 0 0 [.ref 229, .int t] σ q_ov (F_X9_moves t σ) := by
  refine q_enter (own := RX9) (F := F_X9) (G := G_X9) (by decide +kernel) rfl Fok_X9 Gok_X9 (Nat.le_of_ble_eq_true rfl) (fun p l e s m args below meth c A hfl C hr hT => ?_)
  generalize hF : F_X9_moves t σ = r
  unfold F_X9_moves at hF
  refine q_go C tk_X9_moves [(0, 3)] [] (pc1 := 4) (σ1 := σ) (lv1 := [(0, .ref 229), (1, .int t)]) (st1 := [.int 10, .int t, .ref 229]) rfl trivial ?_
  refine q_callV C hfl mw_X9_of mi_X9_of me_X9_of lk_X9_52 (k_X9_of t 10 σ hP.1) (rest := []) rfl rfl rfl (by decide) (by decide) rfl (q_dc (z := (4, .invokevirtual 52, 3, 0, 0)) tk_X9_moves 3 rfl) (Nat.le_of_ble_eq_true rfl) ⟨Nat.le_of_ble_eq_true rfl, Nat.le_of_ble_eq_true rfl⟩ ⟨Nat.le_of_ble_eq_true rfl, Nat.le_of_ble_eq_true rfl⟩ ?_
  refine q_nrm 7 [.int (F_X9_of t 10 σ)] 0 0 rfl rfl rfl rfl ?_
  by_cases c1 : 0 < (F_X9_of t 10 σ)
  · rw [if_pos c1] at hF
    refine q_go C tk_X9_moves [(4, 7)] [false] (pc1 := 18) (σ1 := σ) (lv1 := [(0, .ref 229), (1, .int t)]) (st1 := [.int 10, .int t, .ref 229, .int 10, .int t, .ref 229]) rfl ⟨c1, trivial⟩ ?_
    refine q_callV C hfl mw_X9_of mi_X9_of me_X9_of lk_X9_52 (k_X9_of t 10 σ (hP.2.1 c1).1) (rest := [.int 10, .int t, .ref 229]) rfl rfl rfl (by decide) (by decide) rfl (q_dc (z := (18, .invokevirtual 52, 3, 0, 0)) tk_X9_moves 11 rfl) (Nat.le_of_ble_eq_true rfl) ⟨Nat.le_of_ble_eq_true rfl, Nat.le_of_ble_eq_true rfl⟩ ⟨Nat.le_of_ble_eq_true rfl, Nat.le_of_ble_eq_true rfl⟩ ?_
    refine q_nrm 21 [.int (F_X9_of t 10 σ), .int 10, .int t, .ref 229] 0 0 rfl rfl rfl rfl ?_
    refine q_go C tk_X9_moves [(12, 2)] [] (pc1 := 23) (σ1 := σ) (lv1 := [(0, .ref 229), (1, .int t)]) (st1 := [.int ((F_X9_of t 10 σ) - 1), .int 10, .int t, .ref 229]) rfl trivial ?_
    refine q_callV C hfl mw_X9_sets mi_X9_sets me_X9_sets lk_X9_67 (k_X9_sets t 10 ((F_X9_of t 10 σ) - 1) σ (hP.2.1 c1).2.1) (rest := []) rfl rfl rfl (by decide) (by decide) rfl (q_dc (z := (23, .invokevirtual 67, 3, 0, 0)) tk_X9_moves 14 rfl) (Nat.le_of_ble_eq_true rfl) ⟨Nat.le_of_ble_eq_true rfl, Nat.le_of_ble_eq_true rfl⟩ ⟨Nat.le_of_ble_eq_true rfl, Nat.le_of_ble_eq_true rfl⟩ ?_
    refine q_nrm 26 [] 0 0 rfl rfl rfl rfl ?_
    generalize e3 : (F_X9_sets t 10 ((F_X9_of t 10 σ) - 1) σ) = σ2
    replace hF := q_let e3 hF
    refine q_go C tk_X9_moves [(15, 1)] [] (pc1 := 42) (σ1 := σ2) (lv1 := [(0, .ref 229), (1, .int t)]) (st1 := []) rfl trivial ?_
    exact q_vret C hr (q_dc (z := (42, .return_, 1, 0, 0)) tk_X9_moves 23 rfl) hF rfl (Nat.le_of_ble_eq_true rfl) (Nat.le_of_ble_eq_true rfl)
  · rw [if_neg c1] at hF
    refine q_go C tk_X9_moves [(4, 1), (16, 2)] [true] (pc1 := 31) (σ1 := σ) (lv1 := [(0, .ref 229), (1, .int t)]) (st1 := [.int t, .ref 229]) rfl ⟨c1, trivial⟩ ?_
    refine q_callV C hfl mw_X9_standsAtBound mi_X9_standsAtBound me_X9_standsAtBound lk_X9_102 (k_X9_standsAtBound t σ (hP.2.2 c1).1) (rest := []) rfl rfl rfl (by decide) (by decide) rfl (q_dc (z := (31, .invokevirtual 102, 3, 0, 0)) tk_X9_moves 18 rfl) (Nat.le_of_ble_eq_true rfl) ⟨Nat.le_of_ble_eq_true rfl, Nat.le_of_ble_eq_true rfl⟩ ⟨Nat.le_of_ble_eq_true rfl, Nat.le_of_ble_eq_true rfl⟩ ?_
    refine q_nrm 34 [.int (F_X9_standsAtBound t σ)] 0 0 rfl rfl rfl rfl ?_
    by_cases c4 : (F_X9_standsAtBound t σ) = 0
    · rw [if_pos c4] at hF
      refine q_go C tk_X9_moves [(19, 3)] [false] (pc1 := 39) (σ1 := σ) (lv1 := [(0, .ref 229), (1, .int t)]) (st1 := [.int t, .ref 229]) rfl ⟨c4, trivial⟩ ?_
      refine q_callV C hfl mw_X9_carries mi_X9_carries me_X9_carries lk_X9_105 (k_X9_carries t σ ((hP.2.2 c1).2.1 c4).1) (rest := []) rfl rfl rfl (by decide) (by decide) rfl (q_dc (z := (39, .invokevirtual 105, 3, 0, 0)) tk_X9_moves 22 rfl) (Nat.le_of_ble_eq_true rfl) ⟨Nat.le_of_ble_eq_true rfl, Nat.le_of_ble_eq_true rfl⟩ ⟨Nat.le_of_ble_eq_true rfl, Nat.le_of_ble_eq_true rfl⟩ ?_
      refine q_nrm 42 [] 0 0 rfl rfl rfl rfl ?_
      generalize e6 : (F_X9_carries t σ) = σ5
      replace hF := q_let e6 hF
      exact q_vret C hr (q_dc (z := (42, .return_, 1, 0, 0)) tk_X9_moves 23 rfl) hF rfl (Nat.le_of_ble_eq_true rfl) (Nat.le_of_ble_eq_true rfl)
    · rw [if_neg c4] at hF
      refine q_go C tk_X9_moves [(19, 1)] [true] (pc1 := 42) (σ1 := σ) (lv1 := [(0, .ref 229), (1, .int t)]) (st1 := []) rfl ⟨c4, trivial⟩ ?_
      exact q_vret C hr (q_dc (z := (42, .return_, 1, 0, 0)) tk_X9_moves 23 rfl) hF rfl (Nat.le_of_ble_eq_true rfl) (Nat.le_of_ble_eq_true rfl)
def F_X9_teamCount (σ : q_M) : (Int32) × q_M := ((σ 230 3), (q_up σ 229 5 0))
set_option maxRecDepth 100000 in
theorem k_X9_teamCount {α β : Nat → Nat} {D : va_G} {κ : Nat → ClassId} (σ : q_M) : q_C α β D κ yX9_teamCount cX9_teamCount 1 (Option.some Jvm.ClassFile.FieldType.int) 0 0 0 0 [.ref 229] σ (q_oi (F_X9_teamCount σ).1) (F_X9_teamCount σ).2 := by
  refine q_enter (own := RX9) (F := F_X9) (G := G_X9) (by decide +kernel) rfl Fok_X9 Gok_X9 (Nat.le_of_ble_eq_true rfl) (fun p l e s m args below meth c A hfl C hr hT => ?_)
  generalize hF : F_X9_teamCount σ = r
  unfold F_X9_teamCount at hF
  refine q_go C tk_X9_teamCount [(0, 7)] [] (pc1 := 11) (σ1 := (q_up σ 229 5 0)) (lv1 := [(0, .ref 229)]) (st1 := [.int (σ 230 3)]) rfl ⟨rfl, rfl, rfl, (by unfold vp_in; decide +kernel), trivial⟩ ?_
  exact q_iret C hr (q_dc (z := (11, .ireturn, 1, 0, 0)) tk_X9_teamCount 7 rfl) (congrArg Prod.snd hF) (congrArg (fun z => q_oi z.1) hF.symm) (Nat.le_of_ble_eq_true rfl) (Nat.le_of_ble_eq_true rfl)
def F_X9_isStarted (σ : q_M) : (Int32) × q_M := (q_L (q_up σ 229 5 0) (fun σ1 : q_M => ((F_X9_isUnprepared σ1), σ1)))
set_option maxRecDepth 100000 in
theorem k_X9_isStarted {α β : Nat → Nat} {D : va_G} {κ : Nat → ClassId} (σ : q_M) : q_C α β D κ yX9_isStarted cX9_isStarted 1 (Option.some Jvm.ClassFile.FieldType.boolean) 1 20 0 0 [.ref 229] σ (q_oi (F_X9_isStarted σ).1) (F_X9_isStarted σ).2 := by
  refine q_enter (own := RX9) (F := F_X9) (G := G_X9) (by decide +kernel) rfl Fok_X9 Gok_X9 (Nat.le_of_ble_eq_true rfl) (fun p l e s m args below meth c A hfl C hr hT => ?_)
  generalize hF : F_X9_isStarted σ = r
  unfold F_X9_isStarted at hF
  refine q_go C tk_X9_isStarted [(0, 4)] [] (pc1 := 6) (σ1 := (q_up σ 229 5 0)) (lv1 := [(0, .ref 229)]) (st1 := [.ref 229]) rfl ⟨rfl, trivial⟩ ?_
  generalize e2 : (q_up σ 229 5 0) = σ1
  replace hF := q_let e2 hF
  refine q_callV C hfl mw_X9_isUnprepared mi_X9_isUnprepared me_X9_isUnprepared lk_X9_59 (k_X9_isUnprepared σ1) (rest := []) rfl rfl rfl (by decide) (by decide) rfl (q_dc (z := (6, .invokevirtual 59, 3, 0, 0)) tk_X9_isStarted 4 rfl) (Nat.le_of_ble_eq_true rfl) ⟨Nat.le_of_ble_eq_true rfl, Nat.le_of_ble_eq_true rfl⟩ ⟨Nat.le_of_ble_eq_true rfl, Nat.le_of_ble_eq_true rfl⟩ ?_
  refine q_nrm 9 [.int (F_X9_isUnprepared σ1)] 0 0 rfl rfl rfl rfl ?_
  exact q_zret C hr (q_dc (z := (9, .ireturn, 1, 0, 0)) tk_X9_isStarted 5 rfl) (q_zb (z_X9_isUnprepared)).1 (congrArg Prod.snd hF) (congrArg (fun z => q_oi z.1) hF.symm) (Nat.le_of_ble_eq_true rfl) (Nat.le_of_ble_eq_true rfl)
def F_X9_clock (σ : q_M) : (Int32) × q_M := ((σ 230 2), (q_up σ 229 5 0))
set_option maxRecDepth 100000 in
theorem k_X9_clock {α β : Nat → Nat} {D : va_G} {κ : Nat → ClassId} (σ : q_M) : q_C α β D κ yX9_clock cX9_clock 1 (Option.some Jvm.ClassFile.FieldType.int) 0 0 0 0 [.ref 229] σ (q_oi (F_X9_clock σ).1) (F_X9_clock σ).2 := by
  refine q_enter (own := RX9) (F := F_X9) (G := G_X9) (by decide +kernel) rfl Fok_X9 Gok_X9 (Nat.le_of_ble_eq_true rfl) (fun p l e s m args below meth c A hfl C hr hT => ?_)
  generalize hF : F_X9_clock σ = r
  unfold F_X9_clock at hF
  refine q_go C tk_X9_clock [(0, 7)] [] (pc1 := 11) (σ1 := (q_up σ 229 5 0)) (lv1 := [(0, .ref 229)]) (st1 := [.int (σ 230 2)]) rfl ⟨rfl, rfl, rfl, (by unfold vp_in; decide +kernel), trivial⟩ ?_
  exact q_iret C hr (q_dc (z := (11, .ireturn, 1, 0, 0)) tk_X9_clock 7 rfl) (congrArg Prod.snd hF) (congrArg (fun z => q_oi z.1) hF.symm) (Nat.le_of_ble_eq_true rfl) (Nat.le_of_ble_eq_true rfl)
def F_X9_length (σ : q_M) : (Int32) × q_M := ((σ 230 0), (q_up σ 229 5 0))
set_option maxRecDepth 100000 in
theorem k_X9_length {α β : Nat → Nat} {D : va_G} {κ : Nat → ClassId} (σ : q_M) : q_C α β D κ yX9_length cX9_length 1 (Option.some Jvm.ClassFile.FieldType.int) 0 0 0 0 [.ref 229] σ (q_oi (F_X9_length σ).1) (F_X9_length σ).2 := by
  refine q_enter (own := RX9) (F := F_X9) (G := G_X9) (by decide +kernel) rfl Fok_X9 Gok_X9 (Nat.le_of_ble_eq_true rfl) (fun p l e s m args below meth c A hfl C hr hT => ?_)
  generalize hF : F_X9_length σ = r
  unfold F_X9_length at hF
  refine q_go C tk_X9_length [(0, 7)] [] (pc1 := 11) (σ1 := (q_up σ 229 5 0)) (lv1 := [(0, .ref 229)]) (st1 := [.int (σ 230 0)]) rfl ⟨rfl, rfl, rfl, (by unfold vp_in; decide +kernel), trivial⟩ ?_
  exact q_iret C hr (q_dc (z := (11, .ireturn, 1, 0, 0)) tk_X9_length 7 rfl) (congrArg Prod.snd hF) (congrArg (fun z => q_oi z.1) hF.symm) (Nat.le_of_ble_eq_true rfl) (Nat.le_of_ble_eq_true rfl)
def F_X9_thrown (σ : q_M) : Int32 := (σ 229 5)
set_option maxRecDepth 100000 in
theorem k_X9_thrown {α β : Nat → Nat} {D : va_G} {κ : Nat → ClassId} (σ : q_M) : q_C α β D κ yX9_thrown cX9_thrown 1 (Option.some Jvm.ClassFile.FieldType.int) 0 0 0 0 [.ref 229] σ (q_oi (F_X9_thrown σ)) σ := by
  refine q_enter (own := RX9) (F := F_X9) (G := G_X9) (by decide +kernel) rfl Fok_X9 Gok_X9 (Nat.le_of_ble_eq_true rfl) (fun p l e s m args below meth c A hfl C hr hT => ?_)
  generalize hF : F_X9_thrown σ = r
  unfold F_X9_thrown at hF
  refine q_go C tk_X9_thrown [(0, 2)] [] (pc1 := 4) (σ1 := σ) (lv1 := [(0, .ref 229)]) (st1 := [.int (σ 229 5)]) rfl ⟨rfl, trivial⟩ ?_
  exact q_iret C hr (q_dc (z := (4, .ireturn, 1, 0, 0)) tk_X9_thrown 2 rfl) rfl (congrArg q_oi hF.symm) (Nat.le_of_ble_eq_true rfl) (Nat.le_of_ble_eq_true rfl)
def F_X9_refusalReason (σ : q_M) : (Int32) × q_M := (if (σ 229 8) = 0 then (0, (q_up σ 229 5 1)) else ((σ 229 8), (q_up σ 229 5 0)))
set_option maxRecDepth 100000 in
theorem k_X9_refusalReason {α β : Nat → Nat} {D : va_G} {κ : Nat → ClassId} (σ : q_M) : q_C α β D κ yX9_refusalReason cX9_refusalReason 1 (Option.some Jvm.ClassFile.FieldType.int) 1 22 0 0 [.ref 229] σ (q_oi (F_X9_refusalReason σ).1) (F_X9_refusalReason σ).2 := by
  refine q_enter (own := RX9) (F := F_X9) (G := G_X9) (by decide +kernel) rfl Fok_X9 Gok_X9 (Nat.le_of_ble_eq_true rfl) (fun p l e s m args below meth c A hfl C hr hT => ?_)
  generalize hF : F_X9_refusalReason σ = r
  unfold F_X9_refusalReason at hF
  refine q_go C tk_X9_refusalReason [(0, 3)] [] (pc1 := 5) (σ1 := σ) (lv1 := [(0, .ref 229)]) (st1 := [.int (σ 229 8), .ref 229]) rfl ⟨rfl, trivial⟩ ?_
  by_cases c1 : (σ 229 8) = 0
  · rw [if_pos c1] at hF
    refine q_go C tk_X9_refusalReason [(3, 3), (7, 1)] [false] (pc1 := 14) (σ1 := σ) (lv1 := [(0, .ref 229)]) (st1 := [.int 1, .int 1, .ref 229]) rfl ⟨c1, trivial⟩ ?_
    refine q_callV C hfl mw_X9_isThrown mi_X9_isThrown me_X9_isThrown lk_X9_63 (k_X9_isThrownN 1 1 σ (by decide) (by decide)) (rest := []) rfl rfl rfl (by decide) (by decide) rfl (q_dc (z := (14, .invokevirtual 63, 3, 0, 0)) tk_X9_refusalReason 8 rfl) (Nat.le_of_ble_eq_true rfl) ⟨Nat.le_of_ble_eq_true rfl, Nat.le_of_ble_eq_true rfl⟩ ⟨Nat.le_of_ble_eq_true rfl, Nat.le_of_ble_eq_true rfl⟩ ?_
    refine q_nrm 17 [.int 1] 0 0 rfl rfl rfl rfl ?_
    refine q_go C tk_X9_refusalReason [(9, 3)] [false] (pc1 := 28) (σ1 := (q_up σ 229 5 1)) (lv1 := [(0, .ref 229)]) (st1 := [.int 0]) rfl ⟨(by decide : ¬ (1 : Int32) = 0), trivial⟩ ?_
    exact q_iret C hr (q_dc (z := (28, .ireturn, 1, 0, 0)) tk_X9_refusalReason 14 rfl) (congrArg Prod.snd hF) (congrArg (fun z => q_oi z.1) hF.symm) (Nat.le_of_ble_eq_true rfl) (Nat.le_of_ble_eq_true rfl)
  · rw [if_neg c1] at hF
    refine q_go C tk_X9_refusalReason [(3, 1), (6, 2)] [true] (pc1 := 14) (σ1 := σ) (lv1 := [(0, .ref 229)]) (st1 := [.int 1, .int 0, .ref 229]) rfl ⟨c1, trivial⟩ ?_
    refine q_callV C hfl mw_X9_isThrown mi_X9_isThrown me_X9_isThrown lk_X9_63 (k_X9_isThrownZ 0 1 σ (by decide)) (rest := []) rfl rfl rfl (by decide) (by decide) rfl (q_dc (z := (14, .invokevirtual 63, 3, 0, 0)) tk_X9_refusalReason 8 rfl) (Nat.le_of_ble_eq_true rfl) ⟨Nat.le_of_ble_eq_true rfl, Nat.le_of_ble_eq_true rfl⟩ ⟨Nat.le_of_ble_eq_true rfl, Nat.le_of_ble_eq_true rfl⟩ ?_
    refine q_nrm 17 [.int 0] 0 0 rfl rfl rfl rfl ?_
    refine q_go C tk_X9_refusalReason [(9, 1), (12, 2)] [true] (pc1 := 28) (σ1 := (q_up σ 229 5 0)) (lv1 := [(0, .ref 229)]) (st1 := [.int (σ 229 8)]) rfl ⟨(by decide : (0 : Int32) = 0), rfl, trivial⟩ ?_
    exact q_iret C hr (q_dc (z := (28, .ireturn, 1, 0, 0)) tk_X9_refusalReason 14 rfl) (congrArg Prod.snd hF) (congrArg (fun z => q_oi z.1) hF.symm) (Nat.le_of_ble_eq_true rfl) (Nat.le_of_ble_eq_true rfl)
def F_X9_refusedTeam (σ : q_M) : (Int32) × q_M := (if (σ 229 8) = 0 then (0, (q_up σ 229 5 1)) else ((σ 229 9), (q_up σ 229 5 0)))
set_option maxRecDepth 100000 in
theorem k_X9_refusedTeam {α β : Nat → Nat} {D : va_G} {κ : Nat → ClassId} (σ : q_M) : q_C α β D κ yX9_refusedTeam cX9_refusedTeam 1 (Option.some Jvm.ClassFile.FieldType.int) 1 22 0 0 [.ref 229] σ (q_oi (F_X9_refusedTeam σ).1) (F_X9_refusedTeam σ).2 := by
  refine q_enter (own := RX9) (F := F_X9) (G := G_X9) (by decide +kernel) rfl Fok_X9 Gok_X9 (Nat.le_of_ble_eq_true rfl) (fun p l e s m args below meth c A hfl C hr hT => ?_)
  generalize hF : F_X9_refusedTeam σ = r
  unfold F_X9_refusedTeam at hF
  refine q_go C tk_X9_refusedTeam [(0, 3)] [] (pc1 := 5) (σ1 := σ) (lv1 := [(0, .ref 229)]) (st1 := [.int (σ 229 8), .ref 229]) rfl ⟨rfl, trivial⟩ ?_
  by_cases c1 : (σ 229 8) = 0
  · rw [if_pos c1] at hF
    refine q_go C tk_X9_refusedTeam [(3, 3), (7, 1)] [false] (pc1 := 14) (σ1 := σ) (lv1 := [(0, .ref 229)]) (st1 := [.int 1, .int 1, .ref 229]) rfl ⟨c1, trivial⟩ ?_
    refine q_callV C hfl mw_X9_isThrown mi_X9_isThrown me_X9_isThrown lk_X9_63 (k_X9_isThrownN 1 1 σ (by decide) (by decide)) (rest := []) rfl rfl rfl (by decide) (by decide) rfl (q_dc (z := (14, .invokevirtual 63, 3, 0, 0)) tk_X9_refusedTeam 8 rfl) (Nat.le_of_ble_eq_true rfl) ⟨Nat.le_of_ble_eq_true rfl, Nat.le_of_ble_eq_true rfl⟩ ⟨Nat.le_of_ble_eq_true rfl, Nat.le_of_ble_eq_true rfl⟩ ?_
    refine q_nrm 17 [.int 1] 0 0 rfl rfl rfl rfl ?_
    refine q_go C tk_X9_refusedTeam [(9, 3)] [false] (pc1 := 28) (σ1 := (q_up σ 229 5 1)) (lv1 := [(0, .ref 229)]) (st1 := [.int 0]) rfl ⟨(by decide : ¬ (1 : Int32) = 0), trivial⟩ ?_
    exact q_iret C hr (q_dc (z := (28, .ireturn, 1, 0, 0)) tk_X9_refusedTeam 14 rfl) (congrArg Prod.snd hF) (congrArg (fun z => q_oi z.1) hF.symm) (Nat.le_of_ble_eq_true rfl) (Nat.le_of_ble_eq_true rfl)
  · rw [if_neg c1] at hF
    refine q_go C tk_X9_refusedTeam [(3, 1), (6, 2)] [true] (pc1 := 14) (σ1 := σ) (lv1 := [(0, .ref 229)]) (st1 := [.int 1, .int 0, .ref 229]) rfl ⟨c1, trivial⟩ ?_
    refine q_callV C hfl mw_X9_isThrown mi_X9_isThrown me_X9_isThrown lk_X9_63 (k_X9_isThrownZ 0 1 σ (by decide)) (rest := []) rfl rfl rfl (by decide) (by decide) rfl (q_dc (z := (14, .invokevirtual 63, 3, 0, 0)) tk_X9_refusedTeam 8 rfl) (Nat.le_of_ble_eq_true rfl) ⟨Nat.le_of_ble_eq_true rfl, Nat.le_of_ble_eq_true rfl⟩ ⟨Nat.le_of_ble_eq_true rfl, Nat.le_of_ble_eq_true rfl⟩ ?_
    refine q_nrm 17 [.int 0] 0 0 rfl rfl rfl rfl ?_
    refine q_go C tk_X9_refusedTeam [(9, 1), (12, 2)] [true] (pc1 := 28) (σ1 := (q_up σ 229 5 0)) (lv1 := [(0, .ref 229)]) (st1 := [.int (σ 229 9)]) rfl ⟨(by decide : (0 : Int32) = 0), rfl, trivial⟩ ?_
    exact q_iret C hr (q_dc (z := (28, .ireturn, 1, 0, 0)) tk_X9_refusedTeam 14 rfl) (congrArg Prod.snd hF) (congrArg (fun z => q_oi z.1) hF.symm) (Nat.le_of_ble_eq_true rfl) (Nat.le_of_ble_eq_true rfl)
def F_X9_errorPosition (σ : q_M) : (Int32) × q_M := (if (σ 229 6) < 0 then (0, (q_up σ 229 5 1)) else ((σ 229 6), (q_up σ 229 5 0)))
set_option maxRecDepth 100000 in
theorem k_X9_errorPosition {α β : Nat → Nat} {D : va_G} {κ : Nat → ClassId} (σ : q_M) : q_C α β D κ yX9_errorPosition cX9_errorPosition 1 (Option.some Jvm.ClassFile.FieldType.int) 1 22 0 0 [.ref 229] σ (q_oi (F_X9_errorPosition σ).1) (F_X9_errorPosition σ).2 := by
  refine q_enter (own := RX9) (F := F_X9) (G := G_X9) (by decide +kernel) rfl Fok_X9 Gok_X9 (Nat.le_of_ble_eq_true rfl) (fun p l e s m args below meth c A hfl C hr hT => ?_)
  generalize hF : F_X9_errorPosition σ = r
  unfold F_X9_errorPosition at hF
  refine q_go C tk_X9_errorPosition [(0, 3)] [] (pc1 := 5) (σ1 := σ) (lv1 := [(0, .ref 229)]) (st1 := [.int (σ 229 6), .ref 229]) rfl ⟨rfl, trivial⟩ ?_
  by_cases c1 : (σ 229 6) < 0
  · rw [if_pos c1] at hF
    refine q_go C tk_X9_errorPosition [(3, 3), (7, 1)] [false] (pc1 := 14) (σ1 := σ) (lv1 := [(0, .ref 229)]) (st1 := [.int 1, .int 1, .ref 229]) rfl ⟨c1, trivial⟩ ?_
    refine q_callV C hfl mw_X9_isThrown mi_X9_isThrown me_X9_isThrown lk_X9_63 (k_X9_isThrownN 1 1 σ (by decide) (by decide)) (rest := []) rfl rfl rfl (by decide) (by decide) rfl (q_dc (z := (14, .invokevirtual 63, 3, 0, 0)) tk_X9_errorPosition 8 rfl) (Nat.le_of_ble_eq_true rfl) ⟨Nat.le_of_ble_eq_true rfl, Nat.le_of_ble_eq_true rfl⟩ ⟨Nat.le_of_ble_eq_true rfl, Nat.le_of_ble_eq_true rfl⟩ ?_
    refine q_nrm 17 [.int 1] 0 0 rfl rfl rfl rfl ?_
    refine q_go C tk_X9_errorPosition [(9, 3)] [false] (pc1 := 28) (σ1 := (q_up σ 229 5 1)) (lv1 := [(0, .ref 229)]) (st1 := [.int 0]) rfl ⟨(by decide : ¬ (1 : Int32) = 0), trivial⟩ ?_
    exact q_iret C hr (q_dc (z := (28, .ireturn, 1, 0, 0)) tk_X9_errorPosition 14 rfl) (congrArg Prod.snd hF) (congrArg (fun z => q_oi z.1) hF.symm) (Nat.le_of_ble_eq_true rfl) (Nat.le_of_ble_eq_true rfl)
  · rw [if_neg c1] at hF
    refine q_go C tk_X9_errorPosition [(3, 1), (6, 2)] [true] (pc1 := 14) (σ1 := σ) (lv1 := [(0, .ref 229)]) (st1 := [.int 1, .int 0, .ref 229]) rfl ⟨c1, trivial⟩ ?_
    refine q_callV C hfl mw_X9_isThrown mi_X9_isThrown me_X9_isThrown lk_X9_63 (k_X9_isThrownZ 0 1 σ (by decide)) (rest := []) rfl rfl rfl (by decide) (by decide) rfl (q_dc (z := (14, .invokevirtual 63, 3, 0, 0)) tk_X9_errorPosition 8 rfl) (Nat.le_of_ble_eq_true rfl) ⟨Nat.le_of_ble_eq_true rfl, Nat.le_of_ble_eq_true rfl⟩ ⟨Nat.le_of_ble_eq_true rfl, Nat.le_of_ble_eq_true rfl⟩ ?_
    refine q_nrm 17 [.int 0] 0 0 rfl rfl rfl rfl ?_
    refine q_go C tk_X9_errorPosition [(9, 1), (12, 2)] [true] (pc1 := 28) (σ1 := (q_up σ 229 5 0)) (lv1 := [(0, .ref 229)]) (st1 := [.int (σ 229 6)]) rfl ⟨(by decide : (0 : Int32) = 0), rfl, trivial⟩ ?_
    exact q_iret C hr (q_dc (z := (28, .ireturn, 1, 0, 0)) tk_X9_errorPosition 14 rfl) (congrArg Prod.snd hF) (congrArg (fun z => q_oi z.1) hF.symm) (Nat.le_of_ble_eq_true rfl) (Nat.le_of_ble_eq_true rfl)
def F_X9_failedCommand (σ : q_M) : (Int32) × q_M := (if (σ 229 7) < 0 then (0, (q_up σ 229 5 1)) else ((σ 229 7), (q_up σ 229 5 0)))
set_option maxRecDepth 100000 in
theorem k_X9_failedCommand {α β : Nat → Nat} {D : va_G} {κ : Nat → ClassId} (σ : q_M) : q_C α β D κ yX9_failedCommand cX9_failedCommand 1 (Option.some Jvm.ClassFile.FieldType.int) 1 22 0 0 [.ref 229] σ (q_oi (F_X9_failedCommand σ).1) (F_X9_failedCommand σ).2 := by
  refine q_enter (own := RX9) (F := F_X9) (G := G_X9) (by decide +kernel) rfl Fok_X9 Gok_X9 (Nat.le_of_ble_eq_true rfl) (fun p l e s m args below meth c A hfl C hr hT => ?_)
  generalize hF : F_X9_failedCommand σ = r
  unfold F_X9_failedCommand at hF
  refine q_go C tk_X9_failedCommand [(0, 3)] [] (pc1 := 5) (σ1 := σ) (lv1 := [(0, .ref 229)]) (st1 := [.int (σ 229 7), .ref 229]) rfl ⟨rfl, trivial⟩ ?_
  by_cases c1 : (σ 229 7) < 0
  · rw [if_pos c1] at hF
    refine q_go C tk_X9_failedCommand [(3, 3), (7, 1)] [false] (pc1 := 14) (σ1 := σ) (lv1 := [(0, .ref 229)]) (st1 := [.int 1, .int 1, .ref 229]) rfl ⟨c1, trivial⟩ ?_
    refine q_callV C hfl mw_X9_isThrown mi_X9_isThrown me_X9_isThrown lk_X9_63 (k_X9_isThrownN 1 1 σ (by decide) (by decide)) (rest := []) rfl rfl rfl (by decide) (by decide) rfl (q_dc (z := (14, .invokevirtual 63, 3, 0, 0)) tk_X9_failedCommand 8 rfl) (Nat.le_of_ble_eq_true rfl) ⟨Nat.le_of_ble_eq_true rfl, Nat.le_of_ble_eq_true rfl⟩ ⟨Nat.le_of_ble_eq_true rfl, Nat.le_of_ble_eq_true rfl⟩ ?_
    refine q_nrm 17 [.int 1] 0 0 rfl rfl rfl rfl ?_
    refine q_go C tk_X9_failedCommand [(9, 3)] [false] (pc1 := 28) (σ1 := (q_up σ 229 5 1)) (lv1 := [(0, .ref 229)]) (st1 := [.int 0]) rfl ⟨(by decide : ¬ (1 : Int32) = 0), trivial⟩ ?_
    exact q_iret C hr (q_dc (z := (28, .ireturn, 1, 0, 0)) tk_X9_failedCommand 14 rfl) (congrArg Prod.snd hF) (congrArg (fun z => q_oi z.1) hF.symm) (Nat.le_of_ble_eq_true rfl) (Nat.le_of_ble_eq_true rfl)
  · rw [if_neg c1] at hF
    refine q_go C tk_X9_failedCommand [(3, 1), (6, 2)] [true] (pc1 := 14) (σ1 := σ) (lv1 := [(0, .ref 229)]) (st1 := [.int 1, .int 0, .ref 229]) rfl ⟨c1, trivial⟩ ?_
    refine q_callV C hfl mw_X9_isThrown mi_X9_isThrown me_X9_isThrown lk_X9_63 (k_X9_isThrownZ 0 1 σ (by decide)) (rest := []) rfl rfl rfl (by decide) (by decide) rfl (q_dc (z := (14, .invokevirtual 63, 3, 0, 0)) tk_X9_failedCommand 8 rfl) (Nat.le_of_ble_eq_true rfl) ⟨Nat.le_of_ble_eq_true rfl, Nat.le_of_ble_eq_true rfl⟩ ⟨Nat.le_of_ble_eq_true rfl, Nat.le_of_ble_eq_true rfl⟩ ?_
    refine q_nrm 17 [.int 0] 0 0 rfl rfl rfl rfl ?_
    refine q_go C tk_X9_failedCommand [(9, 1), (12, 2)] [true] (pc1 := 28) (σ1 := (q_up σ 229 5 0)) (lv1 := [(0, .ref 229)]) (st1 := [.int (σ 229 7)]) rfl ⟨(by decide : (0 : Int32) = 0), rfl, trivial⟩ ?_
    exact q_iret C hr (q_dc (z := (28, .ireturn, 1, 0, 0)) tk_X9_failedCommand 14 rfl) (congrArg Prod.snd hF) (congrArg (fun z => q_oi z.1) hF.symm) (Nat.le_of_ble_eq_true rfl) (Nat.le_of_ble_eq_true rfl)
end
