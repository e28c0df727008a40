section
-- ===== PART A: goes FIRST, ahead of the names: the tables' words, and 'selects' of the private methods out of them =====
/-- a private method of a class that the tables say can be made, by its rows of tables_1 -/
def lw_okq (q : MethodName × Nat) : Prop := (q.1.cls ≠ "java/lang/invoke/MethodHandle" ∧ q.1.cls ≠ "java/lang/invoke/VarHandle") ∧ Cond.instantiable q.1.cls q.2 ∈ tables_1 ∧ Cond.privateMethod q.1 ∈ tables_1 ∧ Cond.instanceMethod q.1 ∈ tables_1
theorem lw_p0 : lw_okq (⟨"CanalLocks$Water", "staysBelow", "(III)Z"⟩, 8) := ⟨⟨by decide +kernel, by decide +kernel⟩, List.mem_of_getElem? (i := 47) (by decide +kernel), List.mem_of_getElem? (i := 378) (by decide +kernel), List.mem_of_getElem? (i := 379) (by decide +kernel)⟩
theorem lw_p1 : lw_okq (⟨"java/lang/Throwable", "fillInStackTrace", "(I)Ljava/lang/Throwable;"⟩, 6) := ⟨⟨by decide +kernel, by decide +kernel⟩, List.mem_of_getElem? (i := 636) (by decide +kernel), List.mem_of_getElem? (i := 634) (by decide +kernel), List.mem_of_getElem? (i := 635) (by decide +kernel)⟩
theorem lw_p2 : lw_okq (⟨"CanalLocks$Fleet", "copyBoat", "(LCanalLocks$Fleet;II)V"⟩, 8) := ⟨⟨by decide +kernel, by decide +kernel⟩, List.mem_of_getElem? (i := 94) (by decide +kernel), List.mem_of_getElem? (i := 788) (by decide +kernel), List.mem_of_getElem? (i := 789) (by decide +kernel)⟩
theorem lw_p3 : lw_okq (⟨"CanalLocks", "beginChange", "(III)V"⟩, 9) := ⟨⟨by decide +kernel, by decide +kernel⟩, List.mem_of_getElem? (i := 33) (by decide +kernel), List.mem_of_getElem? (i := 805) (by decide +kernel), List.mem_of_getElem? (i := 806) (by decide +kernel)⟩
theorem lw_p4 : lw_okq (⟨"CanalLocks$Flight", "faultOfBoat", "(II)I"⟩, 4) := ⟨⟨by decide +kernel, by decide +kernel⟩, List.mem_of_getElem? (i := 41) (by decide +kernel), List.mem_of_getElem? (i := 813) (by decide +kernel), List.mem_of_getElem? (i := 814) (by decide +kernel)⟩
theorem lw_p5 : lw_okq (⟨"CanalLocks$Flight", "faultOfValve", "(II)I"⟩, 4) := ⟨⟨by decide +kernel, by decide +kernel⟩, List.mem_of_getElem? (i := 41) (by decide +kernel), List.mem_of_getElem? (i := 822) (by decide +kernel), List.mem_of_getElem? (i := 823) (by decide +kernel)⟩
theorem lw_p6 : lw_okq (⟨"CanalLocks$Flight", "faultOfOpening", "(I)I"⟩, 4) := ⟨⟨by decide +kernel, by decide +kernel⟩, List.mem_of_getElem? (i := 41) (by decide +kernel), List.mem_of_getElem? (i := 829) (by decide +kernel), List.mem_of_getElem? (i := 830) (by decide +kernel)⟩
theorem lw_p7 : lw_okq (⟨"CanalLocks$Flight", "faultOfShutting", "(I)I"⟩, 4) := ⟨⟨by decide +kernel, by decide +kernel⟩, List.mem_of_getElem? (i := 41) (by decide +kernel), List.mem_of_getElem? (i := 834) (by decide +kernel), List.mem_of_getElem? (i := 835) (by decide +kernel)⟩
theorem lw_p8 : lw_okq (⟨"CanalLocks$Flight", "turnValve", "(II)I"⟩, 4) := ⟨⟨by decide +kernel, by decide +kernel⟩, List.mem_of_getElem? (i := 41) (by decide +kernel), List.mem_of_getElem? (i := 903) (by decide +kernel), List.mem_of_getElem? (i := 904) (by decide +kernel)⟩
theorem lw_p9 : lw_okq (⟨"CanalLocks$Flight", "moveGate", "(IZ)I"⟩, 4) := ⟨⟨by decide +kernel, by decide +kernel⟩, List.mem_of_getElem? (i := 41) (by decide +kernel), List.mem_of_getElem? (i := 907) (by decide +kernel), List.mem_of_getElem? (i := 908) (by decide +kernel)⟩
theorem lw_p10 : lw_okq (⟨"CanalLocks$Flight", "changeRain", "(I)I"⟩, 4) := ⟨⟨by decide +kernel, by decide +kernel⟩, List.mem_of_getElem? (i := 41) (by decide +kernel), List.mem_of_getElem? (i := 915) (by decide +kernel), List.mem_of_getElem? (i := 916) (by decide +kernel)⟩
theorem lw_p11 : lw_okq (⟨"CanalLocks$Flight", "changeDrain", "(I)I"⟩, 4) := ⟨⟨by decide +kernel, by decide +kernel⟩, List.mem_of_getElem? (i := 41) (by decide +kernel), List.mem_of_getElem? (i := 919) (by decide +kernel), List.mem_of_getElem? (i := 920) (by decide +kernel)⟩
theorem lw_p12 : lw_okq (⟨"CanalLocks$Flight", "passWeather", "()V"⟩, 4) := ⟨⟨by decide +kernel, by decide +kernel⟩, List.mem_of_getElem? (i := 41) (by decide +kernel), List.mem_of_getElem? (i := 927) (by decide +kernel), List.mem_of_getElem? (i := 928) (by decide +kernel)⟩
theorem lw_p13 : lw_okq (⟨"CanalLocks$Flight", "passGates", "()V"⟩, 4) := ⟨⟨by decide +kernel, by decide +kernel⟩, List.mem_of_getElem? (i := 41) (by decide +kernel), List.mem_of_getElem? (i := 953) (by decide +kernel), List.mem_of_getElem? (i := 954) (by decide +kernel)⟩
theorem lw_p14 : lw_okq (⟨"CanalLocks$Flight", "mayPass", "(II)Z"⟩, 4) := ⟨⟨by decide +kernel, by decide +kernel⟩, List.mem_of_getElem? (i := 41) (by decide +kernel), List.mem_of_getElem? (i := 957) (by decide +kernel), List.mem_of_getElem? (i := 958) (by decide +kernel)⟩
theorem lw_p15 : lw_okq (⟨"CanalLocks$Flight", "pass", "(I)V"⟩, 4) := ⟨⟨by decide +kernel, by decide +kernel⟩, List.mem_of_getElem? (i := 41) (by decide +kernel), List.mem_of_getElem? (i := 977) (by decide +kernel), List.mem_of_getElem? (i := 978) (by decide +kernel)⟩
def lw_privs_1 : List (MethodName × Nat) := [(⟨"CanalLocks$Water", "staysBelow", "(III)Z"⟩, 8), (⟨"java/lang/Throwable", "fillInStackTrace", "(I)Ljava/lang/Throwable;"⟩, 6), (⟨"CanalLocks$Fleet", "copyBoat", "(LCanalLocks$Fleet;II)V"⟩, 8), (⟨"CanalLocks", "beginChange", "(III)V"⟩, 9), (⟨"CanalLocks$Flight", "faultOfBoat", "(II)I"⟩, 4), (⟨"CanalLocks$Flight", "faultOfValve", "(II)I"⟩, 4), (⟨"CanalLocks$Flight", "faultOfOpening", "(I)I"⟩, 4), (⟨"CanalLocks$Flight", "faultOfShutting", "(I)I"⟩, 4), (⟨"CanalLocks$Flight", "turnValve", "(II)I"⟩, 4), (⟨"CanalLocks$Flight", "moveGate", "(IZ)I"⟩, 4), (⟨"CanalLocks$Flight", "changeRain", "(I)I"⟩, 4), (⟨"CanalLocks$Flight", "changeDrain", "(I)I"⟩, 4), (⟨"CanalLocks$Flight", "passWeather", "()V"⟩, 4), (⟨"CanalLocks$Flight", "passGates", "()V"⟩, 4), (⟨"CanalLocks$Flight", "mayPass", "(II)Z"⟩, 4), (⟨"CanalLocks$Flight", "pass", "(I)V"⟩, 4)]
theorem lw_r1 : ∀ q ∈ lw_privs_1, lw_okq q := List.forall_mem_cons.mpr ⟨lw_p0, List.forall_mem_cons.mpr ⟨lw_p1, List.forall_mem_cons.mpr ⟨lw_p2, List.forall_mem_cons.mpr ⟨lw_p3, List.forall_mem_cons.mpr ⟨lw_p4, List.forall_mem_cons.mpr ⟨lw_p5, List.forall_mem_cons.mpr ⟨lw_p6, List.forall_mem_cons.mpr ⟨lw_p7, List.forall_mem_cons.mpr ⟨lw_p8, List.forall_mem_cons.mpr ⟨lw_p9, List.forall_mem_cons.mpr ⟨lw_p10, List.forall_mem_cons.mpr ⟨lw_p11, List.forall_mem_cons.mpr ⟨lw_p12, List.forall_mem_cons.mpr ⟨lw_p13, List.forall_mem_cons.mpr ⟨lw_p14, List.forall_mem_cons.mpr ⟨lw_p15, fun _ h => absurd h List.not_mem_nil⟩⟩⟩⟩⟩⟩⟩⟩⟩⟩⟩⟩⟩⟩⟩⟩
theorem lw_p16 : lw_okq (⟨"CanalLocks", "needBoat", "(I)V"⟩, 9) := ⟨⟨by decide +kernel, by decide +kernel⟩, List.mem_of_getElem? (i := 33) (by decide +kernel), List.mem_of_getElem? (i := 1152) (by decide +kernel), List.mem_of_getElem? (i := 1153) (by decide +kernel)⟩
theorem lw_p17 : lw_okq (⟨"CanalLocks", "needEvent", "(I)V"⟩, 9) := ⟨⟨by decide +kernel, by decide +kernel⟩, List.mem_of_getElem? (i := 33) (by decide +kernel), List.mem_of_getElem? (i := 1255) (by decide +kernel), List.mem_of_getElem? (i := 1256) (by decide +kernel)⟩
theorem lw_p18 : lw_okq (⟨"CanalLocks$Script", "readCommand", "()Z"⟩, 9) := ⟨⟨by decide +kernel, by decide +kernel⟩, List.mem_of_getElem? (i := 196) (by decide +kernel), List.mem_of_getElem? (i := 1319) (by decide +kernel), List.mem_of_getElem? (i := 1320) (by decide +kernel)⟩
theorem lw_p19 : lw_okq (⟨"CanalLocks$Script", "readBoat", "()Z"⟩, 9) := ⟨⟨by decide +kernel, by decide +kernel⟩, List.mem_of_getElem? (i := 196) (by decide +kernel), List.mem_of_getElem? (i := 1323) (by decide +kernel), List.mem_of_getElem? (i := 1324) (by decide +kernel)⟩
theorem lw_p20 : lw_okq (⟨"CanalLocks$Script", "readWord", "(Ljava/lang/String;)Z"⟩, 9) := ⟨⟨by decide +kernel, by decide +kernel⟩, List.mem_of_getElem? (i := 196) (by decide +kernel), List.mem_of_getElem? (i := 1328) (by decide +kernel), List.mem_of_getElem? (i := 1329) (by decide +kernel)⟩
theorem lw_p21 : lw_okq (⟨"CanalLocks$Script", "readOneOf", "(Ljava/lang/String;)Z"⟩, 9) := ⟨⟨by decide +kernel, by decide +kernel⟩, List.mem_of_getElem? (i := 196) (by decide +kernel), List.mem_of_getElem? (i := 1349) (by decide +kernel), List.mem_of_getElem? (i := 1350) (by decide +kernel)⟩
theorem lw_p22 : lw_okq (⟨"CanalLocks$Script", "readValve", "()Z"⟩, 9) := ⟨⟨by decide +kernel, by decide +kernel⟩, List.mem_of_getElem? (i := 196) (by decide +kernel), List.mem_of_getElem? (i := 1402) (by decide +kernel), List.mem_of_getElem? (i := 1403) (by decide +kernel)⟩
theorem lw_p23 : lw_okq (⟨"CanalLocks$Script", "readFirst", "()Z"⟩, 9) := ⟨⟨by decide +kernel, by decide +kernel⟩, List.mem_of_getElem? (i := 196) (by decide +kernel), List.mem_of_getElem? (i := 1407) (by decide +kernel), List.mem_of_getElem? (i := 1408) (by decide +kernel)⟩
theorem lw_p24 : lw_okq (⟨"CanalLocks$Script", "readWait", "()Z"⟩, 9) := ⟨⟨by decide +kernel, by decide +kernel⟩, List.mem_of_getElem? (i := 196) (by decide +kernel), List.mem_of_getElem? (i := 1415) (by decide +kernel), List.mem_of_getElem? (i := 1416) (by decide +kernel)⟩
theorem lw_p25 : lw_okq (⟨"CanalLocksModel", "begins", "()V"⟩, 16) := ⟨⟨by decide +kernel, by decide +kernel⟩, List.mem_of_getElem? (i := 1459) (by decide +kernel), List.mem_of_getElem? (i := 1522) (by decide +kernel), List.mem_of_getElem? (i := 1523) (by decide +kernel)⟩
theorem lw_p26 : lw_okq (⟨"CanalLocksModel", "copies", "(II)V"⟩, 16) := ⟨⟨by decide +kernel, by decide +kernel⟩, List.mem_of_getElem? (i := 1459) (by decide +kernel), List.mem_of_getElem? (i := 1526) (by decide +kernel), List.mem_of_getElem? (i := 1527) (by decide +kernel)⟩
theorem lw_p27 : lw_okq (⟨"CanalLocksModel", "adds", "(III)I"⟩, 16) := ⟨⟨by decide +kernel, by decide +kernel⟩, List.mem_of_getElem? (i := 1459) (by decide +kernel), List.mem_of_getElem? (i := 1533) (by decide +kernel), List.mem_of_getElem? (i := 1534) (by decide +kernel)⟩
theorem lw_p28 : lw_okq (⟨"CanalLocksModel", "set", "(III)V"⟩, 16) := ⟨⟨by decide +kernel, by decide +kernel⟩, List.mem_of_getElem? (i := 1459) (by decide +kernel), List.mem_of_getElem? (i := 1540) (by decide +kernel), List.mem_of_getElem? (i := 1541) (by decide +kernel)⟩
theorem lw_p29 : lw_okq (⟨"CanalLocksModel", "ends", "(IIIII)I"⟩, 16) := ⟨⟨by decide +kernel, by decide +kernel⟩, List.mem_of_getElem? (i := 1459) (by decide +kernel), List.mem_of_getElem? (i := 1544) (by decide +kernel), List.mem_of_getElem? (i := 1545) (by decide +kernel)⟩
theorem lw_p30 : lw_okq (⟨"CanalLocksModel", "turns", "(II)I"⟩, 16) := ⟨⟨by decide +kernel, by decide +kernel⟩, List.mem_of_getElem? (i := 1459) (by decide +kernel), List.mem_of_getElem? (i := 1552) (by decide +kernel), List.mem_of_getElem? (i := 1553) (by decide +kernel)⟩
theorem lw_p31 : lw_okq (⟨"CanalLocksModel", "opens", "(I)I"⟩, 16) := ⟨⟨by decide +kernel, by decide +kernel⟩, List.mem_of_getElem? (i := 1459) (by decide +kernel), List.mem_of_getElem? (i := 1563) (by decide +kernel), List.mem_of_getElem? (i := 1564) (by decide +kernel)⟩
def lw_privs_2 : List (MethodName × Nat) := [(⟨"CanalLocks", "needBoat", "(I)V"⟩, 9), (⟨"CanalLocks", "needEvent", "(I)V"⟩, 9), (⟨"CanalLocks$Script", "readCommand", "()Z"⟩, 9), (⟨"CanalLocks$Script", "readBoat", "()Z"⟩, 9), (⟨"CanalLocks$Script", "readWord", "(Ljava/lang/String;)Z"⟩, 9), (⟨"CanalLocks$Script", "readOneOf", "(Ljava/lang/String;)Z"⟩, 9), (⟨"CanalLocks$Script", "readValve", "()Z"⟩, 9), (⟨"CanalLocks$Script", "readFirst", "()Z"⟩, 9), (⟨"CanalLocks$Script", "readWait", "()Z"⟩, 9), (⟨"CanalLocksModel", "begins", "()V"⟩, 16), (⟨"CanalLocksModel", "copies", "(II)V"⟩, 16), (⟨"CanalLocksModel", "adds", "(III)I"⟩, 16), (⟨"CanalLocksModel", "set", "(III)V"⟩, 16), (⟨"CanalLocksModel", "ends", "(IIIII)I"⟩, 16), (⟨"CanalLocksModel", "turns", "(II)I"⟩, 16), (⟨"CanalLocksModel", "opens", "(I)I"⟩, 16)]
theorem lw_r2 : ∀ q ∈ lw_privs_2, lw_okq q := List.forall_mem_cons.mpr ⟨lw_p16, List.forall_mem_cons.mpr ⟨lw_p17, List.forall_mem_cons.mpr ⟨lw_p18, List.forall_mem_cons.mpr ⟨lw_p19, List.forall_mem_cons.mpr ⟨lw_p20, List.forall_mem_cons.mpr ⟨lw_p21, List.forall_mem_cons.mpr ⟨lw_p22, List.forall_mem_cons.mpr ⟨lw_p23, List.forall_mem_cons.mpr ⟨lw_p24, List.forall_mem_cons.mpr ⟨lw_p25, List.forall_mem_cons.mpr ⟨lw_p26, List.forall_mem_cons.mpr ⟨lw_p27, List.forall_mem_cons.mpr ⟨lw_p28, List.forall_mem_cons.mpr ⟨lw_p29, List.forall_mem_cons.mpr ⟨lw_p30, List.forall_mem_cons.mpr ⟨lw_p31, fun _ h => absurd h List.not_mem_nil⟩⟩⟩⟩⟩⟩⟩⟩⟩⟩⟩⟩⟩⟩⟩⟩
theorem lw_p32 : lw_okq (⟨"CanalLocksModel", "equal", "(I)I"⟩, 16) := ⟨⟨by decide +kernel, by decide +kernel⟩, List.mem_of_getElem? (i := 1459) (by decide +kernel), List.mem_of_getElem? (i := 1567) (by decide +kernel), List.mem_of_getElem? (i := 1568) (by decide +kernel)⟩
theorem lw_p33 : lw_okq (⟨"CanalLocksModel", "above", "(II)I"⟩, 16) := ⟨⟨by decide +kernel, by decide +kernel⟩, List.mem_of_getElem? (i := 1459) (by decide +kernel), List.mem_of_getElem? (i := 1571) (by decide +kernel), List.mem_of_getElem? (i := 1572) (by decide +kernel)⟩
theorem lw_p34 : lw_okq (⟨"CanalLocksModel", "openGates", "()I"⟩, 16) := ⟨⟨by decide +kernel, by decide +kernel⟩, List.mem_of_getElem? (i := 1459) (by decide +kernel), List.mem_of_getElem? (i := 1578) (by decide +kernel), List.mem_of_getElem? (i := 1579) (by decide +kernel)⟩
theorem lw_p35 : lw_okq (⟨"CanalLocksModel", "shuts", "(I)I"⟩, 16) := ⟨⟨by decide +kernel, by decide +kernel⟩, List.mem_of_getElem? (i := 1459) (by decide +kernel), List.mem_of_getElem? (i := 1586) (by decide +kernel), List.mem_of_getElem? (i := 1587) (by decide +kernel)⟩
theorem lw_p36 : lw_okq (⟨"CanalLocksModel", "weather", "(II)I"⟩, 16) := ⟨⟨by decide +kernel, by decide +kernel⟩, List.mem_of_getElem? (i := 1459) (by decide +kernel), List.mem_of_getElem? (i := 1594) (by decide +kernel), List.mem_of_getElem? (i := 1595) (by decide +kernel)⟩
theorem lw_p37 : lw_okq (⟨"CanalLocksModel", "waits", "(I)I"⟩, 16) := ⟨⟨by decide +kernel, by decide +kernel⟩, List.mem_of_getElem? (i := 1459) (by decide +kernel), List.mem_of_getElem? (i := 1606) (by decide +kernel), List.mem_of_getElem? (i := 1607) (by decide +kernel)⟩
theorem lw_p38 : lw_okq (⟨"CanalLocksModel", "ticks", "()I"⟩, 16) := ⟨⟨by decide +kernel, by decide +kernel⟩, List.mem_of_getElem? (i := 1459) (by decide +kernel), List.mem_of_getElem? (i := 1610) (by decide +kernel), List.mem_of_getElem? (i := 1611) (by decide +kernel)⟩
theorem lw_p39 : lw_okq (⟨"CanalLocksModel", "rains", "()V"⟩, 16) := ⟨⟨by decide +kernel, by decide +kernel⟩, List.mem_of_getElem? (i := 1459) (by decide +kernel), List.mem_of_getElem? (i := 1614) (by decide +kernel), List.mem_of_getElem? (i := 1615) (by decide +kernel)⟩
theorem lw_p40 : lw_okq (⟨"CanalLocksModel", "happens", "(II)V"⟩, 16) := ⟨⟨by decide +kernel, by decide +kernel⟩, List.mem_of_getElem? (i := 1459) (by decide +kernel), List.mem_of_getElem? (i := 1618) (by decide +kernel), List.mem_of_getElem? (i := 1619) (by decide +kernel)⟩
theorem lw_p41 : lw_okq (⟨"CanalLocksModel", "flows", "(I)I"⟩, 16) := ⟨⟨by decide +kernel, by decide +kernel⟩, List.mem_of_getElem? (i := 1459) (by decide +kernel), List.mem_of_getElem? (i := 1622) (by decide +kernel), List.mem_of_getElem? (i := 1623) (by decide +kernel)⟩
theorem lw_p42 : lw_okq (⟨"CanalLocksModel", "b", "(II)I"⟩, 16) := ⟨⟨by decide +kernel, by decide +kernel⟩, List.mem_of_getElem? (i := 1459) (by decide +kernel), List.mem_of_getElem? (i := 1626) (by decide +kernel), List.mem_of_getElem? (i := 1627) (by decide +kernel)⟩
theorem lw_p43 : lw_okq (⟨"CanalLocksModel", "passes", "(I)Z"⟩, 16) := ⟨⟨by decide +kernel, by decide +kernel⟩, List.mem_of_getElem? (i := 1459) (by decide +kernel), List.mem_of_getElem? (i := 1630) (by decide +kernel), List.mem_of_getElem? (i := 1631) (by decide +kernel)⟩
theorem lw_p44 : lw_okq (⟨"CanalLocksModel", "inBasin", "(I)I"⟩, 16) := ⟨⟨by decide +kernel, by decide +kernel⟩, List.mem_of_getElem? (i := 1459) (by decide +kernel), List.mem_of_getElem? (i := 1634) (by decide +kernel), List.mem_of_getElem? (i := 1635) (by decide +kernel)⟩
theorem lw_p45 : lw_okq (⟨"CanalLocksModel", "isDeep", "(II)Z"⟩, 16) := ⟨⟨by decide +kernel, by decide +kernel⟩, List.mem_of_getElem? (i := 1459) (by decide +kernel), List.mem_of_getElem? (i := 1638) (by decide +kernel), List.mem_of_getElem? (i := 1639) (by decide +kernel)⟩
theorem lw_p46 : lw_okq (⟨"CanalLocksModel", "leaves", "(I)V"⟩, 16) := ⟨⟨by decide +kernel, by decide +kernel⟩, List.mem_of_getElem? (i := 1459) (by decide +kernel), List.mem_of_getElem? (i := 1642) (by decide +kernel), List.mem_of_getElem? (i := 1643) (by decide +kernel)⟩
theorem lw_p47 : lw_okq (⟨"CanalLocksModel", "isFine", "(Z)Z"⟩, 16) := ⟨⟨by decide +kernel, by decide +kernel⟩, List.mem_of_getElem? (i := 1459) (by decide +kernel), List.mem_of_getElem? (i := 1653) (by decide +kernel), List.mem_of_getElem? (i := 1654) (by decide +kernel)⟩
def lw_privs_3 : List (MethodName × Nat) := [(⟨"CanalLocksModel", "equal", "(I)I"⟩, 16), (⟨"CanalLocksModel", "above", "(II)I"⟩, 16), (⟨"CanalLocksModel", "openGates", "()I"⟩, 16), (⟨"CanalLocksModel", "shuts", "(I)I"⟩, 16), (⟨"CanalLocksModel", "weather", "(II)I"⟩, 16), (⟨"CanalLocksModel", "waits", "(I)I"⟩, 16), (⟨"CanalLocksModel", "ticks", "()I"⟩, 16), (⟨"CanalLocksModel", "rains", "()V"⟩, 16), (⟨"CanalLocksModel", "happens", "(II)V"⟩, 16), (⟨"CanalLocksModel", "flows", "(I)I"⟩, 16), (⟨"CanalLocksModel", "b", "(II)I"⟩, 16), (⟨"CanalLocksModel", "passes", "(I)Z"⟩, 16), (⟨"CanalLocksModel", "inBasin", "(I)I"⟩, 16), (⟨"CanalLocksModel", "isDeep", "(II)Z"⟩, 16), (⟨"CanalLocksModel", "leaves", "(I)V"⟩, 16), (⟨"CanalLocksModel", "isFine", "(Z)Z"⟩, 16)]
theorem lw_r3 : ∀ q ∈ lw_privs_3, lw_okq q := List.forall_mem_cons.mpr ⟨lw_p32, List.forall_mem_cons.mpr ⟨lw_p33, List.forall_mem_cons.mpr ⟨lw_p34, List.forall_mem_cons.mpr ⟨lw_p35, List.forall_mem_cons.mpr ⟨lw_p36, List.forall_mem_cons.mpr ⟨lw_p37, List.forall_mem_cons.mpr ⟨lw_p38, List.forall_mem_cons.mpr ⟨lw_p39, List.forall_mem_cons.mpr ⟨lw_p40, List.forall_mem_cons.mpr ⟨lw_p41, List.forall_mem_cons.mpr ⟨lw_p42, List.forall_mem_cons.mpr ⟨lw_p43, List.forall_mem_cons.mpr ⟨lw_p44, List.forall_mem_cons.mpr ⟨lw_p45, List.forall_mem_cons.mpr ⟨lw_p46, List.forall_mem_cons.mpr ⟨lw_p47, fun _ h => absurd h List.not_mem_nil⟩⟩⟩⟩⟩⟩⟩⟩⟩⟩⟩⟩⟩⟩⟩⟩
theorem lw_p48 : lw_okq (⟨"CanalLocksModel", "told", "(I)I"⟩, 16) := ⟨⟨by decide +kernel, by decide +kernel⟩, List.mem_of_getElem? (i := 1459) (by decide +kernel), List.mem_of_getElem? (i := 1698) (by decide +kernel), List.mem_of_getElem? (i := 1699) (by decide +kernel)⟩
theorem lw_p49 : lw_okq (⟨"CanalLocksModel", "sum", "()I"⟩, 16) := ⟨⟨by decide +kernel, by decide +kernel⟩, List.mem_of_getElem? (i := 1459) (by decide +kernel), List.mem_of_getElem? (i := 1710) (by decide +kernel), List.mem_of_getElem? (i := 1711) (by decide +kernel)⟩
theorem lw_p50 : lw_okq (⟨"CanalLocksModel", "isBoat", "(I)Z"⟩, 16) := ⟨⟨by decide +kernel, by decide +kernel⟩, List.mem_of_getElem? (i := 1459) (by decide +kernel), List.mem_of_getElem? (i := 1743) (by decide +kernel), List.mem_of_getElem? (i := 1744) (by decide +kernel)⟩
theorem lw_p51 : lw_okq (⟨"CanalLocksModel", "ofBoat", "(II)I"⟩, 16) := ⟨⟨by decide +kernel, by decide +kernel⟩, List.mem_of_getElem? (i := 1459) (by decide +kernel), List.mem_of_getElem? (i := 1754) (by decide +kernel), List.mem_of_getElem? (i := 1755) (by decide +kernel)⟩
theorem lw_p52 : lw_okq (⟨"CanalLocksModel", "isMarked", "()Z"⟩, 16) := ⟨⟨by decide +kernel, by decide +kernel⟩, List.mem_of_getElem? (i := 1459) (by decide +kernel), List.mem_of_getElem? (i := 1786) (by decide +kernel), List.mem_of_getElem? (i := 1787) (by decide +kernel)⟩
theorem lw_p53 : lw_okq (⟨"CanalLocksModel", "isEvent", "(I)Z"⟩, 16) := ⟨⟨by decide +kernel, by decide +kernel⟩, List.mem_of_getElem? (i := 1459) (by decide +kernel), List.mem_of_getElem? (i := 1806) (by decide +kernel), List.mem_of_getElem? (i := 1807) (by decide +kernel)⟩
theorem lw_p54 : lw_okq (⟨"CanalLocksModel", "writes", "(I)V"⟩, 16) := ⟨⟨by decide +kernel, by decide +kernel⟩, List.mem_of_getElem? (i := 1459) (by decide +kernel), List.mem_of_getElem? (i := 1831) (by decide +kernel), List.mem_of_getElem? (i := 1832) (by decide +kernel)⟩
theorem lw_p55 : lw_okq (⟨"CanalLocksModel", "writesNumber", "(I)V"⟩, 16) := ⟨⟨by decide +kernel, by decide +kernel⟩, List.mem_of_getElem? (i := 1459) (by decide +kernel), List.mem_of_getElem? (i := 1835) (by decide +kernel), List.mem_of_getElem? (i := 1836) (by decide +kernel)⟩
theorem lw_p56 : lw_okq (⟨"CanalLocksModel", "parse", "()V"⟩, 16) := ⟨⟨by decide +kernel, by decide +kernel⟩, List.mem_of_getElem? (i := 1459) (by decide +kernel), List.mem_of_getElem? (i := 1855) (by decide +kernel), List.mem_of_getElem? (i := 1856) (by decide +kernel)⟩
theorem lw_p57 : lw_okq (⟨"CanalLocksModel", "command", "()V"⟩, 16) := ⟨⟨by decide +kernel, by decide +kernel⟩, List.mem_of_getElem? (i := 1459) (by decide +kernel), List.mem_of_getElem? (i := 1859) (by decide +kernel), List.mem_of_getElem? (i := 1860) (by decide +kernel)⟩
theorem lw_p58 : lw_okq (⟨"CanalLocksModel", "sign", "()I"⟩, 16) := ⟨⟨by decide +kernel, by decide +kernel⟩, List.mem_of_getElem? (i := 1459) (by decide +kernel), List.mem_of_getElem? (i := 1863) (by decide +kernel), List.mem_of_getElem? (i := 1864) (by decide +kernel)⟩
theorem lw_p59 : lw_okq (⟨"CanalLocksModel", "word", "(I)V"⟩, 16) := ⟨⟨by decide +kernel, by decide +kernel⟩, List.mem_of_getElem? (i := 1459) (by decide +kernel), List.mem_of_getElem? (i := 1867) (by decide +kernel), List.mem_of_getElem? (i := 1868) (by decide +kernel)⟩
theorem lw_p60 : lw_okq (⟨"CanalLocksModel", "letters", "(III)V"⟩, 16) := ⟨⟨by decide +kernel, by decide +kernel⟩, List.mem_of_getElem? (i := 1459) (by decide +kernel), List.mem_of_getElem? (i := 1871) (by decide +kernel), List.mem_of_getElem? (i := 1872) (by decide +kernel)⟩
theorem lw_p61 : lw_okq (⟨"CanalLocksModel", "needs", "(I)V"⟩, 16) := ⟨⟨by decide +kernel, by decide +kernel⟩, List.mem_of_getElem? (i := 1459) (by decide +kernel), List.mem_of_getElem? (i := 1875) (by decide +kernel), List.mem_of_getElem? (i := 1876) (by decide +kernel)⟩
theorem lw_p62 : lw_okq (⟨"CanalLocksModel", "oneOf", "(III)I"⟩, 16) := ⟨⟨by decide +kernel, by decide +kernel⟩, List.mem_of_getElem? (i := 1459) (by decide +kernel), List.mem_of_getElem? (i := 1879) (by decide +kernel), List.mem_of_getElem? (i := 1880) (by decide +kernel)⟩
theorem lw_p63 : lw_okq (⟨"CanalLocksModel", "number", "(I)I"⟩, 16) := ⟨⟨by decide +kernel, by decide +kernel⟩, List.mem_of_getElem? (i := 1459) (by decide +kernel), List.mem_of_getElem? (i := 1883) (by decide +kernel), List.mem_of_getElem? (i := 1884) (by decide +kernel)⟩
def lw_privs_4 : List (MethodName × Nat) := [(⟨"CanalLocksModel", "told", "(I)I"⟩, 16), (⟨"CanalLocksModel", "sum", "()I"⟩, 16), (⟨"CanalLocksModel", "isBoat", "(I)Z"⟩, 16), (⟨"CanalLocksModel", "ofBoat", "(II)I"⟩, 16), (⟨"CanalLocksModel", "isMarked", "()Z"⟩, 16), (⟨"CanalLocksModel", "isEvent", "(I)Z"⟩, 16), (⟨"CanalLocksModel", "writes", "(I)V"⟩, 16), (⟨"CanalLocksModel", "writesNumber", "(I)V"⟩, 16), (⟨"CanalLocksModel", "parse", "()V"⟩, 16), (⟨"CanalLocksModel", "command", "()V"⟩, 16), (⟨"CanalLocksModel", "sign", "()I"⟩, 16), (⟨"CanalLocksModel", "word", "(I)V"⟩, 16), (⟨"CanalLocksModel", "letters", "(III)V"⟩, 16), (⟨"CanalLocksModel", "needs", "(I)V"⟩, 16), (⟨"CanalLocksModel", "oneOf", "(III)I"⟩, 16), (⟨"CanalLocksModel", "number", "(I)I"⟩, 16)]
theorem lw_r4 : ∀ q ∈ lw_privs_4, lw_okq q := List.forall_mem_cons.mpr ⟨lw_p48, List.forall_mem_cons.mpr ⟨lw_p49, List.forall_mem_cons.mpr ⟨lw_p50, List.forall_mem_cons.mpr ⟨lw_p51, List.forall_mem_cons.mpr ⟨lw_p52, List.forall_mem_cons.mpr ⟨lw_p53, List.forall_mem_cons.mpr ⟨lw_p54, List.forall_mem_cons.mpr ⟨lw_p55, List.forall_mem_cons.mpr ⟨lw_p56, List.forall_mem_cons.mpr ⟨lw_p57, List.forall_mem_cons.mpr ⟨lw_p58, List.forall_mem_cons.mpr ⟨lw_p59, List.forall_mem_cons.mpr ⟨lw_p60, List.forall_mem_cons.mpr ⟨lw_p61, List.forall_mem_cons.mpr ⟨lw_p62, List.forall_mem_cons.mpr ⟨lw_p63, fun _ h => absurd h List.not_mem_nil⟩⟩⟩⟩⟩⟩⟩⟩⟩⟩⟩⟩⟩⟩⟩⟩
theorem lw_p64 : lw_okq (⟨"CanalLocksModel", "behind", "(I)I"⟩, 16) := ⟨⟨by decide +kernel, by decide +kernel⟩, List.mem_of_getElem? (i := 1459) (by decide +kernel), List.mem_of_getElem? (i := 1887) (by decide +kernel), List.mem_of_getElem? (i := 1888) (by decide +kernel)⟩
theorem lw_p65 : lw_okq (⟨"CanalLocksModel", "does", "(I)I"⟩, 16) := ⟨⟨by decide +kernel, by decide +kernel⟩, List.mem_of_getElem? (i := 1459) (by decide +kernel), List.mem_of_getElem? (i := 1891) (by decide +kernel), List.mem_of_getElem? (i := 1892) (by decide +kernel)⟩
def lw_privs_5 : List (MethodName × Nat) := [(⟨"CanalLocksModel", "behind", "(I)I"⟩, 16), (⟨"CanalLocksModel", "does", "(I)I"⟩, 16)]
theorem lw_r5 : ∀ q ∈ lw_privs_5, lw_okq q := List.forall_mem_cons.mpr ⟨lw_p64, List.forall_mem_cons.mpr ⟨lw_p65, fun _ h => absurd h List.not_mem_nil⟩⟩
def lw_privs : List (MethodName × Nat) := lw_privs_1 ++ (lw_privs_2 ++ (lw_privs_3 ++ (lw_privs_4 ++ (lw_privs_5))))
def lw_tbl : List Cond := k2_sels lw_privs ++ tables_1
theorem lw_privs_ok : ∀ q ∈ lw_privs, lw_okq q := by
  show ∀ q ∈ lw_privs_1 ++ (lw_privs_2 ++ (lw_privs_3 ++ (lw_privs_4 ++ (lw_privs_5)))), lw_okq q
  exact List.forall_mem_append.mpr ⟨lw_r1, List.forall_mem_append.mpr ⟨lw_r2, List.forall_mem_append.mpr ⟨lw_r3, List.forall_mem_append.mpr ⟨lw_r4, lw_r5⟩⟩⟩⟩
/-- the streams that the claim lets the run draw from -/
abbrev lw_cs : List Choice := [Jvm.Choice.named "NaN.bits"]
theorem lw_bits : nanBits ∈ lw_cs := by first | decide | exact List.mem_cons_self | simp [lw_cs, nanBits]
end
section
/-! ===== BEGIN words of one list among another's, by their places ===== -/
theorem goodIn_r {big : List Cond} (ws : List Cond) (ps : List Nat) (hp : ws = ps.filterMap (fun i => big[i]?)) (h : ws.all goodWord = true) : GoodIn big ws := by
  intro w hw
  have h1 := List.all_eq_true.mp h w hw
  rw [hp] at hw
  obtain ⟨i, -, hi⟩ := List.mem_filterMap.mp hw
  have hm : w ∈ big := by first | exact List.mem_of_getElem? hi | exact List.getElem?_mem hi
  exact ⟨hm, good_of_word h1⟩
theorem goodIn_app {big a b : List Cond} (ha : GoodIn big a) (hb : GoodIn big b) : GoodIn big (a ++ b) := fun w h => (List.mem_append.mp h).elim (ha w) (hb w)
theorem goodIn_ca {big a b : List Cond} {c : Cond} (ha : GoodIn big (c :: a)) (hb : GoodIn big b) : GoodIn big (c :: (a ++ b)) := fun w h => (List.mem_cons.mp h).elim (fun e => ha w (List.mem_cons.mpr (Or.inl e))) (fun h => (List.mem_append.mp h).elim (fun h => ha w (List.mem_cons.mpr (Or.inr h))) (hb w))
theorem goodIn_sub {big ws : List Cond} (hm : ∀ w ∈ ws, w ∈ big) (h : ws.all goodWord = true) : GoodIn big ws := fun w hw => ⟨hm w hw, good_of_word (List.all_eq_true.mp h w hw)⟩
/-! ===== END ===== -/

/-! ===== BEGIN exceptions that leave a method, and their catching by the caller (launches without stack traces) ===== -/
section VXA
/-! The laws vx_back, vx_callV, vx_callS, vx_callSW, vx_throw0, vx_throwS follow proofs of the library, with one case more: JvmDerived/Free/Laws.lean (Back.of_free), Shelf42/LK1.lean (callV, callS), Shelf/KitTraced.lean (throwNew0V, throwNewS). -/
/-- where a method has thrown q: the class by its name, the cell, what was written, the world -/
def vx_T (XC : String → State → State → Prop) (st : State) (q : Addr) (t : State) (mc ms : Nat) (free : Addr → Prop) : Prop :=
  ∃ (E : String) (ce : Cell) (L : List Loc), XC E st t ∧ t.heap[q]? = some ce ∧ ce.vm = .none ∧ st.vm.findClass E = some ce.cls ∧ st.WarmedH t.vm ∧ st.sameButNew ({ t with vm := st.vm } : State) L mc ms ∧ ∀ z ∈ L, free z.base
def vx_Q (Qc : Array Value → State → Outcome → State → Prop) (XC : String → State → State → Prop) (mc ms : Nat) (free : Addr → Prop) : Array Value → State → Outcome → State → Prop := fun a st o t =>
  (Qc a st o t ∧ ∃ L, FrameEnd st o t L mc ms ∧ ∀ q ∈ L, free q.base) ∨ ∃ q, o = .threw q ∧ vx_T XC st q t mc ms free
/-- a callee that returns or throws -/
def vx_Met (l : Launch) (y : MethodName) (ws : List Cond) (rm : Room) (Pc : Array Value → State → Prop) (Qc : Array Value → State → Outcome → State → Prop) (XC : String → State → State → Prop) (mc ms : Nat) (free : Addr → Prop) : Prop :=
  MetFree l y (headSpec ws rm) Pc (fun _ _ _ _ _ => True) (vx_Q Qc XC mc ms free)
def vx_Post (XC : String → State → State → Prop) (mc ms : Nat) (free : Addr → Prop) : Pt → Array Value → Addr → Pt → Prop := fun A a q B =>
  ∃ (g : JFrame) (mk : MethodId) (t : State) (L : List Loc) (E : String) (ce : Cell), B.U.heap = t.heap ∧ B.U.vm = t.vm ∧ XC E (A.U.calling g mk a) t ∧ t.heap[q]? = some ce ∧ ce.vm = .none ∧ A.U.vm.findClass E = some ce.cls ∧ B.locs = A.locs ++ L ∧ (∀ z ∈ L, free z.base) ∧ B.cells = A.cells + mc ∧ B.slots = A.slots + ms
def vx_Back (l : Launch) (R : Room) (p : Program) (e : Env) (below : List Frame) (s : State) (sargs : Array Value) (y : MethodName) (len W9 : Nat)
    (Pre : Pt → Array Value → Prop) (Post : Pt → Array Value → Option Value → Pt → Prop) (PostX : Pt → Array Value → Addr → Pt → Prop) : Prop :=
  ∀ (m : MethodId) (meth : Method) (c : Code) (A : Pt) (g : JFrame) (ig : Instr) (mk : MethodId) (a : Array Value),
    Stand p l e R s m sargs below meth c A.U A.locs A.cells A.slots → g.method = m → g.locals.size = c.maxLocals → decode c.code g.pc = .ok (ig, len) →
    2 * g.monitorRoom + (g.stack.map fun v => v.category).sum ≤ W9 → A.U.methodNamed? y = some mk → Pre A a →
    (∃ (v : Option Value) (B : Pt), Stand p l e R s m sargs below meth c B.U B.locs B.cells B.slots ∧ Post A a v B ∧
      Steps p.tables e below (doInvoke e (A.U.setTop g) [] mk a).1 (B.U.setTop { g with pc := g.pc + len, stack := v.toList ++ g.stack })) ∨
    (∃ (q : Addr) (B : Pt), Stand p l e R s m sargs below meth c B.U B.locs B.cells B.slots ∧ PostX A a q B ∧
      Steps p.tables e below (doInvoke e (A.U.setTop g) [] mk a).1 ((B.U.setTop g).pushFrame (.throwing q)))
section Payer
variable {l : Launch} {R : Room} {p : Program} {e : Env} {below : List Frame} {s : State} {sargs : Array Value} {y : MethodName} {len W9 : Nat}
theorem vx_back {ws : List Cond} {rm : Room} {Pc : Array Value → State → Prop} {Qc : Array Value → State → Outcome → State → Prop} {XC : String → State → State → Prop} {mc ms : Nat} {free : Addr → Prop} {bytes : ByteArray} {maxL : Nat} {ret : Option FieldType}
    (hM : vx_Met l y ws rm Pc Qc XC mc ms free) (hblind : FrameBlind Pc) (hrc : rm.cells = mc) (hrs : rm.slots = ms)
    (hframes : rm.frames + 1 ≤ R.frames) (hlocals : W9 + (maxL + 11) + rm.locals ≤ R.locals)
    (hws : ∀ w ∈ ws, ∀ a' U, s.WarmedH U.vm → w.before a' U = true) (hcode : Cond.code y bytes maxL ret ∈ ws) (hinit : ∀ a' U, s.WarmedH U.vm → (Cond.initialized y.cls).before a' U = true) :
    vx_Back l R p e below s sargs y len W9 (PreOf R mc ms Pc) (PostOf Qc mc ms free) (vx_Post XC mc ms free) := by
  intro m meth c A g ig mk a X hg hsize hdg hW hn hp
  have h1 : (headSpec ws rm).pre.before a A.U = true := atoms_intro fun w hw => hws w hw _ _ X.warmed
  have h2 : (Cond.code y bytes maxL ret).before a A.U = true := hws _ hcode _ _ X.warmed
  have h3 : (Cond.initialized y.cls).before a A.U = true := hinit _ _ X.warmed
  have h4 : A.cells + (headSpec ws rm).room.cells ≤ R.cells := by rw [show (headSpec ws rm).room.cells = mc from hrc]; exact hp.1
  have h5 : A.slots + (headSpec ws rm).room.slots ≤ R.slots := by rw [show (headSpec ws rm).room.slots = ms from hrs]; exact hp.2.1
  have hPc : Pc a (A.U.calling g mk a) := hblind _ _ _ _ hp.2.2
  obtain ⟨U, Ls, c0, s0⟩ := A
  dsimp only [Pt.U, Pt.locs, Pt.cells, Pt.slots] at h1 h2 h3 h4 h5 X hn hPc ⊢
  obtain ⟨methY, cY, hmY, hcY, -, hlY, -, -, -, -⟩ := Cond.code_spec hn h2
  obtain ⟨kY, hkY, -⟩ := className_of_methodNamed hn
  have hinitY : kY.init = .initialized := Cond.initialized_spec (findClass_of_methodNamed hn) hkY h3
  have h : At U g.method c below := by rw [hg]; exact X.here
  have hlocals9 : W9 + (maxL + 11) + (headSpec ws rm).room.locals ≤ R.locals := hlocals
  have happ : (headSpec ws rm).appliesLoose y e.platform (U.calling g mk a) = true :=
    Spec.appliesLoose_calling (g := g) h hdg hn hkY hinitY
      (X.room_calling (g := g) (R' := (headSpec ws rm).room) hsize hmY hcY hframes (by rw [hlY]; omega) h4 h5) h1
  obtain ⟨mid, hmid⟩ := h.above
  have hfr : (U.setTop g).frames = (.java g :: mid) ++ below := by rw [State.frames_setTop' g h.top, hmid]; rfl
  obtain ⟨o, s₂, hsteps, -, hend, hq⟩ := Steps.callFree hM p X.admits X.cas X.clock (acts := []) hfr happ hPc trivial
  have hq' : vx_Q Qc XC mc ms free a (U.calling g mk a) o s₂ := hq
  rw [State.frames_setTop' g h.top] at hend
  obtain ⟨g₀, hg0⟩ := Option.isSome_iff_exists.mp h.top
  obtain ⟨r, hr⟩ := State.topJava?_eq_some.mp hg0
  have hr' : (({ U with heap := s₂.heap, slotsUsed := s₂.slotsUsed } : State).setVm s₂.vm).frames = .java g₀ :: r := hr
  rcases hq' with ⟨hqc, L, hfe, hL⟩ | ⟨q, rfl, E, ce, L, hx, hce, hcv, hcl, hW₂, hsm, hL⟩
  · obtain ⟨⟨v, rfl⟩, hW₂, e2, q2, q3, q4, q5, q6⟩ := id hfe
    have e3 : s₂ = ({ (U.calling g mk a).setFrames s₂.frames with heap := s₂.heap, slotsUsed := s₂.slotsUsed } : State).setVm s₂.vm := by
      have : s₂ = ({ s₂ with vm := (U.calling g mk a).vm } : State).setVm s₂.vm := rfl
      rw [e2] at this
      exact this
    obtain ⟨c₂, i₂, len₂, hc₂, hd₂, hf₂⟩ := hend
    have hW' : U.WarmedH s₂.vm := hW₂
    have hcc : c₂ = c := by
      have h1 : s₂.code? g.method = U.code? g.method := by
        rw [State.code?_eq, State.code?_eq, hW'.alike.method?]
      exact Option.some.inj (hc₂.symm.trans (h1.trans h.code))
    subst hcc
    have hlen : len₂ = len := by rw [hdg] at hd₂; cases hd₂; rfl
    subst hlen
    have hs₂ : s₂ = (({ U with heap := s₂.heap, slotsUsed := s₂.slotsUsed } : State).setVm s₂.vm).setTop { g with pc := g.pc + len₂, stack := v.toList ++ g.stack } := by
      refine e3.trans ?_
      rw [hf₂, State.calling_eq h.top, State.setFrames_setFrames, State.setTop_of_frames _ hr', hr]
      rfl
    have hsame : U.sameButNew ({ U with heap := s₂.heap, slotsUsed := s₂.slotsUsed } : State) L mc ms := by
      refine ⟨?_, q2, q3, q4, q5, q6⟩
      obtain ⟨t, ht, -⟩ := State.frames_cons hr
      show ({ U with heap := s₂.heap, slotsUsed := s₂.slotsUsed } : State) = { U.setFrames U.frames with heap := s₂.heap, slotsUsed := s₂.slotsUsed }
      rw [State.setFrames_self ht]
    subst hg
    refine Or.inl ⟨v, ⟨(({ U with heap := s₂.heap, slotsUsed := s₂.slotsUsed } : State).setVm s₂.vm), Ls ++ L, c0 + mc, s0 + ms⟩,
      ⟨X.admits, X.cas, X.clock, X.frames, X.room, X.hears, X.method, X.code, (X.here.setHeapUsed s₂.heap s₂.slotsUsed).setVm hW'.alike, X.tail, State.WarmedH.trans X.warmed hW', X.limits, X.bytes, X.same.trans (hsame.setVm s.vm)⟩,
      ⟨g, mk, s₂, L, rfl, rfl, hqc, rfl, hL, rfl, rfl⟩, ?_⟩
    show Steps p.tables e below _ ((({ U with heap := s₂.heap, slotsUsed := s₂.slotsUsed } : State).setVm s₂.vm).setTop { g with pc := g.pc + len₂, stack := v.toList ++ g.stack })
    rw [← hs₂]
    exact hsteps
  · obtain ⟨e2, q2, q3, q4, q5, q6⟩ := id hsm
    have e3 : s₂ = ({ (U.calling g mk a).setFrames s₂.frames with heap := s₂.heap, slotsUsed := s₂.slotsUsed } : State).setVm s₂.vm := by
      have : s₂ = ({ s₂ with vm := (U.calling g mk a).vm } : State).setVm s₂.vm := rfl
      rw [e2] at this
      exact this
    have hf₂ : s₂.frames = .throwing q :: .java g :: U.frames.tail := hend
    have hW' : U.WarmedH s₂.vm := hW₂
    have hs₂ : s₂ = ((({ U with heap := s₂.heap, slotsUsed := s₂.slotsUsed } : State).setVm s₂.vm).setTop g).pushFrame (.throwing q) := by
      refine e3.trans ?_
      rw [hf₂, State.calling_eq h.top, State.setFrames_setFrames, State.pushFrame, State.frames_setTop _ hr', State.setTop_of_frames _ hr', State.setFrames_setFrames, hr]
      rfl
    have hsame : U.sameButNew ({ U with heap := s₂.heap, slotsUsed := s₂.slotsUsed } : State) L mc ms := by
      refine ⟨?_, q2, q3, q4, q5, q6⟩
      obtain ⟨t, ht, -⟩ := State.frames_cons hr
      show ({ U with heap := s₂.heap, slotsUsed := s₂.slotsUsed } : State) = { U.setFrames U.frames with heap := s₂.heap, slotsUsed := s₂.slotsUsed }
      rw [State.setFrames_self ht]
    subst hg
    refine Or.inr ⟨q, ⟨(({ U with heap := s₂.heap, slotsUsed := s₂.slotsUsed } : State).setVm s₂.vm), Ls ++ L, c0 + mc, s0 + ms⟩,
      ⟨X.admits, X.cas, X.clock, X.frames, X.room, X.hears, X.method, X.code, (X.here.setHeapUsed s₂.heap s₂.slotsUsed).setVm hW'.alike, X.tail, State.WarmedH.trans X.warmed hW', X.limits, X.bytes, X.same.trans (hsame.setVm s.vm)⟩,
      ⟨g, mk, s₂, L, E, ce, rfl, rfl, hx, hce, hcv, hcl, rfl, hL, rfl, rfl⟩, ?_⟩
    show Steps p.tables e below _ (((({ U with heap := s₂.heap, slotsUsed := s₂.slotsUsed } : State).setVm s₂.vm).setTop g).pushFrame (.throwing q))
    rw [← hs₂]
    exact hsteps
end Payer
section Calls
variable {p : Program} {l : Launch} {e : Env} {R : Room} {s : State} {m : MethodId} {args : Array Value} {below : List Frame} {meth : Method} {c : Code} {T : State} {locs : List Loc} {cells slots : Nat}
theorem vx_callV (X : Stand p l e R s m args below meth c T locs cells slots) (hexec : p.tables.exec = Jvm.exec) {own C : String} {index : Nat} {y : MethodName} {bytes : ByteArray} {maxL : Nat} {ret : Option FieldType}
    (hown : s.vm.findClass own = some m.cls) (hlink : (Cond.methodLink own index y).before args s = true) (hinst : (Cond.instanceMethod y).before args s = true) (hsel : (Cond.selects C y y).before args s = true)
    (hcode : (Cond.code y bytes maxL ret).before args s = true) (hy : y.cls ≠ "java/lang/invoke/MethodHandle" ∧ y.cls ≠ "java/lang/invoke/VarHandle")
    {W9 : Nat} {Pre : Pt → Array Value → Prop} {Post : Pt → Array Value → Option Value → Pt → Prop} {PostX : Pt → Array Value → Addr → Pt → Prop} (hK : vx_Back l R p e below s args y 3 W9 Pre Post PostX)
    {b : Addr} {cellB : Cell} (hcell : T.heap[b]? = some cellB) (hobj : cellB.vm.isStatics = false) (hcls : s.vm.findClass C = some cellB.cls)
    {g : JFrame} (hg : g.method = m) (hsize : g.locals.size = c.maxLocals) {argsL rest : List Value} (hlen : ∀ sig, parseMethodDescriptor y.desc = some sig → argsL.length = sig.parameters.length)
    (hstack : g.stack = argsL.reverse ++ .ref b :: rest) (hW : 2 * g.monitorRoom + (rest.map fun v => v.category).sum ≤ W9) (hdg : decode c.code g.pc = .ok (.invokevirtual index, 3))
    (hpre : ∀ vm₁, s.WarmedH vm₁ → Pre ⟨T.setVm vm₁, locs, cells, slots⟩ (Value.ref b :: argsL).toArray) :
    (∃ (v : Option Value) (vm₁ : Vm) (B : Pt), s.WarmedH vm₁ ∧ Stand p l e R s m args below meth c B.U B.locs B.cells B.slots ∧ Post ⟨T.setVm vm₁, locs, cells, slots⟩ (Value.ref b :: argsL).toArray v B ∧
      ∀ target, Steps p.tables e below (B.U.setTop { g with pc := g.pc + 3, stack := v.toList ++ rest }) target → Steps p.tables e below (T.setTop g) target) ∨
    (∃ (q : Addr) (vm₁ : Vm) (B : Pt), s.WarmedH vm₁ ∧ Stand p l e R s m args below meth c B.U B.locs B.cells B.slots ∧ PostX ⟨T.setVm vm₁, locs, cells, slots⟩ (Value.ref b :: argsL).toArray q B ∧
      Steps p.tables e below (T.setTop g) ((B.U.setTop { g with stack := rest }).pushFrame (.throwing q))) := by
  obtain ⟨mk, methM, hnamed, hmethM, hstM, habM⟩ := Cond.instanceMethod_spec hinst
  obtain ⟨methM', cM, hmethM', -, -, -, -, -, -, hsigM⟩ := Cond.code_spec hnamed hcode
  cases hmethM.symm.trans hmethM'
  obtain ⟨c2, r2, m2, q1, q2, q3, q4, kP, hkP, hkPi⟩ := Cond.selects_spec hsel
  cases hcls.symm.trans q1
  cases (State.methodFound?_of_named hnamed hy).symm.trans q2
  cases hnamed.symm.trans q3
  have hselP : selectMethod e.platform s.vm cellB.cls mk = .method mk := by rw [Launch.admits_selectMethod X.admits]; exact q4
  obtain ⟨vm₁, X₁, hstep₁⟩ := X.invokevirtual hexec hown hlink hnamed hmethM hstM hkP hkPi hy (a := b) (cell := cellB) hcell
    (fun z h => by rw [h] at hobj; cases hobj) hselP hmethM habM hkP hkPi (g := g) hg (argsL := argsL) (rest := rest) (hlen _ hsigM) hstack hdg
  rcases hK m meth c ⟨T.setVm vm₁, locs, cells, slots⟩ { g with stack := rest } (.invokevirtual index) mk (Value.ref b :: argsL).toArray X₁ hg hsize hdg hW (X₁.named hnamed) (hpre vm₁ X₁.warmed) with ⟨v, B, X', hpost, hsteps⟩ | ⟨q, B, X', hpost, hsteps⟩
  · exact Or.inl ⟨v, vm₁, B, X₁.warmed, X', hpost, fun target h => hstep₁ _ fun acts => by rw [doInvoke_state]; exact hsteps.trans h⟩
  · exact Or.inr ⟨q, vm₁, B, X₁.warmed, X', hpost, hstep₁ _ fun acts => by rw [doInvoke_state]; exact hsteps⟩
theorem vx_callS (X : Stand p l e R s m args below meth c T locs cells slots) (hexec : p.tables.exec = Jvm.exec) {own : String} {index : Nat} {y : MethodName} {bytes : ByteArray} {maxL : Nat} {ret : Option FieldType}
    (hown : s.vm.findClass own = some m.cls) (hlink : (Cond.methodLink own index y).before args s = true) (hstat : (Cond.static y).before args s = true) (hinit : (Cond.initialized y.cls).before args s = true)
    (hcode : (Cond.code y bytes maxL ret).before args s = true) (hy : y.cls ≠ "java/lang/invoke/MethodHandle" ∧ y.cls ≠ "java/lang/invoke/VarHandle")
    {W9 : Nat} {Pre : Pt → Array Value → Prop} {Post : Pt → Array Value → Option Value → Pt → Prop} {PostX : Pt → Array Value → Addr → Pt → Prop} (hK : vx_Back l R p e below s args y 3 W9 Pre Post PostX)
    {g : JFrame} (hg : g.method = m) (hsize : g.locals.size = c.maxLocals) {argsL rest : List Value} (hlen : ∀ sig, parseMethodDescriptor y.desc = some sig → argsL.length = sig.parameters.length)
    (hstack : g.stack = argsL.reverse ++ rest) (hW : 2 * g.monitorRoom + (rest.map fun v => v.category).sum ≤ W9) (hdg : decode c.code g.pc = .ok (.invokestatic index, 3))
    (hpre : ∀ vm₁, s.WarmedH vm₁ → Pre ⟨T.setVm vm₁, locs, cells, slots⟩ argsL.toArray) :
    (∃ (v : Option Value) (vm₁ : Vm) (B : Pt), s.WarmedH vm₁ ∧ Stand p l e R s m args below meth c B.U B.locs B.cells B.slots ∧ Post ⟨T.setVm vm₁, locs, cells, slots⟩ argsL.toArray v B ∧
      ∀ target, Steps p.tables e below (B.U.setTop { g with pc := g.pc + 3, stack := v.toList ++ rest }) target → Steps p.tables e below (T.setTop g) target) ∨
    (∃ (q : Addr) (vm₁ : Vm) (B : Pt), s.WarmedH vm₁ ∧ Stand p l e R s m args below meth c B.U B.locs B.cells B.slots ∧ PostX ⟨T.setVm vm₁, locs, cells, slots⟩ argsL.toArray q B ∧
      Steps p.tables e below (T.setTop g) ((B.U.setTop { g with stack := rest }).pushFrame (.throwing q))) := by
  obtain ⟨mk, hnamed⟩ := Cond.code_named hcode
  obtain ⟨methM, cM, hmethM, -, -, -, -, -, -, hsigM⟩ := Cond.code_spec hnamed hcode
  have hstatic : methM.isStatic = true := Cond.static_spec hnamed hmethM hstat
  obtain ⟨kP, hkP, -⟩ := className_of_methodNamed hnamed
  have hinitP : kP.init = .initialized := Cond.initialized_spec (findClass_of_methodNamed hnamed) hkP hinit
  obtain ⟨vm₁, X₁, hstep₁⟩ := X.invokestatic hexec hown hlink hnamed hmethM hstatic hkP hinitP hy (g := g) hg (argsL := argsL) (rest := rest) (hlen _ hsigM) hstack hdg
  rcases hK m meth c ⟨T.setVm vm₁, locs, cells, slots⟩ { g with stack := rest } (.invokestatic index) mk argsL.toArray X₁ hg hsize hdg hW (X₁.named hnamed) (hpre vm₁ X₁.warmed) with ⟨v, B, X', hpost, hsteps⟩ | ⟨q, B, X', hpost, hsteps⟩
  · exact Or.inl ⟨v, vm₁, B, X₁.warmed, X', hpost, fun target h => hstep₁ _ fun acts => by rw [doInvoke_state]; exact hsteps.trans h⟩
  · exact Or.inr ⟨q, vm₁, B, X₁.warmed, X', hpost, hstep₁ _ fun acts => by rw [doInvoke_state]; exact hsteps⟩
end Calls
theorem vx_cls {s : State} {T : State} {vm₁ : Vm} {E : String} {k : ClassId} (hW : s.WarmedH vm₁) (h : (T.setVm vm₁).vm.findClass E = some k) : s.vm.findClass E = some k := by
  have h1 : vm₁.findClass E = some k := h
  rw [hW.alike.findClass] at h1
  exact h1
/-- the method's frame g, with q thrown over it -/
def vx_W (p : Program) (l : Launch) (e : Env) (R : Room) (s : State) (m : MethodId) (args : Array Value) (below : List Frame) (meth : Method) (c : Code) (H : Heap) (locs : List Loc) (cells slots : Nat) (Q : State → Prop) (g : JFrame) (q : Addr) : Prop :=
  ∀ T : State, T.heap = H → Stand p l e R s m args below meth c T locs cells slots → ∃ t, Steps p.tables e below ((T.setTop g).pushFrame (.throwing q)) t ∧ Q t
def vx_Run (p : Program) (l : Launch) (e : Env) (R : Room) (s : State) (m : MethodId) (args : Array Value) (below : List Frame) (meth : Method) (c : Code) (H : Heap) (locs : List Loc) (cells slots mc ms : Nat) (g : JFrame) (rest : List Value) (Qa : State → Outcome → State → Prop) (XC : String → State → State → Prop) (free : Addr → Prop) : Prop :=
  ∀ T : State, T.heap = H → Stand p l e R s m args below meth c T locs cells slots →
    (∃ (v : Option Value) (st₀ t T' : State) (L : List Loc), st₀.heap = H ∧ Stand p l e R s m args below meth c T' (locs ++ L) (cells + mc) (slots + ms) ∧ (∀ q ∈ L, free q.base) ∧ T'.heap = t.heap ∧ T'.vm = t.vm ∧ Qa st₀ (.returned v) t ∧
      Goes p e below T g T' { g with pc := g.pc + 3, stack := v.toList ++ rest }) ∨
    (∃ (q : Addr) (st₀ t T' : State) (L : List Loc) (E : String) (ce : Cell), st₀.heap = H ∧ Stand p l e R s m args below meth c T' (locs ++ L) (cells + mc) (slots + ms) ∧ (∀ z ∈ L, free z.base) ∧ T'.heap = t.heap ∧ T'.vm = t.vm ∧ XC E st₀ t ∧ t.heap[q]? = some ce ∧ ce.vm = .none ∧ s.vm.findClass E = some ce.cls ∧
      Steps p.tables e below (T.setTop g) ((T'.setTop { g with stack := rest }).pushFrame (.throwing q)))
def vx_X {S : Type} (px : S → Prop) (B : String → S → State → Prop) (A : Nat → Prop) : String → State → State → Prop := fun E st t => ∃ u : S, px u ∧ B E u t ∧ va_F A st t
section Runs
variable {p : Program} {l : Launch} {e : Env} {R : Room} {s : State} {m : MethodId} {args : Array Value} {below : List Frame} {meth : Method} {c : Code} {H : Heap} {locs : List Loc} {cells slots : Nat}
variable {y : MethodName} {bytes cc : ByteArray} {maxL nL mc ms n index : Nat} {ret : Option FieldType} {ws : List Cond} {rm : Room} {Pc : Array Value → State → Prop} {Qc : Array Value → State → Outcome → State → Prop} {XC : String → State → State → Prop} {free : Addr → Prop} {Ts : List Cond} {own C : String} {b : Addr} {As rest : List Value} {g : JFrame}
theorem vx_callBack (cb : CallB R s args own index y bytes maxL ret ws rm mc ms n) (hM : vx_Met l y ws rm Pc Qc XC mc ms free) (hbl : FrameBlind Pc) : vx_Back l R p e below s args y 3 8 (PreOf R mc ms Pc) (PostOf Qc mc ms free) (vx_Post XC mc ms free) := by
  obtain ⟨hrc, hrs, hfr, hlo, hws, hcw, -, hini, -⟩ := cb
  exact vx_back (bytes := bytes) (maxL := maxL) (ret := ret) hM hbl hrc hrs hfr hlo hws hcw (fun a' U hW => word_at hW (Or.inl (by first | rfl | simp [Cond.onTables, Cond.keeps, Cond.steady])) hini)
theorem vx_runV (S : CallFix p m c cc nL s args Ts own) (hM : vx_Met l y ws rm Pc Qc XC mc ms free) (cw : CallW R s args own C index y bytes maxL ret ws rm mc ms n) (hp : PreV s H C b Pc As)
    (hg : g.method = m) (hn : As.length = n) (hsize : g.locals.size = nL) (hstack : g.stack = As.reverse ++ .ref b :: rest) (hW : 2 * g.monitorRoom + (rest.map fun v => v.category).sum ≤ 8) (hdg : decode cc g.pc = .ok (.invokevirtual index, 3)) (hf : cells + mc ≤ R.cells ∧ slots + ms ≤ R.slots) :
    vx_Run p l e R s m args below meth c H locs cells slots mc ms g rest (Qc (Value.ref b :: As).toArray) XC free := by
  have hK : vx_Back l R p e below s args y 3 8 (PreOf R mc ms Pc) (PostOf Qc mc ms free) (vx_Post XC mc ms free) := vx_callBack cw.1 hM hp.1
  obtain ⟨⟨-, -, -, -, -, -, hcode, -, hy, hlen, hl⟩, hin, hse⟩ := cw
  obtain ⟨hx, hb, hml, ho, -⟩ := S
  obtain ⟨-, ⟨cellB, hcB, hoB, hclB⟩, hPc⟩ := hp
  intro T hT X
  rcases vx_callV X hx (C := C) (bytes := bytes) (maxL := maxL) (ret := ret) ho hl hin hse hcode hy hK (by rw [hT]; exact hcB) hoB hclB hg (hsize.trans hml.symm) (argsL := As) (rest := rest) (fun sig h => hn.trans (hlen sig h)) hstack hW (by rw [hb]; exact hdg)
    (fun vm₁ hW₁ => ⟨hf.1, hf.2, hPc (T.setVm vm₁) hT hW₁⟩) with ⟨v, vm₁, ⟨U', l2, c2, s2⟩, hW₁, X', ⟨g', mk, t, L, e1, e2, hq, h1, hL, h2, h3⟩, st⟩ | ⟨q, vm₁, ⟨U', l2, c2, s2⟩, hW₁, X', ⟨g', mk, t, L, E, ce, e1, e2, hq, hce, hcv, hcl, h1, hL, h2, h3⟩, st⟩
  · dsimp only [Pt.U, Pt.locs, Pt.cells, Pt.slots] at X' e1 e2 h1 h2 h3 st
    subst h1; subst h2; subst h3
    exact Or.inl ⟨v, (T.setVm vm₁).calling g' mk (Value.ref b :: As).toArray, t, U', L, hT, X', hL, e1, e2, hq, st⟩
  · dsimp only [Pt.U, Pt.locs, Pt.cells, Pt.slots] at X' e1 e2 h1 h2 h3 st hcl
    subst h1; subst h2; subst h3
    exact Or.inr ⟨q, (T.setVm vm₁).calling g' mk (Value.ref b :: As).toArray, t, U', L, E, ce, hT, X', hL, e1, e2, hq, hce, hcv, vx_cls hW₁ hcl, st⟩
theorem vx_runS (S : CallFix p m c cc nL s args Ts own) (hM : vx_Met l y ws rm Pc Qc XC mc ms free) (cw : CallB R s args own index y bytes maxL ret ws rm mc ms n ∧ (Cond.static y).before args s = true) (hp : PreS s H Pc As)
    (hg : g.method = m) (hn : As.length = n) (hsize : g.locals.size = nL) (hstack : g.stack = As.reverse ++ rest) (hW : 2 * g.monitorRoom + (rest.map fun v => v.category).sum ≤ 8) (hdg : decode cc g.pc = .ok (.invokestatic index, 3)) (hf : cells + mc ≤ R.cells ∧ slots + ms ≤ R.slots) :
    vx_Run p l e R s m args below meth c H locs cells slots mc ms g rest (Qc As.toArray) XC free := by
  have hK : vx_Back l R p e below s args y 3 8 (PreOf R mc ms Pc) (PostOf Qc mc ms free) (vx_Post XC mc ms free) := vx_callBack cw.1 hM hp.1
  obtain ⟨⟨-, -, -, -, -, -, hcode, hini, hy, hlen, hl⟩, hstt⟩ := cw
  obtain ⟨hx, hb, hml, ho, -⟩ := S
  intro T hT X
  rcases vx_callS X hx (bytes := bytes) (maxL := maxL) (ret := ret) ho hl hstt hini hcode hy hK hg (hsize.trans hml.symm) (argsL := As) (rest := rest) (fun sig h => hn.trans (hlen sig h)) hstack hW (by rw [hb]; exact hdg)
    (fun vm₁ hW₁ => ⟨hf.1, hf.2, hp.2 (T.setVm vm₁) hT hW₁⟩) with ⟨v, vm₁, ⟨U', l2, c2, s2⟩, hW₁, X', ⟨g', mk, t, L, e1, e2, hq, h1, hL, h2, h3⟩, st⟩ | ⟨q, vm₁, ⟨U', l2, c2, s2⟩, hW₁, X', ⟨g', mk, t, L, E, ce, e1, e2, hq, hce, hcv, hcl, h1, hL, h2, h3⟩, st⟩
  · dsimp only [Pt.U, Pt.locs, Pt.cells, Pt.slots] at X' e1 e2 h1 h2 h3 st
    subst h1; subst h2; subst h3
    exact Or.inl ⟨v, (T.setVm vm₁).calling g' mk As.toArray, t, U', L, hT, X', hL, e1, e2, hq, st⟩
  · dsimp only [Pt.U, Pt.locs, Pt.cells, Pt.slots] at X' e1 e2 h1 h2 h3 st hcl
    subst h1; subst h2; subst h3
    exact Or.inr ⟨q, (T.setVm vm₁).calling g' mk As.toArray, t, U', L, E, ce, hT, X', hL, e1, e2, hq, hce, hcv, vx_cls hW₁ hcl, st⟩
end Runs
section Rows
variable {p : Program} {l : Launch} {e : Env} {R : Room} {s : State} {m : MethodId} {args : Array Value} {below : List Frame} {meth : Method} {c : Code} {H : Heap} {locs : List Loc} {cells slots : Nat} {Q : State → Prop}
variable {mc ms : Nat} {free : Addr → Prop} {A0 A1 : Nat → Prop} {H0 : Heap} {a : Array Value} {pc : Nat} {ls : Array Slot} {st0 rest : List Value}
theorem vx_keep {st₀ t T' : State} {L : List Loc} (h0 : st₀.heap = H) (e1 : T'.heap = t.heap) (hS : va_S A0 H0 H locs) (hA : ∀ q, q < H.size → A1 q → A0 q) (hf : ∀ q, free q → A0 q) (hL : ∀ q ∈ L, free q.base) (hF : va_F A1 st₀ t) :
    H.size ≤ T'.heap.size ∧ (∀ q : Nat, q < H.size → ¬ A1 q → T'.heap[q]? = H[q]?) ∧ va_S A0 H0 T'.heap (locs ++ L) := by
  obtain ⟨hz, hk⟩ := hF
  rw [h0] at hz hk
  exact ⟨by rw [e1]; exact hz, fun q h1 h2 => by rw [e1]; exact hk q h1 h2,
    ⟨Nat.le_trans hS.1 (by rw [e1]; exact hz), fun q h1 h2 => by rw [e1, hk q (Nat.lt_of_lt_of_le h1 hS.1) (fun z => h2 (hA q (Nat.lt_of_lt_of_le h1 hS.1) z))]; exact hS.2.1 q h1 h2, fun q hq => by
      rcases List.mem_append.mp hq with h | h
      · exact hS.2.2 q h
      · exact hf _ (hL q h)⟩⟩
theorem vx_calli {S SX : Type} {post : Int32 → S → Prop} {px : SX → Prop} {B : S → State → Prop} {BX : String → SX → State → Prop} {AX : Nat → Prop} (hr : vx_Run p l e R s m args below meth c H locs cells slots mc ms (F0 m pc ls st0) rest (va_Qi post B A1 a) (vx_X px BX AX) free) (hS : va_S A0 H0 H locs) (hA : ∀ q, q < H.size → A1 q → A0 q) (hf : ∀ q, free q → A0 q) (hAX : ∀ q, q < H.size → AX q → A0 q)
    (kx : ∀ (E : String) (ce : Cell) (q9 : Addr) (u : SX) (t : State) (H1 : Heap) (locs1 : List Loc), t.heap = H1 → s.vm.Alike t.vm → px u → BX E u t → H.size ≤ H1.size → (∀ q : Nat, q < H.size → ¬ AX q → H1[q]? = H[q]?) → va_S A0 H0 H1 locs1 → H1[q9]? = some ce → ce.vm = .none → s.vm.findClass E = some ce.cls → vx_W p l e R s m args below meth c H1 locs1 (cells + mc) (slots + ms) Q (F0 m pc ls rest) q9)
    (kk : ∀ (r : Int32) (u : S) (t : State) (H1 : Heap) (locs1 : List Loc), t.heap = H1 → s.vm.Alike t.vm → post r u → B u t → H.size ≤ H1.size → (∀ q : Nat, q < H.size → ¬ A1 q → H1[q]? = H[q]?) → va_S A0 H0 H1 locs1 → W p l e R s m args below meth c H1 locs1 (cells + mc) (slots + ms) Q (F0 m (pc + 3) ls (.int r :: rest))) : W p l e R s m args below meth c H locs cells slots Q (F0 m pc ls st0) := by
  intro T hT X
  rcases hr T hT X with ⟨v, st₀, t, T', L, h0, X', hL, e1, e2, ⟨⟨r, u, hv, hp, hb⟩, hF⟩, st⟩ | ⟨q, st₀, t, T', L, E, ce, h0, X', hL, e1, e2, ⟨u, hp, hb, hF⟩, hce, hcv, hcl, st⟩
  · cases hv
    obtain ⟨k1, k2, k3⟩ := vx_keep h0 e1 hS hA hf hL hF
    obtain ⟨t2, a1, b1⟩ := kk r u t T'.heap (locs ++ L) e1.symm (by rw [← e2]; exact X'.warmed.alike) hp hb k1 k2 k3 T' rfl X'
    exact ⟨t2, st t2 a1, b1⟩
  · obtain ⟨k1, k2, k3⟩ := vx_keep h0 e1 hS hAX hf hL hF
    obtain ⟨t2, a1, b1⟩ := kx E ce q u t T'.heap (locs ++ L) e1.symm (by rw [← e2]; exact X'.warmed.alike) hp hb k1 k2 k3 (by rw [e1]; exact hce) hcv hcl T' rfl X'
    exact ⟨t2, st.trans a1, b1⟩
theorem vx_calll {S SX : Type} {post : Int64 → S → Prop} {px : SX → Prop} {B : S → State → Prop} {BX : String → SX → State → Prop} {AX : Nat → Prop} (hr : vx_Run p l e R s m args below meth c H locs cells slots mc ms (F0 m pc ls st0) rest (va_Ql post B A1 a) (vx_X px BX AX) free) (hS : va_S A0 H0 H locs) (hA : ∀ q, q < H.size → A1 q → A0 q) (hf : ∀ q, free q → A0 q) (hAX : ∀ q, q < H.size → AX q → A0 q)
    (kx : ∀ (E : String) (ce : Cell) (q9 : Addr) (u : SX) (t : State) (H1 : Heap) (locs1 : List Loc), t.heap = H1 → s.vm.Alike t.vm → px u → BX E u t → H.size ≤ H1.size → (∀ q : Nat, q < H.size → ¬ AX q → H1[q]? = H[q]?) → va_S A0 H0 H1 locs1 → H1[q9]? = some ce → ce.vm = .none → s.vm.findClass E = some ce.cls → vx_W p l e R s m args below meth c H1 locs1 (cells + mc) (slots + ms) Q (F0 m pc ls rest) q9)
    (kk : ∀ (r : Int64) (u : S) (t : State) (H1 : Heap) (locs1 : List Loc), t.heap = H1 → s.vm.Alike t.vm → post r u → B u t → H.size ≤ H1.size → (∀ q : Nat, q < H.size → ¬ A1 q → H1[q]? = H[q]?) → va_S A0 H0 H1 locs1 → W p l e R s m args below meth c H1 locs1 (cells + mc) (slots + ms) Q (F0 m (pc + 3) ls (.long r :: rest))) : W p l e R s m args below meth c H locs cells slots Q (F0 m pc ls st0) := by
  intro T hT X
  rcases hr T hT X with ⟨v, st₀, t, T', L, h0, X', hL, e1, e2, ⟨⟨r, u, hv, hp, hb⟩, hF⟩, st⟩ | ⟨q, st₀, t, T', L, E, ce, h0, X', hL, e1, e2, ⟨u, hp, hb, hF⟩, hce, hcv, hcl, st⟩
  · cases hv
    obtain ⟨k1, k2, k3⟩ := vx_keep h0 e1 hS hA hf hL hF
    obtain ⟨t2, a1, b1⟩ := kk r u t T'.heap (locs ++ L) e1.symm (by rw [← e2]; exact X'.warmed.alike) hp hb k1 k2 k3 T' rfl X'
    exact ⟨t2, st t2 a1, b1⟩
  · obtain ⟨k1, k2, k3⟩ := vx_keep h0 e1 hS hAX hf hL hF
    obtain ⟨t2, a1, b1⟩ := kx E ce q u t T'.heap (locs ++ L) e1.symm (by rw [← e2]; exact X'.warmed.alike) hp hb k1 k2 k3 (by rw [e1]; exact hce) hcv hcl T' rfl X'
    exact ⟨t2, st.trans a1, b1⟩
theorem vx_callf {S SX : Type} {post : UInt32 → S → Prop} {px : SX → Prop} {B : S → State → Prop} {BX : String → SX → State → Prop} {AX : Nat → Prop} (hr : vx_Run p l e R s m args below meth c H locs cells slots mc ms (F0 m pc ls st0) rest (va_Qf post B A1 a) (vx_X px BX AX) free) (hS : va_S A0 H0 H locs) (hA : ∀ q, q < H.size → A1 q → A0 q) (hf : ∀ q, free q → A0 q) (hAX : ∀ q, q < H.size → AX q → A0 q)
    (kx : ∀ (E : String) (ce : Cell) (q9 : Addr) (u : SX) (t : State) (H1 : Heap) (locs1 : List Loc), t.heap = H1 → s.vm.Alike t.vm → px u → BX E u t → H.size ≤ H1.size → (∀ q : Nat, q < H.size → ¬ AX q → H1[q]? = H[q]?) → va_S A0 H0 H1 locs1 → H1[q9]? = some ce → ce.vm = .none → s.vm.findClass E = some ce.cls → vx_W p l e R s m args below meth c H1 locs1 (cells + mc) (slots + ms) Q (F0 m pc ls rest) q9)
    (kk : ∀ (r : UInt32) (u : S) (t : State) (H1 : Heap) (locs1 : List Loc), t.heap = H1 → s.vm.Alike t.vm → post r u → B u t → H.size ≤ H1.size → (∀ q : Nat, q < H.size → ¬ A1 q → H1[q]? = H[q]?) → va_S A0 H0 H1 locs1 → W p l e R s m args below meth c H1 locs1 (cells + mc) (slots + ms) Q (F0 m (pc + 3) ls (.float r :: rest))) : W p l e R s m args below meth c H locs cells slots Q (F0 m pc ls st0) := by
  intro T hT X
  rcases hr T hT X with ⟨v, st₀, t, T', L, h0, X', hL, e1, e2, ⟨⟨r, u, hv, hp, hb⟩, hF⟩, st⟩ | ⟨q, st₀, t, T', L, E, ce, h0, X', hL, e1, e2, ⟨u, hp, hb, hF⟩, hce, hcv, hcl, st⟩
  · cases hv
    obtain ⟨k1, k2, k3⟩ := vx_keep h0 e1 hS hA hf hL hF
    obtain ⟨t2, a1, b1⟩ := kk r u t T'.heap (locs ++ L) e1.symm (by rw [← e2]; exact X'.warmed.alike) hp hb k1 k2 k3 T' rfl X'
    exact ⟨t2, st t2 a1, b1⟩
  · obtain ⟨k1, k2, k3⟩ := vx_keep h0 e1 hS hAX hf hL hF
    obtain ⟨t2, a1, b1⟩ := kx E ce q u t T'.heap (locs ++ L) e1.symm (by rw [← e2]; exact X'.warmed.alike) hp hb k1 k2 k3 (by rw [e1]; exact hce) hcv hcl T' rfl X'
    exact ⟨t2, st.trans a1, b1⟩
theorem vx_calld {S SX : Type} {post : UInt64 → S → Prop} {px : SX → Prop} {B : S → State → Prop} {BX : String → SX → State → Prop} {AX : Nat → Prop} (hr : vx_Run p l e R s m args below meth c H locs cells slots mc ms (F0 m pc ls st0) rest (va_Qd post B A1 a) (vx_X px BX AX) free) (hS : va_S A0 H0 H locs) (hA : ∀ q, q < H.size → A1 q → A0 q) (hf : ∀ q, free q → A0 q) (hAX : ∀ q, q < H.size → AX q → A0 q)
    (kx : ∀ (E : String) (ce : Cell) (q9 : Addr) (u : SX) (t : State) (H1 : Heap) (locs1 : List Loc), t.heap = H1 → s.vm.Alike t.vm → px u → BX E u t → H.size ≤ H1.size → (∀ q : Nat, q < H.size → ¬ AX q → H1[q]? = H[q]?) → va_S A0 H0 H1 locs1 → H1[q9]? = some ce → ce.vm = .none → s.vm.findClass E = some ce.cls → vx_W p l e R s m args below meth c H1 locs1 (cells + mc) (slots + ms) Q (F0 m pc ls rest) q9)
    (kk : ∀ (r : UInt64) (u : S) (t : State) (H1 : Heap) (locs1 : List Loc), t.heap = H1 → s.vm.Alike t.vm → post r u → B u t → H.size ≤ H1.size → (∀ q : Nat, q < H.size → ¬ A1 q → H1[q]? = H[q]?) → va_S A0 H0 H1 locs1 → W p l e R s m args below meth c H1 locs1 (cells + mc) (slots + ms) Q (F0 m (pc + 3) ls (.double r :: rest))) : W p l e R s m args below meth c H locs cells slots Q (F0 m pc ls st0) := by
  intro T hT X
  rcases hr T hT X with ⟨v, st₀, t, T', L, h0, X', hL, e1, e2, ⟨⟨r, u, hv, hp, hb⟩, hF⟩, st⟩ | ⟨q, st₀, t, T', L, E, ce, h0, X', hL, e1, e2, ⟨u, hp, hb, hF⟩, hce, hcv, hcl, st⟩
  · cases hv
    obtain ⟨k1, k2, k3⟩ := vx_keep h0 e1 hS hA hf hL hF
    obtain ⟨t2, a1, b1⟩ := kk r u t T'.heap (locs ++ L) e1.symm (by rw [← e2]; exact X'.warmed.alike) hp hb k1 k2 k3 T' rfl X'
    exact ⟨t2, st t2 a1, b1⟩
  · obtain ⟨k1, k2, k3⟩ := vx_keep h0 e1 hS hAX hf hL hF
    obtain ⟨t2, a1, b1⟩ := kx E ce q u t T'.heap (locs ++ L) e1.symm (by rw [← e2]; exact X'.warmed.alike) hp hb k1 k2 k3 (by rw [e1]; exact hce) hcv hcl T' rfl X'
    exact ⟨t2, st.trans a1, b1⟩
theorem vx_callv {S SX : Type} {post : S → Prop} {px : SX → Prop} {B : S → State → Prop} {BX : String → SX → State → Prop} {AX : Nat → Prop} (hr : vx_Run p l e R s m args below meth c H locs cells slots mc ms (F0 m pc ls st0) rest (va_Qv post B A1 a) (vx_X px BX AX) free) (hS : va_S A0 H0 H locs) (hA : ∀ q, q < H.size → A1 q → A0 q) (hf : ∀ q, free q → A0 q) (hAX : ∀ q, q < H.size → AX q → A0 q)
    (kx : ∀ (E : String) (ce : Cell) (q9 : Addr) (u : SX) (t : State) (H1 : Heap) (locs1 : List Loc), t.heap = H1 → s.vm.Alike t.vm → px u → BX E u t → H.size ≤ H1.size → (∀ q : Nat, q < H.size → ¬ AX q → H1[q]? = H[q]?) → va_S A0 H0 H1 locs1 → H1[q9]? = some ce → ce.vm = .none → s.vm.findClass E = some ce.cls → vx_W p l e R s m args below meth c H1 locs1 (cells + mc) (slots + ms) Q (F0 m pc ls rest) q9)
    (kk : ∀ (u : S) (t : State) (H1 : Heap) (locs1 : List Loc), t.heap = H1 → s.vm.Alike t.vm → post u → B u t → H.size ≤ H1.size → (∀ q : Nat, q < H.size → ¬ A1 q → H1[q]? = H[q]?) → va_S A0 H0 H1 locs1 → W p l e R s m args below meth c H1 locs1 (cells + mc) (slots + ms) Q (F0 m (pc + 3) ls (rest))) : W p l e R s m args below meth c H locs cells slots Q (F0 m pc ls st0) := by
  intro T hT X
  rcases hr T hT X with ⟨v, st₀, t, T', L, h0, X', hL, e1, e2, ⟨⟨u, hv, hp, hb⟩, hF⟩, st⟩ | ⟨q, st₀, t, T', L, E, ce, h0, X', hL, e1, e2, ⟨u, hp, hb, hF⟩, hce, hcv, hcl, st⟩
  · cases hv
    obtain ⟨k1, k2, k3⟩ := vx_keep h0 e1 hS hA hf hL hF
    obtain ⟨t2, a1, b1⟩ := kk u t T'.heap (locs ++ L) e1.symm (by rw [← e2]; exact X'.warmed.alike) hp hb k1 k2 k3 T' rfl X'
    exact ⟨t2, st t2 a1, b1⟩
  · obtain ⟨k1, k2, k3⟩ := vx_keep h0 e1 hS hAX hf hL hF
    obtain ⟨t2, a1, b1⟩ := kx E ce q u t T'.heap (locs ++ L) e1.symm (by rw [← e2]; exact X'.warmed.alike) hp hb k1 k2 k3 (by rw [e1]; exact hce) hcv hcl T' rfl X'
    exact ⟨t2, st.trans a1, b1⟩
/-- caught by the row x of this method's table; the rows ahead don't take it -/
theorem vx_catch {own name : String} {E : String} {ce : Cell} {q : Addr} (hown : s.vm.findClass own = some m.cls) (pre : List ExceptionTableEntry) (x : ExceptionTableEntry) (suf : List ExceptionTableEntry) (hsplit : c.exceptionTable.toList = pre ++ x :: suf)
    (hpass : ∀ z ∈ pre, covers z pc = false ∨ (z.catchType ≠ 0 ∧ ∃ nm : String, (Cond.classLink own z.catchType nm).before args s = true ∧ va_Nc E nm s)) (hx : covers x pc = true) (h0 : x.catchType ≠ 0)
    (hlink : (Cond.classLink own x.catchType name).before args s = true) (hcast : (Cond.castable E name).before args s = true) (hcell : H[q]? = some ce) (hv : ce.vm = .none) (hcl : s.vm.findClass E = some ce.cls)
    (kk : W p l e R s m args below meth c H locs cells slots Q (F0 m x.handlerPc ls [.ref q])) : vx_W p l e R s m args below meth c H locs cells slots Q (F0 m pc ls rest) q := by
  intro T hT X
  have hpl : e.platform.magicAccessors = ({} : Platform).magicAccessors := by rw [X.admits.platform]
  obtain ⟨c3, c4, hc3, hc4, hasg⟩ := Cond.castable_spec hcast
  cases Option.some.inj (hc3.symm.trans hcl)
  obtain ⟨c5, hc5, hcl5⟩ := Cond.classLink_spec hown hlink e.platform hpl
  cases Option.some.inj (hc4.symm.trans hc5)
  obtain ⟨vm', X', st⟩ := X.thenCaughtThrough q (g := F0 m pc ls rest) rfl (Steps.refl _) (by rw [hT]; exact hcell) (by rw [hv]; rfl) (by obtain ⟨k9, h9, -⟩ := Vm.findClass_spec hcl; exact ⟨k9, h9⟩) pre x suf hsplit
    (fun z hz => by
      rcases hpass z hz with h | ⟨hz0, nm, hl1, hn1⟩
      · exact Or.inl h
      · obtain ⟨c6, hc6, hcl6⟩ := Cond.classLink_spec hown hl1 e.platform hpl
        obtain ⟨a8, b8, h1, h2, h3⟩ := hn1
        cases Option.some.inj (h1.symm.trans hcl)
        cases Option.some.inj (h2.symm.trans hc6)
        exact Or.inr ⟨hz0, _, hcl6, h3⟩) hx (Or.inr ⟨h0, c4, hcl5, hasg⟩)
  obtain ⟨t, a1, b1⟩ := kk (T.setVm vm') hT X'
  exact ⟨t, st.trans a1, b1⟩
end Rows
section Ends
variable {p : Program} {l : Launch} {e : Env} {R : Room} {s : State} {m : MethodId} {args : Array Value} {below : List Frame} {meth : Method} {c : Code} {H : Heap} {locs : List Loc} {cells slots : Nat} {Q : State → Prop}
variable {mc ms : Nat} {free : Addr → Prop} {A0 A1 : Nat → Prop} {H0 : Heap} {a : Array Value} {ls : Array Slot} {st0 rest : List Value}
variable {Qc : Array Value → State → Outcome → State → Prop} {XC : String → State → State → Prop}
/-- what a body that may throw owes at its end -/
def vx_MQ (below : List Frame) (Qc : Array Value → State → Outcome → State → Prop) (XC : String → State → State → Prop) (a : Array Value) (s : State) (mc ms : Nat) (free : Addr → Prop) : State → Prop := fun t =>
  ∃ o, t.status = .running ∧ Ended t below o ∧ vx_Q Qc XC mc ms free a s o t
theorem vx_ret {g : JFrame} {mc ms : Nat} (k : W p l e R s m args below meth c H locs cells slots (MQ below Qc args s mc ms free) g) : W p l e R s m args below meth c H locs cells slots (vx_MQ below Qc XC args s mc ms free) g := by
  intro T hT X
  obtain ⟨t, a1, o, b1, b2, b3, b4⟩ := k T hT X
  exact ⟨t, a1, o, b1, b2, Or.inl ⟨b3, b4⟩⟩
/-- not caught here: it goes on to the caller -/
theorem vx_widen {g : JFrame} {q : Addr} {k n : Nat} (h1 : cells ≤ k) (h2 : slots ≤ n) (kk : vx_W p l e R s m args below meth c H locs k n Q g q) : vx_W p l e R s m args below meth c H locs cells slots Q g q := fun T hT X => kk T hT (stand_widen X h1 h2)
theorem vx_out {pc : Nat} {E : String} {ce : Cell} {q : Addr} {mc ms : Nat} (hout : ∀ x ∈ c.exceptionTable.toList, covers x pc = false) (hlocks : meth.locks = false) (hcell : H[q]? = some ce) (hv : ce.vm = .none) (hcl : s.vm.findClass E = some ce.cls)
    (hx : ∀ t : State, t.heap = H → s.vm.Alike t.vm → XC E s t) (hf : ∀ z ∈ locs, free z.base) (hc : cells ≤ mc) (hs : slots ≤ ms) :
    vx_W p l e R s m args below meth c H locs cells slots (vx_MQ below Qc XC args s mc ms free) (F0 m pc ls rest) q := by
  intro T hT X
  obtain ⟨st1, hrun, hend, hW, hsm⟩ := X.leaveThrown q (g := F0 m pc ls rest) rfl rfl rfl hout hlocks
  have hcell9 : (T.setFrames (.throwing q :: below)).heap[q]? = some ce := by
    show T.heap[q]? = some ce
    rw [hT]; exact hcell
  exact ⟨_, st1, .threw q, hrun, hend, Or.inr ⟨q, rfl, E, ce, locs, hx _ hT hW.alike, hcell9, hv, hcl, hW, hsm.mono hc hs, hf⟩⟩
theorem vx_frame {U : State} {k n : Nat} (h : s.sameButNew ({ U with vm := s.vm } : State) locs k n) : s.heap.size ≤ U.heap.size ∧ ∀ q : Nat, q < s.heap.size → (∀ z ∈ locs, z.base ≠ q) → U.heap[q]? = s.heap[q]? := by
  obtain ⟨-, h2, -, -, -, h6⟩ := h
  refine ⟨h2, fun q hq hz => ?_⟩
  obtain ⟨c9, e1, e2, e3, e4⟩ := h6 q _ (Array.getElem?_eq_getElem hq)
  have hs : c9.slots = (s.heap[q]).slots := Array.ext_getElem? fun i => e4 i fun hm => hz _ hm rfl
  have h9 : c9 = s.heap[q] := by
    rw [hs] at e2
    exact e2
  have e5 : U.heap[q]? = some c9 := e1
  rw [e5, h9, Array.getElem?_eq_getElem hq]
/-- the words of a throw but the four that speak of the heap -/
def vx_no (w : Cond) : Bool := decide (w ≠ .isRef (.static Bundle.tN "UNASSIGNED_STACK" Bundle.steD)) && decide (w ≠ .isRef (.static Bundle.tN "SUPPRESSED_SENTINEL" Bundle.listD)) && decide (w ≠ .laysStatic Bundle.tN "UNASSIGNED_STACK" Bundle.steD) && decide (w ≠ .laysStatic Bundle.tN "SUPPRESSED_SENTINEL" Bundle.listD)
def vx_at0 (own : String) (ic : Nat) (X : String) (names : List String) : List Cond := (Bundle.ownAtoms0 own ic X names).filter vx_no
def vx_atS (own : String) (ic : Nat) (X : String) (names : List String) : List Cond := (Bundle.ownAtoms own ic X names).filter vx_no
/-- a word that the tables alone decide, or a good one -/
def vx_ot (w : Cond) : Bool := w.onTables || goodWord w
theorem vx_ot_at {args a' : Array Value} {s U : State} {w : Cond} (hW : s.WarmedH U.vm) (hvm : s.vm = U.vm) (hg : vx_ot w = true) (h : w.before args s = true) : w.before a' U = true := by
  simp only [vx_ot, Bool.or_eq_true] at hg
  rcases hg with hg | hg
  · exact va_tabs hg hvm h
  · exact word_at hW (good_of_word hg) h
/-- a list's words: the good ones out of the method's own list, the others by premises of their own -/
theorem vx_hat {args : Array Value} {s : State} {L B : List Cond} (h1 : ∀ w ∈ L.filter goodWord, w.before args s = true) (h2 : ∀ w ∈ L.filter (fun w => !goodWord w), w ∈ B) (h3 : ∀ w ∈ B, w.before args s = true) : ∀ w ∈ L, w.before args s = true := by
  intro w hw
  by_cases g : goodWord w = true
  · exact h1 w (List.mem_filter.mpr ⟨hw, g⟩)
  · refine h3 w (h2 w (List.mem_filter.mpr ⟨hw, ?_⟩))
    show (!goodWord w) = true
    cases hgw : goodWord w
    · rfl
    · exact absurd hgw g
theorem vx_c {args : Array Value} {s : State} {w : Cond} {B : List Cond} (h : w.before args s = true) (t : ∀ w ∈ B, w.before args s = true) : ∀ w' ∈ w :: B, w'.before args s = true := fun w' h' => (List.mem_cons.mp h').elim (fun e => by rw [e]; exact h) (t w')
theorem vx_n {args : Array Value} {s : State} : ∀ w ∈ ([] : List Cond), w.before args s = true := fun _ h => nomatch h
theorem vx_own {args : Array Value} {s : State} {L : List Cond} (h1 : ∀ w ∈ L.filter vx_no, w.before args s = true)
    (hU : (Cond.isRef (.static Bundle.tN "UNASSIGNED_STACK" Bundle.steD)).before args s = true) (hN : (Cond.isRef (.static Bundle.tN "SUPPRESSED_SENTINEL" Bundle.listD)).before args s = true)
    (lU : (Cond.laysStatic Bundle.tN "UNASSIGNED_STACK" Bundle.steD).before args s = true) (lN : (Cond.laysStatic Bundle.tN "SUPPRESSED_SENTINEL" Bundle.listD).before args s = true) : ∀ w ∈ L, w.before args s = true := by
  intro w hw
  by_cases e1 : w = .isRef (.static Bundle.tN "UNASSIGNED_STACK" Bundle.steD)
  · rw [e1]; exact hU
  · by_cases e2 : w = .isRef (.static Bundle.tN "SUPPRESSED_SENTINEL" Bundle.listD)
    · rw [e2]; exact hN
    · by_cases e3 : w = .laysStatic Bundle.tN "UNASSIGNED_STACK" Bundle.steD
      · rw [e3]; exact lU
      · by_cases e4 : w = .laysStatic Bundle.tN "SUPPRESSED_SENTINEL" Bundle.listD
        · rw [e4]; exact lN
        · exact h1 w (List.mem_filter.mpr ⟨hw, by unfold vx_no; rw [decide_eq_true e1, decide_eq_true e2, decide_eq_true e3, decide_eq_true e4]; rfl⟩)
/-- where a static field lies, its class's statics cell in H -/
def vx_L (C n d : String) (A : Nat → Prop) (U : State) (H : Heap) : Prop := ∃ (c : ClassId) (k : Class) (i : Nat) (f : Field) (a : Nat) (cell : Cell), U.vm.findClass C = some c ∧ U.fieldFound? C n d = some (c, k, i, f) ∧ f.isStatic = true ∧ k.statics = some a ∧ H[a]? = some cell ∧ cell.vm.isStatics = true ∧ cell.cls = c ∧ f.slot < cell.slots.size ∧ k.staticTypes[f.slot]? = some f.type ∧ ¬ A a
theorem vx_L.moved {C n d : String} {A : Nat → Prop} {u U : State} {H : Heap} (hvm : u.vm.Alike U.vm) (h : vx_L C n d A u H) : vx_L C n d A U H := by
  obtain ⟨c, k, i, f, a, cell, h1, h2, h3, h4, h5, h6, h7, h8, h9, h10⟩ := h
  obtain ⟨k', hi', he⟩ := State.fieldFound?_setVm hvm h2
  exact ⟨c, k', i, f, a, cell, by rw [hvm.findClass]; exact h1, hi', h3, by rw [he]; exact h4, h5, h6, h7, h8, by rw [he]; exact h9, h10⟩
theorem vx_L.kept {C n d : String} {A : Nat → Prop} {U : State} {H H1 : Heap} (h : vx_L C n d A U H) (hq : ∀ a : Nat, a < H.size → ¬ A a → H1[a]? = H[a]?) : vx_L C n d A U H1 := by
  obtain ⟨c, k, i, f, a, cell, h1, h2, h3, h4, h5, h6, h7, h8, h9, h10⟩ := h
  exact ⟨c, k, i, f, a, cell, h1, h2, h3, h4, by rw [hq a (Array.getElem?_eq_some_iff.mp h5).1 h10]; exact h5, h6, h7, h8, h9, h10⟩
theorem vx_L.narrow {C n d : String} {A B : Nat → Prop} {U : State} {H : Heap} (h : vx_L C n d A U H) (hAB : ∀ q, B q → A q) : vx_L C n d B U H := by
  obtain ⟨c, k, i, f, a, cell, h1, h2, h3, h4, h5, h6, h7, h8, h9, h10⟩ := h
  exact ⟨c, k, i, f, a, cell, h1, h2, h3, h4, h5, h6, h7, h8, h9, fun z => h10 (hAB _ z)⟩
theorem vx_L.word {C n d : String} {A : Nat → Prop} {s : State} {args : Array Value} (h : vx_L C n d A s s.heap) : (Cond.laysStatic C n d).before args s = true := by
  obtain ⟨c, k, i, f, a, cell, h1, h2, h3, h4, h5, h6, h7, h8, h9, -⟩ := h
  show (Cond.laysStatic C n d).holds args s none s [] = true
  exact Cond.laysStatic_of h1 h2 h3 h4 h5 h6 h7 h8 h9
/-- .. and what it holds: null or some reference -/
def vx_Zq (C n d : String) (A : Nat → Prop) (U : State) (H : Heap) : Prop := va_Zq C n d A U H ∧ vx_L C n d A U H
theorem vx_Zq.moved {C n d : String} {A : Nat → Prop} {u U : State} {H : Heap} (hvm : u.vm.Alike U.vm) (h : vx_Zq C n d A u H) : vx_Zq C n d A U H := ⟨va_Zq.moved hvm h.1, vx_L.moved hvm h.2⟩
theorem vx_Zq.kept {C n d : String} {A : Nat → Prop} {U : State} {H H1 : Heap} (h : vx_Zq C n d A U H) (hq : ∀ a : Nat, a < H.size → ¬ A a → H1[a]? = H[a]?) : vx_Zq C n d A U H1 := ⟨va_Zq.kept h.1 hq, vx_L.kept h.2 hq⟩
theorem vx_Zq.narrow {C n d : String} {A B : Nat → Prop} {U : State} {H : Heap} (h : vx_Zq C n d A U H) (hAB : ∀ q, B q → A q) : vx_Zq C n d B U H := ⟨va_Zq.narrow h.1 hAB, vx_L.narrow h.2 hAB⟩
theorem vx_Zqof {args : Array Value} {s : State} {C n d : String} {A : Nat → Prop} (hl : (Cond.laysStatic C n d).before args s = true) (hini : (Cond.initialized C).before args s = true) (h : (Cond.isRef (.static C n d)).before args s = true) (hA : ∀ a : Nat, a < s.heap.size → ¬ A a) : vx_Zq C n d A s s.heap := by
  refine ⟨va_Zqof hl hini h hA, ?_⟩
  obtain ⟨c, k, i, f, a, cell, h1, h2, h3, h4, h5, h6, h7, h8, h9⟩ := Cond.laysStatic_spec hl
  exact ⟨c, k, i, f, a, cell, h1, h2, h3, h4, h5, h6, h7, h8, h9, hA a (Array.getElem?_eq_some_iff.mp h5).1⟩
theorem vx_isRef {C n d : String} {v : Value} {A : Nat → Prop} {s : State} {args : Array Value} (h : va_Z C n d v A s s.heap) (hv : v.isRef = true) : (Cond.isRef (.static C n d)).before args s = true := by
  obtain ⟨cf, kf, fi, f, a, cell, h1, h2, h3, h4, h5, h6, h7, -⟩ := h
  have he : (Term.static C n d).eval args s none [] s = some v := by
    simp [Term.eval, State.fieldNamed?, h1, h2, h4, h5, h6, h7]
  simp only [Cond.before, Cond.holds, Cond.value, he]
  cases v <;> simp_all [Value.isRef]
theorem vx_isRefq {C n d : String} {A : Nat → Prop} {s : State} {args : Array Value} (h : va_Zq C n d A s s.heap) : (Cond.isRef (.static C n d)).before args s = true := by
  rcases h with h | ⟨t, h⟩
  · exact vx_isRef h rfl
  · exact vx_isRef h rfl
/-- the same frame, seen from here: as if the method were called anew in this heap -/
theorem vx_rebase {T : State} (X : Stand p l e R s m args below meth c T locs cells slots) {R' : Room} (hf : R'.frames ≤ R.frames) (hl : R'.locals ≤ R.locals) (hc : cells + R'.cells ≤ R.cells) (hs : slots + R'.slots ≤ R.slots) :
    Stand p l e R' ((T.setVm s.vm).setFrames (.invoking m args :: below)) m args below meth c T [] 0 0 := by
  have htop : (T.setVm s.vm).topJava?.isSome := X.here.top
  have hF : ((T.setVm s.vm).setFrames (.invoking m args :: below)).frames = .invoking m args :: below := State.frames_setFrames _ (State.cur_lt_of_top htop)
  obtain ⟨g₀, hg0⟩ := Option.isSome_iff_exists.mp htop
  obtain ⟨r, hr⟩ := State.topJava?_eq_some.mp hg0
  have hl9 : e.platform.stackLimits (T.setVm s.vm).me = e.platform.stackLimits s.me := X.limits
  have hb9 : (T.setVm s.vm).me.stackBytes = s.me.stackBytes := X.bytes
  refine ⟨X.admits, X.cas, X.clock, hF, ?_, X.hears, X.method, X.code, X.here, X.tail, X.warmed, ?_, ?_, ?_⟩
  · have h := X.room
    have hU : ((T.setVm s.vm).setFrames (.invoking m args :: below)).localsInUse = s.localsInUse := by
      rw [State.localsInUse_invoking hF (meth := meth) (c := c) X.method X.code, State.localsInUse_invoking X.frames X.method X.code]
    simp only [State.hasRoom, Bool.and_eq_true, decide_eq_true_eq] at h ⊢
    obtain ⟨⟨⟨⟨h1, h2, h3, h4, h5, h6⟩, h7⟩, h8⟩, h9⟩ := h
    rw [X.frames, List.length_cons] at h2 h3
    have q1 := X.heapSize
    have q2 := X.used
    simp only [hF, hU, List.length_cons, State.stackLimits_setFrames, State.stackBytes_setFrames, hl9, hb9]
    refine ⟨⟨⟨⟨by omega, by omega, by omega, by omega, by omega, h6⟩, ?_⟩, ?_⟩, X.book⟩
    · show T.heap.size + R'.cells ≤ e.platform.maxCells
      omega
    · show T.slotsUsed + R'.slots ≤ e.platform.maxSlots
      omega
  · rw [State.stackLimits_setFrames]; rfl
  · rw [State.stackBytes_setFrames]; rfl
  · refine ⟨?_, Nat.le_refl _, Nat.le_refl _, ?_, ?_, fun a c9 h9 => ⟨c9, h9, rfl, rfl, fun _ _ => rfl⟩⟩
    · obtain ⟨t, ht, -⟩ := State.frames_cons hr
      show T.setVm s.vm = { ((T.setVm s.vm).setFrames (.invoking m args :: below)).setFrames (T.setVm s.vm).frames with heap := T.heap, slotsUsed := T.slotsUsed }
      rw [State.setFrames_setFrames, State.setFrames_self ht]
      rfl
    · show T.slotsUsed = T.slotsUsed + ((T.heap.toList.drop T.heap.size).map (·.slots.size)).sum
      rw [List.drop_eq_nil_of_le (Nat.le_of_eq Array.length_toList)]
      rfl
    · show ((T.heap.toList.drop T.heap.size).map (·.slots.size)).sum ≤ 0
      rw [List.drop_eq_nil_of_le (Nat.le_of_eq Array.length_toList)]
      exact Nat.le_refl _
/-- 'throw new E()': new; dup; invokespecial; athrow -/
theorem vx_throw0 {cc : ByteArray} {pc : Nat} (hexec : p.tables.exec = Jvm.exec) (hb : c.code = cc) (hl : l.stackTraces = false) {own cls : String} {names : List String} {ik ic mc ms : Nat} {A : Nat → Prop}
    (hown : s.vm.findClass own = some m.cls) (hcls : Bundle.fit cls = true) (hnames : ∀ n ∈ names, Bundle.fit n = true)
    (hk : (Cond.classLink own ik cls).before args s = true) (hini : (Cond.initialized cls).before args s = true) (hat : ∀ w ∈ vx_at0 own ic cls names, w.before args s = true)
    (hgood : ∀ w ∈ Cond.classLink own ik cls :: Cond.initialized cls :: vx_at0 own ic cls names, vx_ot w = true)
    (hU : vx_Zq Bundle.tN "UNASSIGNED_STACK" Bundle.steD A s s.heap) (hN : vx_Zq Bundle.tN "SUPPRESSED_SENTINEL" Bundle.listD A s s.heap) (hS : va_S A s.heap H locs) (hsize : ls.size = c.maxLocals)
    (d0 : decode cc pc = .ok (.new ik, 3)) (d3 : decode cc (pc + 3) = .ok (.dup, 1)) (d4 : decode cc (pc + 4) = .ok (.invokespecial ic, 3)) (d7 : decode cc (pc + 7) = .ok (.athrow, 1))
    (hout : ∀ x ∈ c.exceptionTable.toList, covers x (pc + 7) = false)
    (hRframes : names.length + 3 < R.frames) (hRlocals : (rest.map fun v => v.category).sum + (13 * (names.length + 1) + 42) ≤ R.locals) (hRcells : cells + 1 ≤ R.cells) (hRslots : slots + 6 ≤ R.slots) (hlocks : meth.locks = false)
    (hx : ∀ t : State, s.vm.Alike t.vm → H.size ≤ t.heap.size → (∀ q : Nat, q < H.size → t.heap[q]? = H[q]?) → XC cls s t)
    (hf : ∀ z ∈ locs, free z.base) (hc : cells + 1 ≤ mc) (hs : slots + 6 ≤ ms) :
    W p l e R s m args below meth c H locs cells slots (vx_MQ below Qc XC args s mc ms free) (F0 m pc ls rest) := by
  intro T hT X
  have htr : e.platform.stackTraces = false := (show e.platform.stackTraces = l.stackTraces by rw [X.admits.platform]).trans hl
  have Y := vx_rebase X (R' := { frames := R.frames, locals := R.locals, cells := 1, slots := 6 }) (Nat.le_refl _) (Nat.le_refl _) hRcells hRslots
  obtain ⟨s', hA⟩ : ∃ z, z = (T.setVm s.vm).setFrames (.invoking m args :: below) := ⟨_, rfl⟩
  rw [← hA] at Y
  have hvm : s'.vm = s.vm := by rw [hA]; rfl
  have hhp : s'.heap = H := by rw [hA]; exact hT
  have hW0 : s.WarmedH s'.vm := by rw [hvm]; exact State.WarmedH.refl s
  have hat' : ∀ w ∈ vx_at0 own ic cls names, w.before args s' = true := fun w hw => vx_ot_at hW0 hvm.symm (hgood w (List.mem_cons_of_mem _ (List.mem_cons_of_mem _ hw))) (hat w hw)
  have hk' : (Cond.classLink own ik cls).before args s' = true := vx_ot_at hW0 hvm.symm (hgood _ List.mem_cons_self) hk
  have hini' : (Cond.initialized cls).before args s' = true := vx_ot_at hW0 hvm.symm (hgood _ (List.mem_cons_of_mem _ List.mem_cons_self)) hini
  have hU' : vx_Zq Bundle.tN "UNASSIGNED_STACK" Bundle.steD A s' s'.heap := by rw [hhp]; exact vx_Zq.moved hW0.alike (hU.kept hS.2.1)
  have hN' : vx_Zq Bundle.tN "SUPPRESSED_SENTINEL" Bundle.listD A s' s'.heap := by rw [hhp]; exact vx_Zq.moved hW0.alike (hN.kept hS.2.1)
  have h : ∀ w ∈ Bundle.ownAtoms0 own ic cls names, w.before args s' = true := vx_own hat' (vx_isRefq hU'.1) (vx_isRefq hN'.1) hU'.2.word hN'.2.word
  have hown' : s'.vm.findClass own = some m.cls := by rw [hvm]; exact hown
  have hins : (Cond.instantiable cls 6).before args s' = true := h _ (by simp [Bundle.ownAtoms0])
  obtain ⟨vm₁, cX, kX, hfX, hkX, -, -, X₁, st1⟩ := Y.newCold hexec (own := own) (C := cls) (index := ik) (n := 6) hown' hk' hins hini'
    (g := F0 m pc ls rest) rfl (by rw [hb]; exact d0) (Nat.le_refl _) (Nat.le_refl _)
  generalize hT1 : (T.setVm vm₁).pushCell { cls := cX, slots := kX.instanceTypes.map defaultValue, vm := .none } = T1 at X₁ st1
  have hcat : (Value.ref T.heap.size).category = 1 := rfl
  have hcellA : T1.heap[T.heap.size]? = some (freshCell cX kX) := by rw [← hT1]; exact State.heap_pushCell_size _ _
  have d3' : decode c.code (pc + 3) = .ok (.dup, 1) := by rw [hb]; exact d3
  obtain ⟨U, hsteps, hrun, hend, hW, hsame, ce, hce, hO⟩ := X₁.ctorThrow0 hexec htr (own := own) (cls := cls) (names := names) (ic := ic) hown' hcls hnames h (fun x hx => nomatch hx) hfX hkX hcellA (by rw [hhp, hT]; exact Nat.le_refl _)
    (g := { method := m, pc := pc + 4, locals := ls, stack := .ref T.heap.size :: .ref T.heap.size :: rest, locked := none }) rfl hsize rfl rfl (rest := rest) rfl
    (by rw [hb]; exact d4) (by rw [hb]; exact d7) hout hRframes (by simp only [List.map_cons, List.sum_cons, hcat]; omega) hlocks
  obtain ⟨f1, f2⟩ := vx_frame hsame
  rw [hhp] at f1 f2
  have hWs : s.WarmedH U.vm := State.WarmedH.trans hW0 hW
  have hcl : s.vm.findClass cls = some ce.cls := by
    have h9 := hO.cls
    rw [hvm] at h9
    exact h9
  have hall : s.sameButNew ({ U with vm := s.vm } : State) locs mc ms := by
    subst hA
    obtain ⟨e1, e2⟩ := hsame
    rw [State.setFrames_setFrames] at e1
    have h2 : (T.setVm s.vm).sameButNew ({ U with vm := s.vm } : State) [] (0 + 1) (0 + 6) := ⟨e1, e2⟩
    have h3 := X.same.trans h2
    rw [List.append_nil] at h3
    exact h3.mono hc hs
  refine ⟨U, ?_, .threw T.heap.size, hrun, hend, Or.inr ⟨T.heap.size, rfl, cls, ce, locs, hx U hWs.alike f1 (fun q hq => f2 q hq (fun z hz => nomatch hz)), hce, hO.vm, hcl, hWs, hall, hf⟩⟩
  refine st1 _ ?_
  show Steps p.tables e below (T1.setTop { method := m, pc := pc + 3, locals := ls, stack := .ref T.heap.size :: rest, locked := none }) _
  jvm_step X₁.here [X₁.here.top, hexec, d3', Value.category]
  exact hsteps
/-- 'throw new E("text")': new; dup; ldc; invokespecial; athrow -/
theorem vx_throwS {cc : ByteArray} {pc : Nat} (hexec : p.tables.exec = Jvm.exec) (hb : c.code = cc) (hl : l.stackTraces = false) {own cls text : String} {names : List String} {ik is ic mc ms sa : Nat} {A : Nat → Prop}
    (hown : s.vm.findClass own = some m.cls) (hcls : Bundle.fit cls = true) (hnames : ∀ n ∈ names, Bundle.fit n = true)
    (hk : (Cond.classLink own ik cls).before args s = true) (hini : (Cond.initialized cls).before args s = true) (hstr : vk_R own is text sa s) (hat : ∀ w ∈ vx_atS own ic cls names, w.before args s = true)
    (hgood : ∀ w ∈ Cond.classLink own ik cls :: Cond.initialized cls :: vx_atS own ic cls names, vx_ot w = true)
    (hU : vx_Zq Bundle.tN "UNASSIGNED_STACK" Bundle.steD A s s.heap) (hN : vx_Zq Bundle.tN "SUPPRESSED_SENTINEL" Bundle.listD A s s.heap) (hS : va_S A s.heap H locs) (hsize : ls.size = c.maxLocals)
    (d0 : decode cc pc = .ok (.new ik, 3)) (d3 : decode cc (pc + 3) = .ok (.dup, 1)) (d4 : decode cc (pc + 4) = .ok (.ldc is, 2)) (d6 : decode cc (pc + 6) = .ok (.invokespecial ic, 3)) (d9 : decode cc (pc + 9) = .ok (.athrow, 1))
    (hout : ∀ x ∈ c.exceptionTable.toList, covers x (pc + 9) = false)
    (hRframes : names.length + 3 < R.frames) (hRlocals : (rest.map fun v => v.category).sum + (13 * (names.length + 1) + 43) ≤ R.locals) (hRcells : cells + 1 ≤ R.cells) (hRslots : slots + 6 ≤ R.slots) (hlocks : meth.locks = false)
    (hx : ∀ t : State, s.vm.Alike t.vm → H.size ≤ t.heap.size → (∀ q : Nat, q < H.size → t.heap[q]? = H[q]?) → XC cls s t)
    (hf : ∀ z ∈ locs, free z.base) (hc : cells + 1 ≤ mc) (hs : slots + 6 ≤ ms) :
    W p l e R s m args below meth c H locs cells slots (vx_MQ below Qc XC args s mc ms free) (F0 m pc ls rest) := by
  intro T hT X
  have htr : e.platform.stackTraces = false := (show e.platform.stackTraces = l.stackTraces by rw [X.admits.platform]).trans hl
  have Y := vx_rebase X (R' := { frames := R.frames, locals := R.locals, cells := 1, slots := 6 }) (Nat.le_refl _) (Nat.le_refl _) hRcells hRslots
  obtain ⟨s', hA⟩ : ∃ z, z = (T.setVm s.vm).setFrames (.invoking m args :: below) := ⟨_, rfl⟩
  rw [← hA] at Y
  have hvm : s'.vm = s.vm := by rw [hA]; rfl
  have hhp : s'.heap = H := by rw [hA]; exact hT
  have hW0 : s.WarmedH s'.vm := by rw [hvm]; exact State.WarmedH.refl s
  have hat' : ∀ w ∈ vx_atS own ic cls names, w.before args s' = true := fun w hw => vx_ot_at hW0 hvm.symm (hgood w (List.mem_cons_of_mem _ (List.mem_cons_of_mem _ hw))) (hat w hw)
  have hk' : (Cond.classLink own ik cls).before args s' = true := vx_ot_at hW0 hvm.symm (hgood _ List.mem_cons_self) hk
  have hini' : (Cond.initialized cls).before args s' = true := vx_ot_at hW0 hvm.symm (hgood _ (List.mem_cons_of_mem _ List.mem_cons_self)) hini
  have hU' : vx_Zq Bundle.tN "UNASSIGNED_STACK" Bundle.steD A s' s'.heap := by rw [hhp]; exact vx_Zq.moved hW0.alike (hU.kept hS.2.1)
  have hN' : vx_Zq Bundle.tN "SUPPRESSED_SENTINEL" Bundle.listD A s' s'.heap := by rw [hhp]; exact vx_Zq.moved hW0.alike (hN.kept hS.2.1)
  have h : ∀ w ∈ Bundle.ownAtoms own ic cls names, w.before args s' = true := vx_own hat' (vx_isRefq hU'.1) (vx_isRefq hN'.1) hU'.2.word hN'.2.word
  have hown' : s'.vm.findClass own = some m.cls := by rw [hvm]; exact hown
  have hins : (Cond.instantiable cls 6).before args s' = true := h _ (by simp [Bundle.ownAtoms])
  obtain ⟨vm₁, cX, kX, hfX, hkX, -, -, X₁, st1⟩ := Y.newCold hexec (own := own) (C := cls) (index := ik) (n := 6) hown' hk' hins hini'
    (g := F0 m pc ls rest) rfl (by rw [hb]; exact d0) (Nat.le_refl _) (Nat.le_refl _)
  generalize hT1 : (T.setVm vm₁).pushCell { cls := cX, slots := kX.instanceTypes.map defaultValue, vm := .none } = T1 at X₁ st1
  have hcat : (Value.ref T.heap.size).category = 1 := rfl
  have hcellA : T1.heap[T.heap.size]? = some (freshCell cX kX) := by rw [← hT1]; exact State.heap_pushCell_size _ _
  have d3' : decode c.code (pc + 3) = .ok (.dup, 1) := by rw [hb]; exact d3
  have d4' : decode c.code (pc + 4) = .ok (.ldc is, 2) := by rw [hb]; exact d4
  have hstr' : vk_R own is text sa s' := vk_R.warm hW0 hstr
  obtain ⟨U, hsteps, hrun, hend, hW, hsame, ce, hce, hO⟩ := X₁.ctorThrowS hexec htr (own := own) (cls := cls) (names := names) (ic := ic) hown' hcls hnames h (fun x hx => nomatch hx) hfX hkX hcellA (by rw [hhp, hT]; exact Nat.le_refl _) (msg := .ref sa) rfl
    (g := { method := m, pc := pc + 6, locals := ls, stack := .ref sa :: .ref T.heap.size :: .ref T.heap.size :: rest, locked := none }) rfl hsize rfl rfl (rest := rest) rfl
    (by rw [hb]; exact d6) (by rw [hb]; exact d9) hout hRframes (by simp only [List.map_cons, List.sum_cons, hcat]; omega) hlocks
  obtain ⟨f1, f2⟩ := vx_frame hsame
  rw [hhp] at f1 f2
  have hWs : s.WarmedH U.vm := State.WarmedH.trans hW0 hW
  have hcl : s.vm.findClass cls = some ce.cls := by
    have h9 := hO.cls
    rw [hvm] at h9
    exact h9
  have hall : s.sameButNew ({ U with vm := s.vm } : State) locs mc ms := by
    subst hA
    obtain ⟨e1, e2⟩ := hsame
    rw [State.setFrames_setFrames] at e1
    have h2 : (T.setVm s.vm).sameButNew ({ U with vm := s.vm } : State) [] (0 + 1) (0 + 6) := ⟨e1, e2⟩
    have h3 := X.same.trans h2
    rw [List.append_nil] at h3
    exact h3.mono hc hs
  refine ⟨U, ?_, .threw T.heap.size, hrun, hend, Or.inr ⟨T.heap.size, rfl, cls, ce, locs, hx U hWs.alike f1 (fun q hq => f2 q hq (fun z hz => nomatch hz)), hce, hO.vm, hcl, hWs, hall, hf⟩⟩
  refine st1 _ ?_
  show Steps p.tables e below (T1.setTop { method := m, pc := pc + 3, locals := ls, stack := .ref T.heap.size :: rest, locked := none }) _
  jvm_step X₁.here [X₁.here.top, hexec, d3', Value.category]
  exact X₁.ldcString hexec (own := own) (text := text) (index := is) (a := sa) hown' hstr'.1 hstr'.2
    (g := { method := m, pc := pc + 4, locals := ls, stack := .ref T.heap.size :: .ref T.heap.size :: rest, locked := none }) rfl d4' _ hsteps
/-- 'throw new E("text")', the text by a wide index -/
theorem vx_throwSW {cc : ByteArray} {pc : Nat} (hexec : p.tables.exec = Jvm.exec) (hb : c.code = cc) (hl : l.stackTraces = false) {own cls text : String} {names : List String} {ik is ic mc ms sa : Nat} {A : Nat → Prop}
    (hown : s.vm.findClass own = some m.cls) (hcls : Bundle.fit cls = true) (hnames : ∀ n ∈ names, Bundle.fit n = true)
    (hk : (Cond.classLink own ik cls).before args s = true) (hini : (Cond.initialized cls).before args s = true) (hstr : vk_R own is text sa s) (hat : ∀ w ∈ vx_atS own ic cls names, w.before args s = true)
    (hgood : ∀ w ∈ Cond.classLink own ik cls :: Cond.initialized cls :: vx_atS own ic cls names, vx_ot w = true)
    (hU : vx_Zq Bundle.tN "UNASSIGNED_STACK" Bundle.steD A s s.heap) (hN : vx_Zq Bundle.tN "SUPPRESSED_SENTINEL" Bundle.listD A s s.heap) (hS : va_S A s.heap H locs) (hsize : ls.size = c.maxLocals)
    (d0 : decode cc pc = .ok (.new ik, 3)) (d3 : decode cc (pc + 3) = .ok (.dup, 1)) (d4 : decode cc (pc + 4) = .ok (.ldc_w is, 3)) (d7 : decode cc (pc + 7) = .ok (.invokespecial ic, 3)) (d10 : decode cc (pc + 10) = .ok (.athrow, 1))
    (hout : ∀ x ∈ c.exceptionTable.toList, covers x (pc + 10) = false)
    (hRframes : names.length + 3 < R.frames) (hRlocals : (rest.map fun v => v.category).sum + (13 * (names.length + 1) + 43) ≤ R.locals) (hRcells : cells + 1 ≤ R.cells) (hRslots : slots + 6 ≤ R.slots) (hlocks : meth.locks = false)
    (hx : ∀ t : State, s.vm.Alike t.vm → H.size ≤ t.heap.size → (∀ q : Nat, q < H.size → t.heap[q]? = H[q]?) → XC cls s t)
    (hf : ∀ z ∈ locs, free z.base) (hc : cells + 1 ≤ mc) (hs : slots + 6 ≤ ms) :
    W p l e R s m args below meth c H locs cells slots (vx_MQ below Qc XC args s mc ms free) (F0 m pc ls rest) := by
  intro T hT X
  have htr : e.platform.stackTraces = false := (show e.platform.stackTraces = l.stackTraces by rw [X.admits.platform]).trans hl
  have Y := vx_rebase X (R' := { frames := R.frames, locals := R.locals, cells := 1, slots := 6 }) (Nat.le_refl _) (Nat.le_refl _) hRcells hRslots
  obtain ⟨s', hA⟩ : ∃ z, z = (T.setVm s.vm).setFrames (.invoking m args :: below) := ⟨_, rfl⟩
  rw [← hA] at Y
  have hvm : s'.vm = s.vm := by rw [hA]; rfl
  have hhp : s'.heap = H := by rw [hA]; exact hT
  have hW0 : s.WarmedH s'.vm := by rw [hvm]; exact State.WarmedH.refl s
  have hat' : ∀ w ∈ vx_atS own ic cls names, w.before args s' = true := fun w hw => vx_ot_at hW0 hvm.symm (hgood w (List.mem_cons_of_mem _ (List.mem_cons_of_mem _ hw))) (hat w hw)
  have hk' : (Cond.classLink own ik cls).before args s' = true := vx_ot_at hW0 hvm.symm (hgood _ List.mem_cons_self) hk
  have hini' : (Cond.initialized cls).before args s' = true := vx_ot_at hW0 hvm.symm (hgood _ (List.mem_cons_of_mem _ List.mem_cons_self)) hini
  have hU' : vx_Zq Bundle.tN "UNASSIGNED_STACK" Bundle.steD A s' s'.heap := by rw [hhp]; exact vx_Zq.moved hW0.alike (hU.kept hS.2.1)
  have hN' : vx_Zq Bundle.tN "SUPPRESSED_SENTINEL" Bundle.listD A s' s'.heap := by rw [hhp]; exact vx_Zq.moved hW0.alike (hN.kept hS.2.1)
  have h : ∀ w ∈ Bundle.ownAtoms own ic cls names, w.before args s' = true := vx_own hat' (vx_isRefq hU'.1) (vx_isRefq hN'.1) hU'.2.word hN'.2.word
  have hown' : s'.vm.findClass own = some m.cls := by rw [hvm]; exact hown
  have hins : (Cond.instantiable cls 6).before args s' = true := h _ (by simp [Bundle.ownAtoms])
  obtain ⟨vm₁, cX, kX, hfX, hkX, -, -, X₁, st1⟩ := Y.newCold hexec (own := own) (C := cls) (index := ik) (n := 6) hown' hk' hins hini'
    (g := F0 m pc ls rest) rfl (by rw [hb]; exact d0) (Nat.le_refl _) (Nat.le_refl _)
  generalize hT1 : (T.setVm vm₁).pushCell { cls := cX, slots := kX.instanceTypes.map defaultValue, vm := .none } = T1 at X₁ st1
  have hcat : (Value.ref T.heap.size).category = 1 := rfl
  have hcellA : T1.heap[T.heap.size]? = some (freshCell cX kX) := by rw [← hT1]; exact State.heap_pushCell_size _ _
  have d3' : decode c.code (pc + 3) = .ok (.dup, 1) := by rw [hb]; exact d3
  have d4' : decode c.code (pc + 4) = .ok (.ldc_w is, 3) := by rw [hb]; exact d4
  have hstr' : vk_R own is text sa s' := vk_R.warm hW0 hstr
  obtain ⟨U, hsteps, hrun, hend, hW, hsame, ce, hce, hO⟩ := X₁.ctorThrowS hexec htr (own := own) (cls := cls) (names := names) (ic := ic) hown' hcls hnames h (fun x hx => nomatch hx) hfX hkX hcellA (by rw [hhp, hT]; exact Nat.le_refl _) (msg := .ref sa) rfl
    (g := { method := m, pc := pc + 7, locals := ls, stack := .ref sa :: .ref T.heap.size :: .ref T.heap.size :: rest, locked := none }) rfl hsize rfl rfl (rest := rest) rfl
    (by rw [hb]; exact d7) (by rw [hb]; exact d10) hout hRframes (by simp only [List.map_cons, List.sum_cons, hcat]; omega) hlocks
  obtain ⟨f1, f2⟩ := vx_frame hsame
  rw [hhp] at f1 f2
  have hWs : s.WarmedH U.vm := State.WarmedH.trans hW0 hW
  have hcl : s.vm.findClass cls = some ce.cls := by
    have h9 := hO.cls
    rw [hvm] at h9
    exact h9
  have hall : s.sameButNew ({ U with vm := s.vm } : State) locs mc ms := by
    subst hA
    obtain ⟨e1, e2⟩ := hsame
    rw [State.setFrames_setFrames] at e1
    have h2 : (T.setVm s.vm).sameButNew ({ U with vm := s.vm } : State) [] (0 + 1) (0 + 6) := ⟨e1, e2⟩
    have h3 := X.same.trans h2
    rw [List.append_nil] at h3
    exact h3.mono hc hs
  refine ⟨U, ?_, .threw T.heap.size, hrun, hend, Or.inr ⟨T.heap.size, rfl, cls, ce, locs, hx U hWs.alike f1 (fun q hq => f2 q hq (fun z hz => nomatch hz)), hce, hO.vm, hcl, hWs, hall, hf⟩⟩
  refine st1 _ ?_
  show Steps p.tables e below (T1.setTop { method := m, pc := pc + 3, locals := ls, stack := .ref T.heap.size :: rest, locked := none }) _
  jvm_step X₁.here [X₁.here.top, hexec, d3', Value.category]
  exact X₁.ldcStringW hexec (own := own) (text := text) (index := is) (a := sa) hown' hstr'.1 hstr'.2
    (g := { method := m, pc := pc + 4, locals := ls, stack := .ref T.heap.size :: .ref T.heap.size :: rest, locked := none }) rfl d4' _ hsteps
end Ends
section Bodies
variable {l : Launch}
theorem vx_ofW {y : MethodName} {ws ws' : List Cond} {rm : Room} {Pc : Array Value → State → Prop} {Qc : Array Value → State → Outcome → State → Prop} {XC : String → State → State → Prop} {mc ms : Nat} {free : Addr → Prop} {cc : ByteArray} {maxL : Nat} {ret : Option FieldType}
    (hy : plainName y.cls = true) (hw : ws = Cond.code y cc maxL ret :: ws')
    (body : ∀ p e s m args below meth c s₁, BodyLoose p l y (headSpec ws rm) cc maxL ret e s m args below meth c s₁ → c.maxLocals = maxL → (∀ x ∈ c.exceptionTable.toList, False) → Pc args s →
      W p l e (headSpec ws rm).room s m args below meth c s.heap [] 0 0 (vx_MQ below Qc XC args s mc ms free) (entryFrame m args maxL)) : vx_Met l y ws rm Pc Qc XC mc ms free := by
  refine MetFree.of_bodyS (code := cc) (maxLocals := maxL) (ret := ret) hy ?_ ?_
  · intro args s m h hn
    obtain ⟨meth, c, h1, h2, h3, h4, h5, h6, -, -⟩ := Cond.code_spec hn (atoms_spec (ws := ws) h _ (by rw [hw]; exact List.mem_cons_self))
    exact ⟨meth, c, h1, h2, h3, h4, h5, h6⟩
  · intro p e s m args below meth c s₁ B hml hP _
    have hh0 : s₁.heap = s.heap := by rw [B.state]; rfl
    have ht : ∀ x ∈ c.exceptionTable.toList, False := by
      obtain ⟨meth9, c9, h1, h2, -, -, -, -, h7, -⟩ := Cond.code_spec B.named (atoms_spec (ws := ws) B.pre _ (by rw [hw]; exact List.mem_cons_self))
      cases Option.some.inj (h1.symm.trans B.method)
      cases Option.some.inj (h2.symm.trans (Stand.of_body B).code)
      intro x hx
      rw [Array.isEmpty_iff.mp h7] at hx
      cases hx
    obtain ⟨t, a1, o, b1, b2, b3⟩ := body p e s m args below meth c s₁ B hml ht hP s₁ hh0 (Stand.of_body B)
    exact ⟨t, o, a1, b1, b2, b3⟩
/-- the table of a body with handlers -/
theorem vx_table {p : Program} {x y : MethodName} {S : Spec} {cc bytes : ByteArray} {maxL maxL' : Nat} {ret ret' : Option FieldType} {e : Env} {s s₁ : State} {m : MethodId} {args : Array Value} {below : List Frame} {meth : Method} {c : Code} {hh : List (Nat × Nat × Nat × Nat)}
    (B : BodyLoose p l y S cc maxL ret e s m args below meth c s₁) (h : (Cond.codeWith y bytes maxL' ret' hh).before args s = true) : c.exceptionTable.toList = tableOf hh := by
  obtain ⟨m9, meth9, c9, hn9, h1, h2, -, -, h6, -⟩ := Cond.codeWith_spec h
  cases Option.some.inj (hn9.symm.trans B.named)
  cases Option.some.inj (h1.symm.trans B.method)
  cases Option.some.inj (h2.symm.trans (Stand.of_body B).code)
  rw [← h6, table_eq]
end Bodies
end VXA
/-! ===== END ===== -/
/-! ===== BEGIN a static call of a method with an exception table ===== -/
section VXS
variable {p : Program} {l : Launch} {e : Env} {R : Room} {s : State} {m : MethodId} {args : Array Value} {below : List Frame} {meth : Method} {c : Code} {T : State} {H : Heap} {locs : List Loc} {cells slots : Nat}
abbrev vx_CSW (R : Room) (s : State) (args : Array Value) (own : String) (index : Nat) (y : MethodName) (bytes : ByteArray) (maxL : Nat) (ret : Option FieldType) (hh : List (Nat × Nat × Nat × Nat)) (ws : List Cond) (rm : Room) (mc ms n : Nat) : Prop :=
  (rm.cells = mc ∧ rm.slots = ms ∧ rm.frames + 1 ≤ R.frames ∧ 8 + (maxL + 11) + rm.locals ≤ R.locals ∧ (∀ w ∈ ws, ∀ (a' : Array Value) (U : State), s.WarmedH U.vm → w.before a' U = true) ∧ Cond.codeWith y bytes maxL ret hh ∈ ws) ∧
  (Cond.codeWith y bytes maxL ret hh).before args s = true ∧ (Cond.initialized y.cls).before args s = true ∧ (y.cls ≠ "java/lang/invoke/MethodHandle" ∧ y.cls ≠ "java/lang/invoke/VarHandle") ∧
  (∀ sig, parseMethodDescriptor y.desc = some sig → n = sig.parameters.length) ∧ (Cond.methodLink own index y).before args s = true ∧ (Cond.static y).before args s = true
theorem vx_cwSW {own : String} {index maxL mc ms : Nat} {y : MethodName} {bytes : ByteArray} {ret : Option FieldType} {hh : List (Nat × Nat × Nat × Nat)} {Ts ws ws' : List Cond} {rm : Room} (n : Nat) (ht : ∀ w ∈ Ts, w.before args s = true) (hT : GoodIn Ts (va_wsS own index y ws)) (hw : ws = Cond.codeWith y bytes maxL ret hh :: ws') (hrc : rm.cells = mc) (hrs : rm.slots = ms)
    (hd : y.cls ≠ "java/lang/invoke/MethodHandle" ∧ y.cls ≠ "java/lang/invoke/VarHandle" ∧ (parseMethodDescriptor y.desc).map (fun d => d.parameters.length) = some n) (hR : rm.frames + 1 ≤ R.frames ∧ 8 + (maxL + 11) + rm.locals ≤ R.locals) :
    vx_CSW R s args own index y bytes maxL ret hh ws rm mc ms n := by
  have ok : ∀ w ∈ va_wsS own index y ws, w.before args s = true := fun w h => ht w (hT w h).1
  have hG : GoodIn Ts ws := fun w h => hT w (by unfold va_wsS; exact List.mem_append_right _ h)
  have hc : Cond.codeWith y bytes maxL ret hh ∈ ws := by rw [hw]; exact List.mem_cons_self
  refine ⟨⟨hrc, hrs, hR.1, hR.2, pay_in ht hG, hc⟩, ht _ (hG _ hc).1, ok _ (by simp [va_wsS]), ⟨hd.1, hd.2.1⟩, fun sig h => ?_, ok _ (by simp [va_wsS]), ok _ (by simp [va_wsS])⟩
  have h2 := hd.2.2
  rw [h] at h2
  exact (Option.some.inj h2).symm
theorem vx_callSW (X : Stand p l e R s m args below meth c T locs cells slots) (hexec : p.tables.exec = Jvm.exec) {own : String} {index : Nat} {y : MethodName} {bytes : ByteArray} {maxL : Nat} {ret : Option FieldType} {hh : List (Nat × Nat × Nat × Nat)}
    (hown : s.vm.findClass own = some m.cls) (hlink : (Cond.methodLink own index y).before args s = true) (hstat : (Cond.static y).before args s = true) (hinit : (Cond.initialized y.cls).before args s = true)
    (hcode : (Cond.codeWith y bytes maxL ret hh).before args s = true) (hy : y.cls ≠ "java/lang/invoke/MethodHandle" ∧ y.cls ≠ "java/lang/invoke/VarHandle")
    {W9 : Nat} {Pre : Pt → Array Value → Prop} {Post : Pt → Array Value → Option Value → Pt → Prop} (hK : Back l R p e below s args y 3 W9 Pre Post)
    {g : JFrame} (hg : g.method = m) (hsize : g.locals.size = c.maxLocals) {argsL rest : List Value} (hlen : ∀ sig, parseMethodDescriptor y.desc = some sig → argsL.length = sig.parameters.length)
    (hstack : g.stack = argsL.reverse ++ rest) (hW : 2 * g.monitorRoom + (rest.map fun v => v.category).sum ≤ W9) (hdg : decode c.code g.pc = .ok (.invokestatic index, 3))
    (hpre : ∀ vm₁, s.WarmedH vm₁ → Pre ⟨T.setVm vm₁, locs, cells, slots⟩ argsL.toArray) :
    ∃ (v : Option Value) (vm₁ : Vm) (B : Pt), s.WarmedH vm₁ ∧ Stand p l e R s m args below meth c B.U B.locs B.cells B.slots ∧ Post ⟨T.setVm vm₁, locs, cells, slots⟩ argsL.toArray v B ∧
      ∀ target, Steps p.tables e below (B.U.setTop { g with pc := g.pc + 3, stack := v.toList ++ rest }) target → Steps p.tables e below (T.setTop g) target := by
  obtain ⟨mk, methM, cM, hnamed, hmethM, -, -, -, -, -, -, hsigM⟩ := Cond.codeWith_spec hcode
  have hstatic : methM.isStatic = true := Cond.static_spec hnamed hmethM hstat
  obtain ⟨kP, hkP, -⟩ := className_of_methodNamed hnamed
  have hinitP : kP.init = .initialized := Cond.initialized_spec (findClass_of_methodNamed hnamed) hkP hinit
  obtain ⟨vm₁, X₁, hstep₁⟩ := X.invokestatic hexec hown hlink hnamed hmethM hstatic hkP hinitP hy (g := g) hg (argsL := argsL) (rest := rest) (hlen _ hsigM) hstack hdg
  obtain ⟨v, B, X', hpost, hsteps⟩ := hK m meth c ⟨T.setVm vm₁, locs, cells, slots⟩ { g with stack := rest } (.invokestatic index) mk argsL.toArray X₁ hg hsize hdg hW (X₁.named hnamed) (hpre vm₁ X₁.warmed)
  exact ⟨v, vm₁, B, X₁.warmed, X', hpost, fun target h => hstep₁ _ fun acts => by rw [doInvoke_state]; exact hsteps.trans h⟩
theorem vx_runSW {y : MethodName} {bytes cc : ByteArray} {maxL nL mc ms n index : Nat} {ret : Option FieldType} {hh : List (Nat × Nat × Nat × Nat)} {ws : List Cond} {rm : Room} {Pc : Array Value → State → Prop} {Qc : Array Value → State → Outcome → State → Prop} {free : Addr → Prop} {Ts : List Cond} {own : String} {As rest : List Value} {g : JFrame}
    (S : CallFix p m c cc nL s args Ts own) (hM : Met l y ws rm Pc Qc mc ms free) (cw : vx_CSW R s args own index y bytes maxL ret hh ws rm mc ms n) (hp : PreS s H Pc As)
    (hg : g.method = m) (hn : As.length = n) (hsize : g.locals.size = nL) (hstack : g.stack = As.reverse ++ rest) (hW : 2 * g.monitorRoom + (rest.map fun v => v.category).sum ≤ 8) (hdg : decode cc g.pc = .ok (.invokestatic index, 3)) (hf : cells + mc ≤ R.cells ∧ slots + ms ≤ R.slots) :
    va_Run p l e R s m args below meth c H locs cells slots mc ms g rest (Qc As.toArray) (free) := by
  obtain ⟨⟨hrc, hrs, hfr, hlo, hws, hcw⟩, hcode, hini, hy, hlen, hl, hstt⟩ := cw
  have hK : Back l R p e below s args y 3 8 (PreOf R mc ms Pc) (PostOf Qc mc ms free) := va_backW (hh := hh) (bytes := bytes) (maxL := maxL) (ret := ret) hM hp.1 hrc hrs hfr hlo hws hcw (fun a' U hW => word_at hW (Or.inl (by first | rfl | simp [Cond.onTables, Cond.keeps, Cond.steady])) hini)
  obtain ⟨hx, hb, hml, ho, -⟩ := S
  intro T hT X
  obtain ⟨v, vm₁, ⟨U', l2, c2, s2⟩, hW₁, X', ⟨g', mk, t, L, e1, e2, hq, h1, hL, h2, h3⟩, st⟩ := vx_callSW X hx (hh := hh) (bytes := bytes) (maxL := maxL) (ret := ret) ho hl hstt hini hcode hy hK hg (hsize.trans hml.symm) (argsL := As) (rest := rest) (fun sig h => hn.trans (hlen sig h)) hstack hW (by rw [hb]; exact hdg)
    (fun vm₁ hW₁ => ⟨hf.1, hf.2, hp.2 (T.setVm vm₁) hT hW₁⟩)
  dsimp only [Pt.U, Pt.locs, Pt.cells, Pt.slots] at X' e1 e2 h1 h2 h3 st
  subst h1; subst h2; subst h3
  exact ⟨v, (T.setVm vm₁).calling g' mk As.toArray, t, U', L, hT, X', hL, e1, e2, hq, st⟩
/-- not caught here, past rows that name other classes: it goes on to the caller -/
theorem vx_outP {p : Program} {l : Launch} {e : Env} {R : Room} {s : State} {m : MethodId} {args : Array Value} {below : List Frame} {meth : Method} {c : Code} {H : Heap} {locs : List Loc} {cells slots : Nat} {free : Addr → Prop} {ls : Array Slot} {rest : List Value} {Qc : Array Value → State → Outcome → State → Prop} {XC : String → State → State → Prop}
    {pc : Nat} {own E : String} {ce : Cell} {q : Addr} {mc ms : Nat} (hown : s.vm.findClass own = some m.cls) (hlocks : meth.locks = false)
    (hpass : ∀ z ∈ c.exceptionTable.toList, covers z pc = false ∨ (z.catchType ≠ 0 ∧ ∃ nm : String, (Cond.classLink own z.catchType nm).before args s = true ∧ va_Nc E nm s)) (hcell : H[q]? = some ce) (hv : ce.vm = .none) (hcl : s.vm.findClass E = some ce.cls)
    (hx : ∀ t : State, t.heap = H → s.vm.Alike t.vm → XC E s t) (hf : ∀ z ∈ locs, free z.base) (hc : cells ≤ mc) (hs : slots ≤ ms) :
    vx_W p l e R s m args below meth c H locs cells slots (vx_MQ below Qc XC args s mc ms free) (F0 m pc ls rest) q := by
  intro T hT X
  have hpl : e.platform.magicAccessors = ({} : Platform).magicAccessors := by rw [X.admits.platform]
  obtain ⟨vm', hW', X', st⟩ := X.outThrough hlocks q (g := F0 m pc ls rest) rfl rfl rfl (cell := ce) (by rw [hT]; exact hcell) (by rw [hv]; rfl)
    (by obtain ⟨k9, h9, -⟩ := Vm.findClass_spec hcl; exact ⟨k9, h9⟩) (fun z hz => by
      rcases hpass z hz with h | ⟨hz0, nm, hl1, hn1⟩
      · exact Or.inl h
      · obtain ⟨c6, hc6, hcl6⟩ := Cond.classLink_spec hown hl1 e.platform hpl
        obtain ⟨a8, b8, h1, h2, h3⟩ := hn1
        cases Option.some.inj (h1.symm.trans hcl)
        cases Option.some.inj (h2.symm.trans hc6)
        exact Or.inr ⟨hz0, _, hcl6, h3⟩)
  obtain ⟨g₀, hfr⟩ := X'.frames_eq
  have hcell9 : ((T.setVm vm').setFrames (.throwing q :: below)).heap[q]? = some ce := by
    show T.heap[q]? = some ce
    rw [hT]; exact hcell
  have hend : Ended ((T.setVm vm').setFrames (.throwing q :: below)) below (.threw q) := State.frames_setFrames _ (State.cur_lt_of_frames hfr)
  refine ⟨(T.setVm vm').setFrames (.throwing q :: below), ?_, .threw q, X'.here.running, hend, Or.inr ⟨q, rfl, E, ce, locs, hx _ hT (X'.ends _).1.alike, hcell9, hv, hcl, (X'.ends _).1, (X'.ends _).2.mono hc hs, hf⟩⟩
  rw [X.pushThrowing_eq]
  exact st
/-- a thing of a world lies in the heap -/
theorem vx_lt {D : va_G} {cl : List vw_C} {ws : va_W} {H1 : Heap} (h : va_P D cl ws H1) {k : Nat} {q : Nat × va_E} (hk : ws[k]? = some q) : q.1 < H1.size := (h k q hk).lt
end VXS
/-! ===== END ===== -/
/-! ===== BEGIN methods with a table of their own: called by a name, returning or throwing ===== -/
section VXH
/-! vx_backW, vx_callVX, vx_callSX, vx_callVW, vx_runVW, vx_runVX, vx_runSX, vx_ofWH follow the same proofs as their sisters above (Free/Laws.lean, Shelf42/LK1.lean); vx_outP calls Shelf42/NT130.lean (outThrough). -/
section
variable {l : Launch} {R : Room} {p : Program} {e : Env} {below : List Frame} {s : State} {sargs : Array Value} {y : MethodName} {len W9 : Nat}
theorem vx_backW {ws : List Cond} {rm : Room} {Pc : Array Value → State → Prop} {Qc : Array Value → State → Outcome → State → Prop} {XC : String → State → State → Prop} {mc ms : Nat} {free : Addr → Prop} {bytes : ByteArray} {maxL : Nat} {ret : Option FieldType} {hh : List (Nat × Nat × Nat × Nat)}
    (hM : vx_Met l y ws rm Pc Qc XC mc ms free) (hblind : FrameBlind Pc) (hrc : rm.cells = mc) (hrs : rm.slots = ms)
    (hframes : rm.frames + 1 ≤ R.frames) (hlocals : W9 + (maxL + 11) + rm.locals ≤ R.locals)
    (hws : ∀ w ∈ ws, ∀ a' U, s.WarmedH U.vm → w.before a' U = true) (hcode : Cond.codeWith y bytes maxL ret hh ∈ ws) (hinit : ∀ a' U, s.WarmedH U.vm → (Cond.initialized y.cls).before a' U = true) :
    vx_Back l R p e below s sargs y len W9 (PreOf R mc ms Pc) (PostOf Qc mc ms free) (vx_Post XC mc ms free) := by
  intro m meth c A g ig mk a X hg hsize hdg hW hn hp
  have h1 : (headSpec ws rm).pre.before a A.U = true := atoms_intro fun w hw => hws w hw _ _ X.warmed
  have h2 : (Cond.codeWith y bytes maxL ret hh).before a A.U = true := hws _ hcode _ _ X.warmed
  have h3 : (Cond.initialized y.cls).before a A.U = true := hinit _ _ X.warmed
  have h4 : A.cells + (headSpec ws rm).room.cells ≤ R.cells := by rw [show (headSpec ws rm).room.cells = mc from hrc]; exact hp.1
  have h5 : A.slots + (headSpec ws rm).room.slots ≤ R.slots := by rw [show (headSpec ws rm).room.slots = ms from hrs]; exact hp.2.1
  have hPc : Pc a (A.U.calling g mk a) := hblind _ _ _ _ hp.2.2
  obtain ⟨U, Ls, c0, s0⟩ := A
  dsimp only [Pt.U, Pt.locs, Pt.cells, Pt.slots] at h1 h2 h3 h4 h5 X hn hPc ⊢
  obtain ⟨m9, methY, cY, hn9, hmY, hcY, -, hlY, -⟩ := Cond.codeWith_spec h2
  cases Option.some.inj (hn9.symm.trans hn)
  obtain ⟨kY, hkY, -⟩ := className_of_methodNamed hn
  have hinitY : kY.init = .initialized := Cond.initialized_spec (findClass_of_methodNamed hn) hkY h3
  have h : At U g.method c below := by rw [hg]; exact X.here
  have hlocals9 : W9 + (maxL + 11) + (headSpec ws rm).room.locals ≤ R.locals := hlocals
  have happ : (headSpec ws rm).appliesLoose y e.platform (U.calling g mk a) = true :=
    Spec.appliesLoose_calling (g := g) h hdg hn hkY hinitY
      (X.room_calling (g := g) (R' := (headSpec ws rm).room) hsize hmY hcY hframes (by rw [hlY]; omega) h4 h5) h1
  obtain ⟨mid, hmid⟩ := h.above
  have hfr : (U.setTop g).frames = (.java g :: mid) ++ below := by rw [State.frames_setTop' g h.top, hmid]; rfl
  obtain ⟨o, s₂, hsteps, -, hend, hq⟩ := Steps.callFree hM p X.admits X.cas X.clock (acts := []) hfr happ hPc trivial
  have hq' : vx_Q Qc XC mc ms free a (U.calling g mk a) o s₂ := hq
  rw [State.frames_setTop' g h.top] at hend
  obtain ⟨g₀, hg0⟩ := Option.isSome_iff_exists.mp h.top
  obtain ⟨r, hr⟩ := State.topJava?_eq_some.mp hg0
  have hr' : (({ U with heap := s₂.heap, slotsUsed := s₂.slotsUsed } : State).setVm s₂.vm).frames = .java g₀ :: r := hr
  rcases hq' with ⟨hqc, L, hfe, hL⟩ | ⟨q, rfl, E, ce, L, hx, hce, hcv, hcl, hW₂, hsm, hL⟩
  · obtain ⟨⟨v, rfl⟩, hW₂, e2, q2, q3, q4, q5, q6⟩ := id hfe
    have e3 : s₂ = ({ (U.calling g mk a).setFrames s₂.frames with heap := s₂.heap, slotsUsed := s₂.slotsUsed } : State).setVm s₂.vm := by
      have : s₂ = ({ s₂ with vm := (U.calling g mk a).vm } : State).setVm s₂.vm := rfl
      rw [e2] at this
      exact this
    obtain ⟨c₂, i₂, len₂, hc₂, hd₂, hf₂⟩ := hend
    have hW' : U.WarmedH s₂.vm := hW₂
    have hcc : c₂ = c := by
      have h1 : s₂.code? g.method = U.code? g.method := by
        rw [State.code?_eq, State.code?_eq, hW'.alike.method?]
      exact Option.some.inj (hc₂.symm.trans (h1.trans h.code))
    subst hcc
    have hlen : len₂ = len := by rw [hdg] at hd₂; cases hd₂; rfl
    subst hlen
    have hs₂ : s₂ = (({ U with heap := s₂.heap, slotsUsed := s₂.slotsUsed } : State).setVm s₂.vm).setTop { g with pc := g.pc + len₂, stack := v.toList ++ g.stack } := by
      refine e3.trans ?_
      rw [hf₂, State.calling_eq h.top, State.setFrames_setFrames, State.setTop_of_frames _ hr', hr]
      rfl
    have hsame : U.sameButNew ({ U with heap := s₂.heap, slotsUsed := s₂.slotsUsed } : State) L mc ms := by
      refine ⟨?_, q2, q3, q4, q5, q6⟩
      obtain ⟨t, ht, -⟩ := State.frames_cons hr
      show ({ U with heap := s₂.heap, slotsUsed := s₂.slotsUsed } : State) = { U.setFrames U.frames with heap := s₂.heap, slotsUsed := s₂.slotsUsed }
      rw [State.setFrames_self ht]
    subst hg
    refine Or.inl ⟨v, ⟨(({ U with heap := s₂.heap, slotsUsed := s₂.slotsUsed } : State).setVm s₂.vm), Ls ++ L, c0 + mc, s0 + ms⟩,
      ⟨X.admits, X.cas, X.clock, X.frames, X.room, X.hears, X.method, X.code, (X.here.setHeapUsed s₂.heap s₂.slotsUsed).setVm hW'.alike, X.tail, State.WarmedH.trans X.warmed hW', X.limits, X.bytes, X.same.trans (hsame.setVm s.vm)⟩,
      ⟨g, mk, s₂, L, rfl, rfl, hqc, rfl, hL, rfl, rfl⟩, ?_⟩
    show Steps p.tables e below _ ((({ U with heap := s₂.heap, slotsUsed := s₂.slotsUsed } : State).setVm s₂.vm).setTop { g with pc := g.pc + len₂, stack := v.toList ++ g.stack })
    rw [← hs₂]
    exact hsteps
  · obtain ⟨e2, q2, q3, q4, q5, q6⟩ := id hsm
    have e3 : s₂ = ({ (U.calling g mk a).setFrames s₂.frames with heap := s₂.heap, slotsUsed := s₂.slotsUsed } : State).setVm s₂.vm := by
      have : s₂ = ({ s₂ with vm := (U.calling g mk a).vm } : State).setVm s₂.vm := rfl
      rw [e2] at this
      exact this
    have hf₂ : s₂.frames = .throwing q :: .java g :: U.frames.tail := hend
    have hW' : U.WarmedH s₂.vm := hW₂
    have hs₂ : s₂ = ((({ U with heap := s₂.heap, slotsUsed := s₂.slotsUsed } : State).setVm s₂.vm).setTop g).pushFrame (.throwing q) := by
      refine e3.trans ?_
      rw [hf₂, State.calling_eq h.top, State.setFrames_setFrames, State.pushFrame, State.frames_setTop _ hr', State.setTop_of_frames _ hr', State.setFrames_setFrames, hr]
      rfl
    have hsame : U.sameButNew ({ U with heap := s₂.heap, slotsUsed := s₂.slotsUsed } : State) L mc ms := by
      refine ⟨?_, q2, q3, q4, q5, q6⟩
      obtain ⟨t, ht, -⟩ := State.frames_cons hr
      show ({ U with heap := s₂.heap, slotsUsed := s₂.slotsUsed } : State) = { U.setFrames U.frames with heap := s₂.heap, slotsUsed := s₂.slotsUsed }
      rw [State.setFrames_self ht]
    subst hg
    refine Or.inr ⟨q, ⟨(({ U with heap := s₂.heap, slotsUsed := s₂.slotsUsed } : State).setVm s₂.vm), Ls ++ L, c0 + mc, s0 + ms⟩,
      ⟨X.admits, X.cas, X.clock, X.frames, X.room, X.hears, X.method, X.code, (X.here.setHeapUsed s₂.heap s₂.slotsUsed).setVm hW'.alike, X.tail, State.WarmedH.trans X.warmed hW', X.limits, X.bytes, X.same.trans (hsame.setVm s.vm)⟩,
      ⟨g, mk, s₂, L, E, ce, rfl, rfl, hx, hce, hcv, hcl, rfl, hL, rfl, rfl⟩, ?_⟩
    show Steps p.tables e below _ (((({ U with heap := s₂.heap, slotsUsed := s₂.slotsUsed } : State).setVm s₂.vm).setTop g).pushFrame (.throwing q))
    rw [← hs₂]
    exact hsteps
end
variable {p : Program} {l : Launch} {e : Env} {R : Room} {s : State} {m : MethodId} {args : Array Value} {below : List Frame} {meth : Method} {c : Code} {T : State} {H : Heap} {locs : List Loc} {cells slots : Nat}
theorem vx_callVX (X : Stand p l e R s m args below meth c T locs cells slots) (hexec : p.tables.exec = Jvm.exec) {own C : String} {index : Nat} {y : MethodName} {bytes : ByteArray} {maxL : Nat} {ret : Option FieldType} {hh : List (Nat × Nat × Nat × Nat)}
    (hown : s.vm.findClass own = some m.cls) (hlink : (Cond.methodLink own index y).before args s = true) (hinst : (Cond.instanceMethod y).before args s = true) (hsel : (Cond.selects C y y).before args s = true)
    (hcode : (Cond.codeWith y bytes maxL ret hh).before args s = true) (hy : y.cls ≠ "java/lang/invoke/MethodHandle" ∧ y.cls ≠ "java/lang/invoke/VarHandle")
    {W9 : Nat} {Pre : Pt → Array Value → Prop} {Post : Pt → Array Value → Option Value → Pt → Prop} {PostX : Pt → Array Value → Addr → Pt → Prop} (hK : vx_Back l R p e below s args y 3 W9 Pre Post PostX)
    {b : Addr} {cellB : Cell} (hcell : T.heap[b]? = some cellB) (hobj : cellB.vm.isStatics = false) (hcls : s.vm.findClass C = some cellB.cls)
    {g : JFrame} (hg : g.method = m) (hsize : g.locals.size = c.maxLocals) {argsL rest : List Value} (hlen : ∀ sig, parseMethodDescriptor y.desc = some sig → argsL.length = sig.parameters.length)
    (hstack : g.stack = argsL.reverse ++ .ref b :: rest) (hW : 2 * g.monitorRoom + (rest.map fun v => v.category).sum ≤ W9) (hdg : decode c.code g.pc = .ok (.invokevirtual index, 3))
    (hpre : ∀ vm₁, s.WarmedH vm₁ → Pre ⟨T.setVm vm₁, locs, cells, slots⟩ (Value.ref b :: argsL).toArray) :
    (∃ (v : Option Value) (vm₁ : Vm) (B : Pt), s.WarmedH vm₁ ∧ Stand p l e R s m args below meth c B.U B.locs B.cells B.slots ∧ Post ⟨T.setVm vm₁, locs, cells, slots⟩ (Value.ref b :: argsL).toArray v B ∧
      ∀ target, Steps p.tables e below (B.U.setTop { g with pc := g.pc + 3, stack := v.toList ++ rest }) target → Steps p.tables e below (T.setTop g) target) ∨
    (∃ (q : Addr) (vm₁ : Vm) (B : Pt), s.WarmedH vm₁ ∧ Stand p l e R s m args below meth c B.U B.locs B.cells B.slots ∧ PostX ⟨T.setVm vm₁, locs, cells, slots⟩ (Value.ref b :: argsL).toArray q B ∧
      Steps p.tables e below (T.setTop g) ((B.U.setTop { g with stack := rest }).pushFrame (.throwing q))) := by
  obtain ⟨mk, methM, hnamed, hmethM, hstM, habM⟩ := Cond.instanceMethod_spec hinst
  obtain ⟨m8, methM', cM, hn8, hmethM', -, -, -, -, -, -, hsigM⟩ := Cond.codeWith_spec hcode
  cases Option.some.inj (hn8.symm.trans hnamed)
  cases hmethM.symm.trans hmethM'
  obtain ⟨c2, r2, m2, q1, q2, q3, q4, kP, hkP, hkPi⟩ := Cond.selects_spec hsel
  cases hcls.symm.trans q1
  cases (State.methodFound?_of_named hnamed hy).symm.trans q2
  cases hnamed.symm.trans q3
  have hselP : selectMethod e.platform s.vm cellB.cls mk = .method mk := by rw [Launch.admits_selectMethod X.admits]; exact q4
  obtain ⟨vm₁, X₁, hstep₁⟩ := X.invokevirtual hexec hown hlink hnamed hmethM hstM hkP hkPi hy (a := b) (cell := cellB) hcell
    (fun z h => by rw [h] at hobj; cases hobj) hselP hmethM habM hkP hkPi (g := g) hg (argsL := argsL) (rest := rest) (hlen _ hsigM) hstack hdg
  rcases hK m meth c ⟨T.setVm vm₁, locs, cells, slots⟩ { g with stack := rest } (.invokevirtual index) mk (Value.ref b :: argsL).toArray X₁ hg hsize hdg hW (X₁.named hnamed) (hpre vm₁ X₁.warmed) with ⟨v, B, X', hpost, hsteps⟩ | ⟨q, B, X', hpost, hsteps⟩
  · exact Or.inl ⟨v, vm₁, B, X₁.warmed, X', hpost, fun target h => hstep₁ _ fun acts => by rw [doInvoke_state]; exact hsteps.trans h⟩
  · exact Or.inr ⟨q, vm₁, B, X₁.warmed, X', hpost, hstep₁ _ fun acts => by rw [doInvoke_state]; exact hsteps⟩
theorem vx_callSX (X : Stand p l e R s m args below meth c T locs cells slots) (hexec : p.tables.exec = Jvm.exec) {own : String} {index : Nat} {y : MethodName} {bytes : ByteArray} {maxL : Nat} {ret : Option FieldType} {hh : List (Nat × Nat × Nat × Nat)}
    (hown : s.vm.findClass own = some m.cls) (hlink : (Cond.methodLink own index y).before args s = true) (hstat : (Cond.static y).before args s = true) (hinit : (Cond.initialized y.cls).before args s = true)
    (hcode : (Cond.codeWith y bytes maxL ret hh).before args s = true) (hy : y.cls ≠ "java/lang/invoke/MethodHandle" ∧ y.cls ≠ "java/lang/invoke/VarHandle")
    {W9 : Nat} {Pre : Pt → Array Value → Prop} {Post : Pt → Array Value → Option Value → Pt → Prop} {PostX : Pt → Array Value → Addr → Pt → Prop} (hK : vx_Back l R p e below s args y 3 W9 Pre Post PostX)
    {g : JFrame} (hg : g.method = m) (hsize : g.locals.size = c.maxLocals) {argsL rest : List Value} (hlen : ∀ sig, parseMethodDescriptor y.desc = some sig → argsL.length = sig.parameters.length)
    (hstack : g.stack = argsL.reverse ++ rest) (hW : 2 * g.monitorRoom + (rest.map fun v => v.category).sum ≤ W9) (hdg : decode c.code g.pc = .ok (.invokestatic index, 3))
    (hpre : ∀ vm₁, s.WarmedH vm₁ → Pre ⟨T.setVm vm₁, locs, cells, slots⟩ argsL.toArray) :
    (∃ (v : Option Value) (vm₁ : Vm) (B : Pt), s.WarmedH vm₁ ∧ Stand p l e R s m args below meth c B.U B.locs B.cells B.slots ∧ Post ⟨T.setVm vm₁, locs, cells, slots⟩ argsL.toArray v B ∧
      ∀ target, Steps p.tables e below (B.U.setTop { g with pc := g.pc + 3, stack := v.toList ++ rest }) target → Steps p.tables e below (T.setTop g) target) ∨
    (∃ (q : Addr) (vm₁ : Vm) (B : Pt), s.WarmedH vm₁ ∧ Stand p l e R s m args below meth c B.U B.locs B.cells B.slots ∧ PostX ⟨T.setVm vm₁, locs, cells, slots⟩ argsL.toArray q B ∧
      Steps p.tables e below (T.setTop g) ((B.U.setTop { g with stack := rest }).pushFrame (.throwing q))) := by
  obtain ⟨mk, methM, cM, hnamed, hmethM, -, -, -, -, -, -, hsigM⟩ := Cond.codeWith_spec hcode
  have hstatic : methM.isStatic = true := Cond.static_spec hnamed hmethM hstat
  obtain ⟨kP, hkP, -⟩ := className_of_methodNamed hnamed
  have hinitP : kP.init = .initialized := Cond.initialized_spec (findClass_of_methodNamed hnamed) hkP hinit
  obtain ⟨vm₁, X₁, hstep₁⟩ := X.invokestatic hexec hown hlink hnamed hmethM hstatic hkP hinitP hy (g := g) hg (argsL := argsL) (rest := rest) (hlen _ hsigM) hstack hdg
  rcases hK m meth c ⟨T.setVm vm₁, locs, cells, slots⟩ { g with stack := rest } (.invokestatic index) mk argsL.toArray X₁ hg hsize hdg hW (X₁.named hnamed) (hpre vm₁ X₁.warmed) with ⟨v, B, X', hpost, hsteps⟩ | ⟨q, B, X', hpost, hsteps⟩
  · exact Or.inl ⟨v, vm₁, B, X₁.warmed, X', hpost, fun target h => hstep₁ _ fun acts => by rw [doInvoke_state]; exact hsteps.trans h⟩
  · exact Or.inr ⟨q, vm₁, B, X₁.warmed, X', hpost, hstep₁ _ fun acts => by rw [doInvoke_state]; exact hsteps⟩
theorem vx_callVW (X : Stand p l e R s m args below meth c T locs cells slots) (hexec : p.tables.exec = Jvm.exec) {own C : String} {index : Nat} {y : MethodName} {bytes : ByteArray} {maxL : Nat} {ret : Option FieldType} {hh : List (Nat × Nat × Nat × Nat)}
    (hown : s.vm.findClass own = some m.cls) (hlink : (Cond.methodLink own index y).before args s = true) (hinst : (Cond.instanceMethod y).before args s = true) (hsel : (Cond.selects C y y).before args s = true)
    (hcode : (Cond.codeWith y bytes maxL ret hh).before args s = true) (hy : y.cls ≠ "java/lang/invoke/MethodHandle" ∧ y.cls ≠ "java/lang/invoke/VarHandle")
    {W9 : Nat} {Pre : Pt → Array Value → Prop} {Post : Pt → Array Value → Option Value → Pt → Prop} (hK : Back l R p e below s args y 3 W9 Pre Post)
    {b : Addr} {cellB : Cell} (hcell : T.heap[b]? = some cellB) (hobj : cellB.vm.isStatics = false) (hcls : s.vm.findClass C = some cellB.cls)
    {g : JFrame} (hg : g.method = m) (hsize : g.locals.size = c.maxLocals) {argsL rest : List Value} (hlen : ∀ sig, parseMethodDescriptor y.desc = some sig → argsL.length = sig.parameters.length)
    (hstack : g.stack = argsL.reverse ++ .ref b :: rest) (hW : 2 * g.monitorRoom + (rest.map fun v => v.category).sum ≤ W9) (hdg : decode c.code g.pc = .ok (.invokevirtual index, 3))
    (hpre : ∀ vm₁, s.WarmedH vm₁ → Pre ⟨T.setVm vm₁, locs, cells, slots⟩ (Value.ref b :: argsL).toArray) :
    ∃ (v : Option Value) (vm₁ : Vm) (B : Pt), s.WarmedH vm₁ ∧ Stand p l e R s m args below meth c B.U B.locs B.cells B.slots ∧ Post ⟨T.setVm vm₁, locs, cells, slots⟩ (Value.ref b :: argsL).toArray v B ∧
      ∀ target, Steps p.tables e below (B.U.setTop { g with pc := g.pc + 3, stack := v.toList ++ rest }) target → Steps p.tables e below (T.setTop g) target := by
  obtain ⟨mk, methM, hnamed, hmethM, hstM, habM⟩ := Cond.instanceMethod_spec hinst
  obtain ⟨m8, methM', cM, hn8, hmethM', -, -, -, -, -, -, hsigM⟩ := Cond.codeWith_spec hcode
  cases Option.some.inj (hn8.symm.trans hnamed)
  cases hmethM.symm.trans hmethM'
  obtain ⟨c2, r2, m2, q1, q2, q3, q4, kP, hkP, hkPi⟩ := Cond.selects_spec hsel
  cases hcls.symm.trans q1
  cases (State.methodFound?_of_named hnamed hy).symm.trans q2
  cases hnamed.symm.trans q3
  have hselP : selectMethod e.platform s.vm cellB.cls mk = .method mk := by rw [Launch.admits_selectMethod X.admits]; exact q4
  obtain ⟨vm₁, X₁, hstep₁⟩ := X.invokevirtual hexec hown hlink hnamed hmethM hstM hkP hkPi hy (a := b) (cell := cellB) hcell
    (fun z h => by rw [h] at hobj; cases hobj) hselP hmethM habM hkP hkPi (g := g) hg (argsL := argsL) (rest := rest) (hlen _ hsigM) hstack hdg
  obtain ⟨v, B, X', hpost, hsteps⟩ := hK m meth c ⟨T.setVm vm₁, locs, cells, slots⟩ { g with stack := rest } (.invokevirtual index) mk (Value.ref b :: argsL).toArray X₁ hg hsize hdg hW (X₁.named hnamed) (hpre vm₁ X₁.warmed)
  exact ⟨v, vm₁, B, X₁.warmed, X', hpost, fun target h => hstep₁ _ fun acts => by rw [doInvoke_state]; exact hsteps.trans h⟩
abbrev vx_CVW (R : Room) (s : State) (args : Array Value) (own C : String) (index : Nat) (y : MethodName) (bytes : ByteArray) (maxL : Nat) (ret : Option FieldType) (hh : List (Nat × Nat × Nat × Nat)) (ws : List Cond) (rm : Room) (mc ms n : Nat) : Prop :=
  (rm.cells = mc ∧ rm.slots = ms ∧ rm.frames + 1 ≤ R.frames ∧ 8 + (maxL + 11) + rm.locals ≤ R.locals ∧ (∀ w ∈ ws, ∀ (a' : Array Value) (U : State), s.WarmedH U.vm → w.before a' U = true) ∧ Cond.codeWith y bytes maxL ret hh ∈ ws) ∧
  (Cond.codeWith y bytes maxL ret hh).before args s = true ∧ (Cond.initialized y.cls).before args s = true ∧ (y.cls ≠ "java/lang/invoke/MethodHandle" ∧ y.cls ≠ "java/lang/invoke/VarHandle") ∧
  (∀ sig, parseMethodDescriptor y.desc = some sig → n = sig.parameters.length) ∧ (Cond.methodLink own index y).before args s = true ∧ (Cond.instanceMethod y).before args s = true ∧ (Cond.selects C y y).before args s = true
theorem vx_cwVW {own C : String} {index maxL mc ms : Nat} {y : MethodName} {bytes : ByteArray} {ret : Option FieldType} {hh : List (Nat × Nat × Nat × Nat)} {Ts ws ws' : List Cond} {rm : Room} (n : Nat) (ht : ∀ w ∈ Ts, w.before args s = true) (hT : GoodIn Ts (wsV own index C y ws)) (hw : ws = Cond.codeWith y bytes maxL ret hh :: ws') (hrc : rm.cells = mc) (hrs : rm.slots = ms)
    (hd : y.cls = C ∧ y.cls ≠ "java/lang/invoke/MethodHandle" ∧ y.cls ≠ "java/lang/invoke/VarHandle" ∧ (parseMethodDescriptor y.desc).map (fun d => d.parameters.length) = some n) (hR : rm.frames + 1 ≤ R.frames ∧ 8 + (maxL + 11) + rm.locals ≤ R.locals) :
    vx_CVW R s args own C index y bytes maxL ret hh ws rm mc ms n := by
  obtain ⟨hC, hd⟩ := hd
  subst hC
  have ok : ∀ w ∈ wsV own index y.cls y ws, w.before args s = true := fun w h => ht w (hT w h).1
  have hG : GoodIn Ts ws := fun w h => hT w (by unfold wsV; exact List.mem_append_right _ h)
  have hc : Cond.codeWith y bytes maxL ret hh ∈ ws := by rw [hw]; exact List.mem_cons_self
  refine ⟨⟨hrc, hrs, hR.1, hR.2, pay_in ht hG, hc⟩, ht _ (hG _ hc).1, ok _ (by simp [wsV]), ⟨hd.1, hd.2.1⟩, fun sig h => ?_, ok _ (by simp [wsV]), ok _ (by simp [wsV]), ok _ (by simp [wsV])⟩
  have h2 := hd.2.2
  rw [h] at h2
  exact (Option.some.inj h2).symm
theorem vx_runVW {y : MethodName} {bytes cc : ByteArray} {maxL nL mc ms n index : Nat} {ret : Option FieldType} {hh : List (Nat × Nat × Nat × Nat)} {ws : List Cond} {rm : Room} {Pc : Array Value → State → Prop} {Qc : Array Value → State → Outcome → State → Prop} {free : Addr → Prop} {Ts : List Cond} {own C : String} {b : Addr} {As rest : List Value} {g : JFrame}
    (S : CallFix p m c cc nL s args Ts own) (hM : Met l y ws rm Pc Qc mc ms free) (cw : vx_CVW R s args own C index y bytes maxL ret hh ws rm mc ms n) (hp : PreV s H C b Pc As)
    (hg : g.method = m) (hn : As.length = n) (hsize : g.locals.size = nL) (hstack : g.stack = As.reverse ++ .ref b :: rest) (hW : 2 * g.monitorRoom + (rest.map fun v => v.category).sum ≤ 8) (hdg : decode cc g.pc = .ok (.invokevirtual index, 3)) (hf : cells + mc ≤ R.cells ∧ slots + ms ≤ R.slots) :
    va_Run p l e R s m args below meth c H locs cells slots mc ms g rest (Qc (Value.ref b :: As).toArray) free := by
  obtain ⟨⟨hrc, hrs, hfr, hlo, hws, hcw⟩, hcode, hini, hy, hlen, hl, hin, hse⟩ := cw
  have hK : Back l R p e below s args y 3 8 (PreOf R mc ms Pc) (PostOf Qc mc ms free) := va_backW (hh := hh) (bytes := bytes) (maxL := maxL) (ret := ret) hM hp.1 hrc hrs hfr hlo hws hcw (fun a' U hW => word_at hW (Or.inl (by first | rfl | simp [Cond.onTables, Cond.keeps, Cond.steady])) hini)
  obtain ⟨hx, hb, hml, ho, -⟩ := S
  obtain ⟨-, ⟨cellB, hcB, hoB, hclB⟩, hPc⟩ := hp
  intro T hT X
  obtain ⟨v, vm₁, ⟨U', l2, c2, s2⟩, hW₁, X', ⟨g', mk, t, L, e1, e2, hq, h1, hL, h2, h3⟩, st⟩ := vx_callVW X hx (C := C) (hh := hh) (bytes := bytes) (maxL := maxL) (ret := ret) ho hl hin hse hcode hy hK (by rw [hT]; exact hcB) hoB hclB hg (hsize.trans hml.symm) (argsL := As) (rest := rest) (fun sig h => hn.trans (hlen sig h)) hstack hW (by rw [hb]; exact hdg)
    (fun vm₁ hW₁ => ⟨hf.1, hf.2, hPc (T.setVm vm₁) hT hW₁⟩)
  dsimp only [Pt.U, Pt.locs, Pt.cells, Pt.slots] at X' e1 e2 h1 h2 h3 st
  subst h1; subst h2; subst h3
  exact ⟨v, (T.setVm vm₁).calling g' mk (Value.ref b :: As).toArray, t, U', L, hT, X', hL, e1, e2, hq, st⟩
section
variable {y : MethodName} {bytes cc : ByteArray} {maxL nL mc ms n index : Nat} {ret : Option FieldType} {ws : List Cond} {rm : Room} {Pc : Array Value → State → Prop} {Qc : Array Value → State → Outcome → State → Prop} {XC : String → State → State → Prop} {free : Addr → Prop} {Ts : List Cond} {own C : String} {b : Addr} {As rest : List Value} {g : JFrame}
theorem vx_runVX {hh : List (Nat × Nat × Nat × Nat)} (S : CallFix p m c cc nL s args Ts own) (hM : vx_Met l y ws rm Pc Qc XC mc ms free) (cw : vx_CVW R s args own C index y bytes maxL ret hh ws rm mc ms n) (hp : PreV s H C b Pc As)
    (hg : g.method = m) (hn : As.length = n) (hsize : g.locals.size = nL) (hstack : g.stack = As.reverse ++ .ref b :: rest) (hW : 2 * g.monitorRoom + (rest.map fun v => v.category).sum ≤ 8) (hdg : decode cc g.pc = .ok (.invokevirtual index, 3)) (hf : cells + mc ≤ R.cells ∧ slots + ms ≤ R.slots) :
    vx_Run p l e R s m args below meth c H locs cells slots mc ms g rest (Qc (Value.ref b :: As).toArray) XC free := by
  obtain ⟨⟨hrc, hrs, hfr, hlo, hws, hcw⟩, hcode, hini, hy, hlen, hl, hin, hse⟩ := cw
  have hK : vx_Back l R p e below s args y 3 8 (PreOf R mc ms Pc) (PostOf Qc mc ms free) (vx_Post XC mc ms free) := vx_backW (hh := hh) (bytes := bytes) (maxL := maxL) (ret := ret) hM hp.1 hrc hrs hfr hlo hws hcw (fun a' U hW => word_at hW (Or.inl (by first | rfl | simp [Cond.onTables, Cond.keeps, Cond.steady])) hini)
  obtain ⟨hx, hb, hml, ho, -⟩ := S
  obtain ⟨-, ⟨cellB, hcB, hoB, hclB⟩, hPc⟩ := hp
  intro T hT X
  rcases vx_callVX X hx (C := C) (hh := hh) (bytes := bytes) (maxL := maxL) (ret := ret) ho hl hin hse hcode hy hK (by rw [hT]; exact hcB) hoB hclB hg (hsize.trans hml.symm) (argsL := As) (rest := rest) (fun sig h => hn.trans (hlen sig h)) hstack hW (by rw [hb]; exact hdg)
    (fun vm₁ hW₁ => ⟨hf.1, hf.2, hPc (T.setVm vm₁) hT hW₁⟩) with ⟨v, vm₁, ⟨U', l2, c2, s2⟩, hW₁, X', ⟨g', mk, t, L, e1, e2, hq, h1, hL, h2, h3⟩, st⟩ | ⟨q, vm₁, ⟨U', l2, c2, s2⟩, hW₁, X', ⟨g', mk, t, L, E, ce, e1, e2, hq, hce, hcv, hcl, h1, hL, h2, h3⟩, st⟩
  · dsimp only [Pt.U, Pt.locs, Pt.cells, Pt.slots] at X' e1 e2 h1 h2 h3 st
    subst h1; subst h2; subst h3
    exact Or.inl ⟨v, (T.setVm vm₁).calling g' mk (Value.ref b :: As).toArray, t, U', L, hT, X', hL, e1, e2, hq, st⟩
  · dsimp only [Pt.U, Pt.locs, Pt.cells, Pt.slots] at X' e1 e2 h1 h2 h3 st hcl
    subst h1; subst h2; subst h3
    exact Or.inr ⟨q, (T.setVm vm₁).calling g' mk (Value.ref b :: As).toArray, t, U', L, E, ce, hT, X', hL, e1, e2, hq, hce, hcv, vx_cls hW₁ hcl, st⟩
theorem vx_runSX {hh : List (Nat × Nat × Nat × Nat)} (S : CallFix p m c cc nL s args Ts own) (hM : vx_Met l y ws rm Pc Qc XC mc ms free) (cw : vx_CSW R s args own index y bytes maxL ret hh ws rm mc ms n) (hp : PreS s H Pc As)
    (hg : g.method = m) (hn : As.length = n) (hsize : g.locals.size = nL) (hstack : g.stack = As.reverse ++ rest) (hW : 2 * g.monitorRoom + (rest.map fun v => v.category).sum ≤ 8) (hdg : decode cc g.pc = .ok (.invokestatic index, 3)) (hf : cells + mc ≤ R.cells ∧ slots + ms ≤ R.slots) :
    vx_Run p l e R s m args below meth c H locs cells slots mc ms g rest (Qc As.toArray) XC free := by
  obtain ⟨⟨hrc, hrs, hfr, hlo, hws, hcw⟩, hcode, hini, hy, hlen, hl, hstt⟩ := cw
  have hK : vx_Back l R p e below s args y 3 8 (PreOf R mc ms Pc) (PostOf Qc mc ms free) (vx_Post XC mc ms free) := vx_backW (hh := hh) (bytes := bytes) (maxL := maxL) (ret := ret) hM hp.1 hrc hrs hfr hlo hws hcw (fun a' U hW => word_at hW (Or.inl (by first | rfl | simp [Cond.onTables, Cond.keeps, Cond.steady])) hini)
  obtain ⟨hx, hb, hml, ho, -⟩ := S
  intro T hT X
  rcases vx_callSX X hx (hh := hh) (bytes := bytes) (maxL := maxL) (ret := ret) ho hl hstt hini hcode hy hK hg (hsize.trans hml.symm) (argsL := As) (rest := rest) (fun sig h => hn.trans (hlen sig h)) hstack hW (by rw [hb]; exact hdg)
    (fun vm₁ hW₁ => ⟨hf.1, hf.2, hp.2 (T.setVm vm₁) hT hW₁⟩) with ⟨v, vm₁, ⟨U', l2, c2, s2⟩, hW₁, X', ⟨g', mk, t, L, e1, e2, hq, h1, hL, h2, h3⟩, st⟩ | ⟨q, vm₁, ⟨U', l2, c2, s2⟩, hW₁, X', ⟨g', mk, t, L, E, ce, e1, e2, hq, hce, hcv, hcl, h1, hL, h2, h3⟩, st⟩
  · dsimp only [Pt.U, Pt.locs, Pt.cells, Pt.slots] at X' e1 e2 h1 h2 h3 st
    subst h1; subst h2; subst h3
    exact Or.inl ⟨v, (T.setVm vm₁).calling g' mk As.toArray, t, U', L, hT, X', hL, e1, e2, hq, st⟩
  · dsimp only [Pt.U, Pt.locs, Pt.cells, Pt.slots] at X' e1 e2 h1 h2 h3 st hcl
    subst h1; subst h2; subst h3
    exact Or.inr ⟨q, (T.setVm vm₁).calling g' mk As.toArray, t, U', L, E, ce, hT, X', hL, e1, e2, hq, hce, hcv, vx_cls hW₁ hcl, st⟩
end
end VXH
theorem vx_ofWH {l : Launch} {y : MethodName} {ws ws' : List Cond} {rm : Room} {Pc : Array Value → State → Prop} {Qc : Array Value → State → Outcome → State → Prop} {XC : String → State → State → Prop} {mc ms : Nat} {free : Addr → Prop} {cc : ByteArray} {maxL : Nat} {ret : Option FieldType} {hh : List (Nat × Nat × Nat × Nat)}
    (hy : plainName y.cls = true) (hw : ws = Cond.codeWith y cc maxL ret hh :: ws')
    (body : ∀ p e s m args below meth c s₁, BodyLoose p l y (headSpec ws rm) cc maxL ret e s m args below meth c s₁ → c.maxLocals = maxL → Pc args s →
      W p l e (headSpec ws rm).room s m args below meth c s.heap [] 0 0 (vx_MQ below Qc XC args s mc ms free) (entryFrame m args maxL)) : vx_Met l y ws rm Pc Qc XC mc ms free := by
  refine MetFree.of_bodyS (code := cc) (maxLocals := maxL) (ret := ret) hy ?_ ?_
  · intro args s m h hn
    obtain ⟨m9, meth, c, hn9, h1, h2, h3, h4, -, h5, h6, -⟩ := Cond.codeWith_spec (atoms_spec (ws := ws) h _ (by rw [hw]; exact List.mem_cons_self))
    cases hn.symm.trans hn9
    exact ⟨meth, c, h1, h2, h3, h4, h5, h6⟩
  · intro p e s m args below meth c s₁ B hml hP _
    have hh0 : s₁.heap = s.heap := by rw [B.state]; rfl
    obtain ⟨t, a1, o, b1, b2, b3⟩ := body p e s m args below meth c s₁ B hml hP s₁ hh0 (Stand.of_body B)
    exact ⟨t, o, a1, b1, b2, b3⟩
/-! ===== END ===== -/

/-! ===== BEGIN what the machine throws by itself, no traces kept ===== -/
section VXM
set_option maxHeartbeats 1000000 in
/-- the machine throws cls with the message text, no traces kept: from its note over the frame g to 'throwing' over the same frame (follows the proofs of Stand.vmThrowsMessage, Shelf/KitTracedVmS.lean, and Stand.throwsMessageColdBareV, StandMessageColdV.lean, without the step out of the frame) -/
theorem vx_vmAt {p : Program} {l : Launch} {e : Env} {R : Room} {s : State} {m₀ : MethodId} {args : Array Value} {below : List Frame} {meth : Method} {c : Code} {W : State} {locs : List Loc} {cells slots : Nat}
    (X : Stand p l e R s m₀ args below meth c W locs cells slots) (hexec : p.tables.exec = Jvm.exec) (htr : e.platform.stackTraces = false) {cls : String} {names : List String} {text : String}
    (hcls : Bundle.fit cls = true) (hnames : ∀ n ∈ names, Bundle.fit n = true) (hsoe : (cls == "java/lang/StackOverflowError") = false) (hoom : (cls == "java/lang/OutOfMemoryError") = false)
    (h : ∀ a ∈ Bundle.messageArmAtoms cls names, a.before args s = true)
    (hlocs : ∀ x ∈ locs, ∀ cell, s.heap[x.base]? = some cell → cell.vm.isStatics = false)
    (htext : (text == notModelled) = false) (hlimit : ¬ (stringBytes (stringToUtf16 text)).size > e.platform.arrayLengthLimit) (hheap : ¬ (stringBytes (stringToUtf16 text)).size * componentBytes .byte > e.platform.maxHeapBytes)
    {g : JFrame} (hg : g.method = m₀) (hsize : g.locals.size = c.maxLocals)
    (hRframes : names.length + 4 < R.frames) (hRlocals : 2 * g.monitorRoom + (g.stack.map fun v => v.category).sum + 10240 ≤ R.locals) (hshort : 13 * names.length + 55 ≤ 10240)
    (hRcells : cells + 3 ≤ R.cells) (hRslots : slots + ((stringBytes (stringToUtf16 text)).size + 4 + 6) ≤ R.slots) (hlocks : meth.locks = false) :
    ∃ (S : State) (q : Addr) (ce : Cell), (∀ target, Steps p.tables e below ((S.setTop g).pushFrame (.throwing q)) target → Steps p.tables e below ((W.setTop g).pushFrame (.throwNew cls (some text) none)) target) ∧
      Stand p l e R s m₀ args below meth c S locs (cells + 3) (slots + ((stringBytes (stringToUtf16 text)).size + 4 + 6)) ∧ S.heap[q]? = some ce ∧ s.vm.findClass cls = some ce.cls ∧ ce.vm = .none := by
  have howns : e.platform.frameOwnsMonitors = true := by rw [X.admits.platform]
  have hfin : e.platform.finalization = false := by rw [X.admits.platform]
  have hpl : e.platform.magicAccessors = ({} : Platform).magicAccessors := by rw [X.admits.platform]
  have a : ∀ x, x ∈ Bundle.messageArmAtoms cls names → x.holds args s none s [] = true := fun x hx => h x hx
  obtain ⟨T, Z0, L, -, Y⟩ := ThrowableC.of_atoms (args := args) howns hfin hpl (fun x hx => h x (by simp [Bundle.messageArmAtoms, hx]))
  obtain ⟨Z, M, LZ, LM, hnZ⟩ := Init0T.ofS_atoms (args := args) hpl L Y (fun x hx => h x (by simp [Bundle.messageArmAtoms, hx]))
  obtain ⟨P1, Ps, hlen, L1, hL, hP1m, hlink1, hlink⟩ := Bundle.chainS (args := args) hpl hnZ names cls hcls hnames (fun x hx => h x (by simp [Bundle.messageArmAtoms, hx]))
  obtain ⟨Zs, LZs, hn4, hfitv, hfitc⟩ := StringT.of_atoms (args := args) (fun x hx => h x (by simp [Bundle.messageArmAtoms, hx]))
  have hfound : s.vm.findClass cls = some P1.m.cls := findClass_of_methodNamed hP1m
  obtain ⟨c1, kX, hc1, hk, hord, -, -, hn6⟩ := Cond.instantiable_spec (a (.instantiable cls 6) (by simp [Bundle.messageArmAtoms]))
  cases Option.some.inj (hc1.symm.trans hfound)
  have hinit := Cond.initialized_spec hfound hk (a (.initialized cls) (by simp [Bundle.messageArmAtoms]))
  have hctor : kX.findMethod "<init>" "(Ljava/lang/String;)V" = some P1.m.idx := findMethod_of_methodNamed hP1m hk
  have hsel0 : selectMethod e.platform s.vm P1.m.cls T.fill0 = .method T.fill0 := by
    obtain ⟨c2, r2, m2, q1, q2, q3, q4, -⟩ := Cond.selects_spec (a (.selects cls Bundle.tFill0 Bundle.tFill0) (by simp [Bundle.messageArmAtoms]))
    cases Option.some.inj (q1.symm.trans hfound)
    cases Option.some.inj (q2.symm.trans (State.methodFound?_of_named Y.fill0 (by decide)))
    cases Option.some.inj (q3.symm.trans Y.fill0)
    rw [Launch.admits_selectMethod X.admits]; exact q4
  have hselF : selectMethod e.platform s.vm P1.m.cls T.fill = .method T.fill := by
    obtain ⟨c2, r2, m2, q1, q2, q3, q4, -⟩ := Cond.selects_spec (a (.selects cls Bundle.tFill Bundle.tFill) (by simp [Bundle.messageArmAtoms]))
    cases Option.some.inj (q1.symm.trans hfound)
    cases Option.some.inj (q2.symm.trans (State.methodFound?_of_named Y.fill (by decide)))
    cases Option.some.inj (q3.symm.trans Y.fill)
    rw [Launch.admits_selectMethod X.admits]; exact q4
  obtain ⟨cellS0, hcS0, hiss⟩ := Y.statics
  obtain ⟨u0, hu0⟩ := Cond.staticRefV Y.unassigned L.unassignedStatic L.statics hcS0 hiss (a (.isRef (.static Bundle.tN "UNASSIGNED_STACK" Bundle.steD)) (by simp [Bundle.messageArmAtoms]))
  obtain ⟨sen, hsen⟩ := Cond.staticRefV Y.sentinel L.sentinelStatic L.statics hcS0 hiss (a (.isRef (.static Bundle.tN "SUPPRESSED_SENTINEL" Bundle.listD)) (by simp [Bundle.messageArmAtoms]))
  obtain ⟨ci198, i198, fB, hk198, hg198, ha198, hsB, -, hnB, htB, hffB⟩ := Cond.ownField (t := .object "java/lang/Object") Y.found L.cls (by decide +kernel) (a (.fieldLink Bundle.tN 198 Bundle.tN "backtrace" "Ljava/lang/Object;") (by simp [Bundle.messageArmAtoms])) (a (.lays Bundle.tN Bundle.tN "backtrace" "Ljava/lang/Object;") (by simp [Bundle.messageArmAtoms])) e.platform hpl
  obtain ⟨cellS, hcS', heS, -, hkeep⟩ := X.same.2.2.2.2.2 T.aS cellS0 hcS0
  have hcellS : W.heap[T.aS]? = some cellS := hcS'
  have hout' : ∀ i, (⟨T.aS, i⟩ : Loc) ∉ locs := fun i hmem => by
    have := hlocs _ hmem cellS0 hcS0
    rw [hiss] at this; cases this
  have hknownS : cellS.vm ≠ .unknown := by
    rw [heS]; intro hu
    rw [show cellS0.vm = .unknown from hu] at hiss
    cases hiss
  have hvU : cellS.slots[T.fUnassigned.slot]? = some u0.v := by rw [hkeep _ (hout' _)]; exact hu0
  have hvSen : cellS.slots[T.fSentinel.slot]? = some sen.v := by rw [hkeep _ (hout' _)]; exact hsen
  obtain ⟨iM, hffM⟩ := Y.msg
  obtain ⟨tyC, dC, hdC, hdnC⟩ := Cond.laysAt hfound hk Y.cause (a (.lays cls Bundle.tN "cause" "Ljava/lang/Throwable;") (by simp [Bundle.messageArmAtoms]))
  obtain ⟨tyS, dS, hdS, hdnS⟩ := Cond.laysAt hfound hk Y.stack (a (.lays cls Bundle.tN "stackTrace" Bundle.steD) (by simp [Bundle.messageArmAtoms]))
  obtain ⟨tyP, dP, hdP, hdnP⟩ := Cond.laysAt hfound hk Y.supp (a (.lays cls Bundle.tN "suppressedExceptions" Bundle.listD) (by simp [Bundle.messageArmAtoms]))
  obtain ⟨tyM, dM, hdM, hdnM⟩ := Cond.laysAt hfound hk hffM (a (.lays cls Bundle.tN "detailMessage" "Ljava/lang/String;") (by simp [Bundle.messageArmAtoms]))
  obtain ⟨tyB, dB, hdB, hdnB⟩ := Cond.laysAt hfound hk hffB (a (.lays cls Bundle.tN "backtrace" "Ljava/lang/Object;") (by simp [Bundle.messageArmAtoms]))
  have bC := Cond.laysApart hdB hdC hdnB hdnC (by rw [hnB, Y.causeName]; decide)
  have bS := Cond.laysApart hdB hdS hdnB hdnS (by rw [hnB, Y.stackName]; decide)
  have bP := Cond.laysApart hdB hdP hdnB hdnP (by rw [hnB, Y.suppName]; decide)
  have hbk : ((preparedCellV T.toThrowableT (freshCell P1.m.cls kX) (W.heap.size + 2) u0 sen).withEntry W.cur).slots[fB.slot]? = some .null := by
    have := fresh_default (c := P1.m.cls) tyB
    rw [htB] at this
    simpa [preparedCellV, Cell.setSlot, Cell.withEntry, Array.getElem?_setIfInBounds, bC, bS, bP, bC.symm, bS.symm, bP.symm, defaultValue] using this
  have tkC := Takes.of_laid (v := .ref (W.heap.size + 2)) hk hord tyC (by rw [Y.causeType]; rfl)
  have tkS := Takes.of_laid (v := u0.v) hk hord tyS (by rw [Y.stackType]; exact fits_refV_array _ u0)
  have tkP := Takes.of_laid (v := sen.v) hk hord tyP (by rw [Y.suppType]; exact fits_refV_object _ sen)
  have tkM := Takes.of_laid (v := .ref (W.heap.size + 1)) hk hord tyM (by rw [Y.msgType]; rfl)
  have hskip : SkipFacts T e.platform s (fun u => u) u0 ((preparedCellV T.toThrowableT (freshCell P1.m.cls kX) (W.heap.size + 2) u0 sen).withEntry W.cur) := ⟨{ ci198 := ci198, i198 := i198, fBack := fB }, ⟨hk198, hg198, ha198, hsB⟩, hbk, fun _ _ => rfl⟩
  have h0 : At W g.method c below := by rw [hg]; exact X.here
  obtain ⟨hbeyond, hfreeW⟩ := X.vmMayThrow hsize (.throwNew cls (some text) none) (fun f hf => by cases hf) rfl hRlocals
  have hfr' : W.frames.length + Ps.length + 4 < (e.platform.stackLimits W.me).1 := by have := X.framesAbove hRframes; omega
  have hwd' : (stackUse (.java g :: W.frames.tail)).2 + 13 * Ps.length + 55 ≤ (e.platform.stackLimits W.me).2 := by have := X.stackAbove hsize (K := 13 * Ps.length + 55) (by omega); omega
  have hslots : W.slotsUsed + (stringBytes (stringToUtf16 text)).size + Zs.kS.instanceTypes.size + kX.instanceTypes.size ≤ e.platform.maxSlots := by
    have := X.slotsAbove hRslots
    rw [hn4, hn6]
    omega
  obtain ⟨vm', hW', st⟩ := Steps.vmThrowsMessageColdByV p (s₀ := s) (S := W) (g := g) h0 hexec T L Z LZ M LM X.warmed (t := W.cur) rfl Zs LZs P1 L1 Ps hL hlink1 hlink hsoe hoom hfound hk hinit hord hctor
    (Launch.admits_hotImplicitExceptions X.admits) hbeyond hfreeW htext hlimit hheap (X.cellsAbove hRcells) hslots (hfitv _) (hfitc _)
    (Nn := fun u => u) heapOnly_id (fun _ _ => rfl) (fun _ => rfl) (fun u x y => setCell_twice _ _ _ _) (fun _ => Nat.le_refl _) (cN := ((preparedCellV T.toThrowableT (freshCell P1.m.cls kX) (W.heap.size + 2) u0 sen).withEntry W.cur))
    hsel0 hcellS hknownS hvU tkS (fun _ hu => hu) (fun _ hu => hu) rfl rfl rfl (by simp [preparedCellV, Cell.setSlot, Cell.withEntry]) hskip (fun _ _ hA hW _ hroom _ hrest => L.nativeOff p htr hA hW hroom hrest) hselF hvSen tkC tkP tkM Y.objLocals rfl hfr' hwd'
  rw [plainBareV_eq T.toThrowableT (W.heap.size + 2) u0 sen (.ref (W.heap.size + 1)) W.cur rfl rfl] at st
  obtain ⟨-, -, w3, w4, -, -, -⟩ := withThrown_facts e.platform W Zs text P1.m.cls kX
  have X3 := ((X.pushed (bytesOf Zs.cB (stringToUtf16 text))).pushed (stringAt Zs.cS Zs.kS Zs.fv Zs.fc (stringToUtf16 text) W.heap.size)).pushed (freshCell P1.m.cls kX)
  rw [← withString_eq] at X3
  have X4 := X3.noted hW'
  have ha : (W.heap.size + 2) < ((withThrown W Zs text P1.m.cls kX).setVm vm').heap.size := by show _ < (withThrown W Zs text P1.m.cls kX).heap.size; rw [w3]; omega
  have hcell : ((withThrown W Zs text P1.m.cls kX).setVm vm').heap[(W.heap.size + 2)]? = some (freshCell P1.m.cls kX) := w4
  have X5 := ((((X4.stored hcell T.fCause.slot (.ref (W.heap.size + 2))).storedAgain ha T.fStack.slot u0.v).storedAgain ha T.fSupp.slot sen.v).storedAgain ha T.fStack.slot u0.v).storedAgain ha T.fMsg.slot (.ref (W.heap.size + 1))
  obtain ⟨g₁, hfrM⟩ := X5.frames_eq
  have hU : ((((withThrown W Zs text P1.m.cls kX).setVm vm').setCell (W.heap.size + 2) (plainBareV T.toThrowableT (freshCell P1.m.cls kX) (W.heap.size + 2) u0 sen (.ref (W.heap.size + 1)))).setTop g).pushFrame (.throwing (W.heap.size + 2)) = (((withThrown W Zs text P1.m.cls kX).setVm vm').setCell (W.heap.size + 2) (plainBareV T.toThrowableT (freshCell P1.m.cls kX) (W.heap.size + 2) u0 sen (.ref (W.heap.size + 1)))).setFrames (.throwing (W.heap.size + 2) :: .java g :: below) := by
    rw [State.pushFrame, State.frames_setTop _ hfrM, State.setTop_of_frames _ hfrM, State.setFrames_setFrames]
  have b1 : (bytesOf Zs.cB (stringToUtf16 text)).slots.size = (stringBytes (stringToUtf16 text)).size := by
    rw [(Cell.writeAll_facts _ _).2.2]; simp [bytes0]
  have b2 : (stringAt Zs.cS Zs.kS Zs.fv Zs.fc (stringToUtf16 text) W.heap.size).slots.size = 4 := by simp [string0, Cell.setSlot, hn4]
  have b3 : (freshCell P1.m.cls kX).slots.size = 6 := by simp [hn6]
  rw [b1, b2, b3] at X5
  have e9 : slots + (stringBytes (stringToUtf16 text)).size + 4 + 6 = slots + ((stringBytes (stringToUtf16 text)).size + 4 + 6) := by omega
  rw [e9] at X5
  simp only [List.append_assoc, List.cons_append, List.nil_append] at X5
  refine ⟨((withThrown W Zs text P1.m.cls kX).setVm vm').setCell (W.heap.size + 2) (plainBareV T.toThrowableT (freshCell P1.m.cls kX) (W.heap.size + 2) u0 sen (.ref (W.heap.size + 1))), W.heap.size + 2, _, fun target ht => st _ (by rw [X.tail, ← hU]; exact ht),
    X5.forget (fun y hy => ?_), heapAt_setCell_self _ ha, hfound, rfl⟩
  simp only [List.mem_cons, List.not_mem_nil, or_false] at hy
  have hge : s.heap.size ≤ W.heap.size := X.same.2.1
  rcases hy with rfl | rfl | rfl | rfl | rfl <;> exact Nat.le_trans hge (Nat.le_add_right _ 2)
set_option maxHeartbeats 1000000 in
/-- the machine throws NullPointerException, no traces kept: from its note over the frame g to 'throwing' over the same frame (follows the proof of Stand.vmThrowsNpe, Shelf42/KT2.lean; throwsNpeColdBareVAt, Shelf42/NT91.lean, called) -/
theorem vx_npeAt {p : Program} {l : Launch} {e : Env} {R : Room} {s : State} {m₀ : MethodId} {args : Array Value} {below : List Frame} {meth : Method} {c : Code} {W : State} {locs : List Loc} {cells slots : Nat}
    (X : Stand p l e R s m₀ args below meth c W locs cells slots) (hexec : p.tables.exec = Jvm.exec) (htr : e.platform.stackTraces = false) {n : Nat}
    (h : ∀ a ∈ Bundle.npeArmAtoms n, a.before args s = true)
    (hlocs : ∀ x ∈ locs, ∀ cell, s.heap[x.base]? = some cell → cell.vm.isStatics = false)
    {g : JFrame} (hg : g.method = m₀) (hsize : g.locals.size = c.maxLocals)
    (hRframes : 7 < R.frames) (hRlocals : 2 * g.monitorRoom + (g.stack.map fun v => v.category).sum + 10240 ≤ R.locals)
    (hRcells : cells + 1 ≤ R.cells) (hRslots : slots + n ≤ R.slots) (hlocks : meth.locks = false) :
    ∃ (S : State) (q : Addr) (ce : Cell), (∀ target, Steps p.tables e below ((S.setTop g).pushFrame (.throwing q)) target → Steps p.tables e below ((W.setTop g).pushFrame (.throwNew "java/lang/NullPointerException" none none)) target) ∧
      Stand p l e R s m₀ args below meth c S locs (cells + 1) (slots + n) ∧ S.heap[q]? = some ce ∧ s.vm.findClass "java/lang/NullPointerException" = some ce.cls ∧ ce.vm = .none := by
  have howns : e.platform.frameOwnsMonitors = true := by rw [X.admits.platform]
  have hfin : e.platform.finalization = false := by rw [X.admits.platform]
  have hpl : e.platform.magicAccessors = ({} : Platform).magicAccessors := by rw [X.admits.platform]
  have hpl2 : e.platform.arrayCloneIsPublic = true := by rw [X.admits.platform]
  have a' : ∀ x, x ∈ Bundle.npeArmAtoms n → x.holds args s none s [] = true := fun x hx => h x hx
  obtain ⟨T, Z, L, LZ, Y⟩ := ThrowableC.of_atoms (args := args) howns hfin hpl (fun x hx => h x (by simp [Bundle.npeArmAtoms, hx]))
  obtain ⟨N, LN, hcN, hnNF, hordN, hffS⟩ := NpeC.of_atoms (args := args) hpl hpl2 L Y (fun x hx => h x (by simp [Bundle.npeArmAtoms, hx]))
  obtain ⟨P1, L1, hP1m, hP1s⟩ := PassC.of_atoms (args := args) (s := s) hpl (X := Bundle.nN) (Y := Bundle.rN) (by decide) (by decide) LibCode.NullPointerException.Init0.at_0 LibCode.NullPointerException.Init0.at_1 LibCode.NullPointerException.Init0.at_4 (fun x hx => h x (by simp [Bundle.npeArmAtoms, hx]))
  obtain ⟨PR, LR, hPRm, hPRs⟩ := PassC.of_atoms (args := args) (s := s) hpl (X := Bundle.rN) (Y := Bundle.eN) (by decide) (by decide) LibCode.RuntimeException.Init0.at_0 LibCode.RuntimeException.Init0.at_1 LibCode.RuntimeException.Init0.at_4 (fun x hx => h x (by simp [Bundle.npeArmAtoms, hx]))
  obtain ⟨PE, LEx, hPEm, hPEs⟩ := PassC.of_atoms (args := args) (s := s) hpl (X := Bundle.eN) (Y := Bundle.tN) (by decide) (by decide) LibCode.Exception.Init0.at_0 LibCode.Exception.Init0.at_1 LibCode.Exception.Init0.at_4 (fun x hx => h x (by simp [Bundle.npeArmAtoms, hx]))
  have hfound : s.vm.findClass Bundle.nN = some P1.m.cls := findClass_of_methodNamed hP1m
  have ecls : N.cN = P1.m.cls := Option.some.inj (hcN.symm.trans hfound)
  have hk : s.vm.classes[P1.m.cls]? = some N.kN := by rw [← ecls]; exact LN.cls
  have hinit := Cond.initialized_spec hfound hk (a' (.initialized Bundle.nN) (by simp [Bundle.npeArmAtoms]))
  have hctor : N.kN.findMethod "<init>" "()V" = some P1.m.idx := findMethod_of_methodNamed hP1m hk
  obtain ⟨c1, k1, hc1, hk1, -, -, -, hn⟩ := Cond.instantiable_spec (a' (.instantiable Bundle.nN n) (by simp [Bundle.npeArmAtoms]))
  cases Option.some.inj (hc1.symm.trans hfound)
  cases Option.some.inj (hk1.symm.trans hk)
  have hfsz : (freshCell P1.m.cls N.kN).slots.size = n := by simp [hn]
  have hlink1 : P1.sup = PR.m := Option.some.inj (hP1s.symm.trans hPRm)
  have hlinkR : PR.sup = PE.m := Option.some.inj (hPRs.symm.trans hPEm)
  have hlinkE : PE.sup = Z.m T.toThrowableT := Option.some.inj (hPEs.symm.trans Y.init0)
  have hLs : ∀ P, P ∈ [PR, PE] → P.Links0 e.platform s := fun P hP => by
    simp only [List.mem_cons, List.not_mem_nil, or_false] at hP
    rcases hP with rfl | rfl
    · exact LR
    · exact LEx
  have hsel0 : selectMethod e.platform s.vm P1.m.cls T.fill0 = .method T.fill0 := by
    obtain ⟨c2, r2, m2, q1, q2, q3, q4, -⟩ := Cond.selects_spec (a' (.selects Bundle.nN Bundle.tFill0 Bundle.tFill0) (by simp [Bundle.npeArmAtoms]))
    cases Option.some.inj (q1.symm.trans hfound)
    cases Option.some.inj (q2.symm.trans (State.methodFound?_of_named Y.fill0 (by decide)))
    cases Option.some.inj (q3.symm.trans Y.fill0)
    rw [Launch.admits_selectMethod X.admits]; exact q4
  have hselF : selectMethod e.platform s.vm P1.m.cls T.fill = .method N.fill := by
    obtain ⟨c2, r2, m2, q1, q2, q3, q4, -⟩ := Cond.selects_spec (a' (.selects Bundle.nN Bundle.tFill Bundle.nFill) (by simp [Bundle.npeArmAtoms]))
    cases Option.some.inj (q1.symm.trans hfound)
    cases Option.some.inj (q2.symm.trans (State.methodFound?_of_named Y.fill (by decide)))
    cases Option.some.inj (q3.symm.trans hnNF)
    rw [Launch.admits_selectMethod X.admits]; exact q4
  obtain ⟨cellS0, hcS0, hiss⟩ := Y.statics
  obtain ⟨u0, hu0⟩ := Cond.staticRefV Y.unassigned L.unassignedStatic L.statics hcS0 hiss (a' (.isRef (.static Bundle.tN "UNASSIGNED_STACK" Bundle.steD)) (by simp [Bundle.npeArmAtoms]))
  obtain ⟨sen, hsen⟩ := Cond.staticRefV Y.sentinel L.sentinelStatic L.statics hcS0 hiss (a' (.isRef (.static Bundle.tN "SUPPRESSED_SENTINEL" Bundle.listD)) (by simp [Bundle.npeArmAtoms]))
  obtain ⟨ci198, i198, fB, hk198, hg198, ha198, hsB, -, hnB, htB, hffB⟩ := Cond.ownField (t := .object "java/lang/Object") Y.found L.cls (by decide +kernel) (a' (.fieldLink Bundle.tN 198 Bundle.tN "backtrace" Bundle.objD) (by simp [Bundle.npeArmAtoms])) (a' (.lays Bundle.tN Bundle.tN "backtrace" Bundle.objD) (by simp [Bundle.npeArmAtoms])) e.platform hpl
  obtain ⟨cellS, hcS', heS, -, hkeep⟩ := X.same.2.2.2.2.2 T.aS cellS0 hcS0
  have hcellS : W.heap[T.aS]? = some cellS := hcS'
  have hout' : ∀ i, (⟨T.aS, i⟩ : Loc) ∉ locs := fun i hmem => by
    have := hlocs _ hmem cellS0 hcS0
    rw [hiss] at this; cases this
  have hknownS : cellS.vm ≠ .unknown := by
    rw [heS]; intro hu
    rw [show cellS0.vm = .unknown from hu] at hiss
    cases hiss
  have hvU : cellS.slots[T.fUnassigned.slot]? = some u0.v := by rw [hkeep _ (hout' _)]; exact hu0
  have hvSen : cellS.slots[T.fSentinel.slot]? = some sen.v := by rw [hkeep _ (hout' _)]; exact hsen
  obtain ⟨tyC, dC, hdC, hdnC⟩ := Cond.laysAt hfound hk Y.cause (a' (.lays Bundle.nN Bundle.tN "cause" "Ljava/lang/Throwable;") (by simp [Bundle.npeArmAtoms]))
  obtain ⟨tyS, dS, hdS, hdnS⟩ := Cond.laysAt hfound hk Y.stack (a' (.lays Bundle.nN Bundle.tN "stackTrace" Bundle.steD) (by simp [Bundle.npeArmAtoms]))
  obtain ⟨tyP, dP, hdP, hdnP⟩ := Cond.laysAt hfound hk Y.supp (a' (.lays Bundle.nN Bundle.tN "suppressedExceptions" Bundle.listD) (by simp [Bundle.npeArmAtoms]))
  obtain ⟨tyX, dX, hdX, hdnX⟩ := Cond.laysAt hfound hk hffS (a' (.lays Bundle.nN Bundle.nN "extendedMessageState" "I") (by simp [Bundle.npeArmAtoms, Bundle.npeAtoms]))
  obtain ⟨hnX, htX⟩ := State.fieldFound?_type hffS (t := .int) (by decide +kernel)
  have xC := Cond.laysApart hdC hdX hdnC hdnX (by rw [hnX, Y.causeName]; decide)
  have xS := Cond.laysApart hdS hdX hdnS hdnX (by rw [hnX, Y.stackName]; decide)
  have xP := Cond.laysApart hdP hdX hdnP hdnX (by rw [hnX, Y.suppName]; decide)
  have hv0 : (freshCell P1.m.cls N.kN).slots[N.fState.slot]? = some (.int 0) := by
    have := fresh_default (c := P1.m.cls) tyX
    rw [htX] at this; exact this
  obtain ⟨tyB, dB, hdB, hdnB⟩ := Cond.laysAt hfound hk hffB (a' (.lays Bundle.nN Bundle.tN "backtrace" Bundle.objD) (by simp [Bundle.npeArmAtoms]))
  have bC := Cond.laysApart hdB hdC hdnB hdnC (by rw [hnB, Y.causeName]; decide)
  have bS := Cond.laysApart hdB hdS hdnB hdnS (by rw [hnB, Y.stackName]; decide)
  have bP := Cond.laysApart hdB hdP hdnB hdnP (by rw [hnB, Y.suppName]; decide)
  have bX := Cond.laysApart hdB hdX hdnB hdnX (by rw [hnB, hnX]; decide)
  have hbk : ((npeCell N.toNpeT (preparedCellV T.toThrowableT (freshCell P1.m.cls N.kN) W.heap.size u0 sen) W.cur).withEntry W.cur).slots[fB.slot]? = some .null := by
    have := fresh_default (c := P1.m.cls) tyB
    rw [htB] at this
    simpa [npeCell, preparedCellV, Cell.setSlot, Cell.withEntry, Array.getElem?_setIfInBounds, bC, bS, bP, bX, bC.symm, bS.symm, bP.symm, bX.symm, defaultValue] using this
  have tkC := Takes.of_laid (v := .ref W.heap.size) hk hordN tyC (by rw [Y.causeType]; rfl)
  have tkS := Takes.of_laid (v := u0.v) hk hordN tyS (by rw [Y.stackType]; exact fits_refV_array _ u0)
  have tkP := Takes.of_laid (v := sen.v) hk hordN tyP (by rw [Y.suppType]; exact fits_refV_object _ sen)
  have tkX := Takes.of_laid (v := .int 1) hk hordN tyX (by rw [htX]; rfl)
  have hskip : SkipFacts T e.platform s (fun u => u) u0 ((npeCell N.toNpeT (preparedCellV T.toThrowableT (freshCell P1.m.cls N.kN) W.heap.size u0 sen) W.cur).withEntry W.cur) := ⟨{ ci198 := ci198, i198 := i198, fBack := fB }, ⟨hk198, hg198, ha198, hsB⟩, hbk, fun _ _ => rfl⟩
  obtain ⟨vm', X3, st, -⟩ := X.throwsNpeColdBareVAt hexec hg hsize T L Z LZ N LN P1 L1 [PR, PE] hLs hlink1 ⟨hlinkR, hlinkE, trivial⟩ hfound hk hinit hordN hctor hsel0 hselF hcellS hknownS hvU hvSen
    hv0 xC xS xP tkC tkS tkP tkX Y.objLocals hskip (fun _ _ hA hW _ hroom _ hrest => L.nativeOff p htr hA hW hroom hrest) (by simpa using hRframes) hRlocals (by simp) hRcells (by rw [hn]; exact hRslots)
  have hlt : W.heap.size < ((W.pushCell (freshCell P1.m.cls N.kN)).setVm vm').heap.size := by
    show W.heap.size < (W.pushCell (freshCell P1.m.cls N.kN)).heap.size
    rw [State.heap_size_pushCell]; omega
  rw [hfsz] at X3
  obtain ⟨g₁, hfrM⟩ := X3.frames_eq
  have hU : ((((W.pushCell (freshCell P1.m.cls N.kN)).setVm vm').setCell W.heap.size (npeBareV T.toThrowableT N.toNpeT (freshCell P1.m.cls N.kN) W.heap.size u0 sen)).setTop g).pushFrame (.throwing W.heap.size) = (((W.pushCell (freshCell P1.m.cls N.kN)).setVm vm').setCell W.heap.size (npeBareV T.toThrowableT N.toNpeT (freshCell P1.m.cls N.kN) W.heap.size u0 sen)).setFrames (.throwing W.heap.size :: .java g :: below) := by
    rw [State.pushFrame, State.frames_setTop _ hfrM, State.setTop_of_frames _ hfrM, State.setFrames_setFrames]
  refine ⟨_, W.heap.size, _, fun target ht => st.trans (by rw [← hU]; exact ht), X3.forget (fun y hy => ?_), heapAt_setCell_self _ hlt, hfound, rfl⟩
  simp only [List.mem_cons, List.not_mem_nil, or_false] at hy
  have hge : s.heap.size ≤ W.heap.size := X.same.2.1
  rcases hy with rfl | rfl | rfl | rfl | rfl <;> exact hge
/-- the words of a machine's NullPointerException, but the four that speak of the heap -/
def vx_atN (n : Nat) : List Cond := (Bundle.npeArmAtoms n).filter vx_no
/-- the words of a machine's throw with a message, but the four that speak of the heap -/
def vx_atM (X : String) (names : List String) : List Cond := (Bundle.messageArmAtoms X names).filter vx_no
section
variable {p : Program} {l : Launch} {e : Env} {R : Room} {s : State} {m : MethodId} {args : Array Value} {below : List Frame} {meth : Method} {c : Code} {H : Heap} {locs : List Loc} {cells slots : Nat}
/-- a frame seen from a rebased start, seen from the first start again -/
theorem vx_back9 {T S : State} {R' : Room} {k n : Nat} (X : Stand p l e R s m args below meth c T locs cells slots) (Y : Stand p l e R' ((T.setVm s.vm).setFrames (.invoking m args :: below)) m args below meth c T [] 0 0) (Z : Stand p l e R' ((T.setVm s.vm).setFrames (.invoking m args :: below)) m args below meth c S [] k n) :
    Stand p l e R s m args below meth c S locs (cells + k) (slots + n) := by
  have hW0 : s.WarmedH ((T.setVm s.vm).setFrames (.invoking m args :: below)).vm := State.WarmedH.refl s
  refine { admits := X.admits, cas := X.cas, clock := X.clock, frames := X.frames, room := X.room, hears := X.hears, method := X.method, code := X.code, here := Z.here, tail := Z.tail, warmed := State.WarmedH.trans hW0 Z.warmed, limits := Z.limits.trans (Y.limits.symm.trans X.limits), bytes := Z.bytes.trans (Y.bytes.symm.trans X.bytes), same := ?_ }
  obtain ⟨e1, e2⟩ := Z.same
  rw [State.setFrames_setFrames] at e1
  have h2 : (T.setVm s.vm).sameButNew (S.setVm s.vm) [] k n := ⟨e1, e2⟩
  have h3 := X.same.trans h2
  rw [List.append_nil] at h3
  exact h3
/-- from the machine's note that E is thrown here with this text -/
def vx_Note (p : Program) (l : Launch) (e : Env) (R : Room) (s : State) (m : MethodId) (args : Array Value) (below : List Frame) (meth : Method) (c : Code) (H : Heap) (locs : List Loc) (cells slots : Nat) (Q : State → Prop) (g : JFrame) (E text : String) : Prop :=
  ∀ T : State, T.heap = H → Stand p l e R s m args below meth c T locs cells slots → ∃ t, Steps p.tables e below ((T.setTop g).pushFrame (.throwNew E (some text) none)) t ∧ Q t
theorem vx_vm {pc : Nat} {ls : Array Slot} {rest : List Value} {Q : State → Prop} (hexec : p.tables.exec = Jvm.exec) (hl : l.stackTraces = false) {cls text : String} {names : List String} {nb : Nat} {A : Nat → Prop}
    (hcls : Bundle.fit cls = true) (hnames : ∀ n ∈ names, Bundle.fit n = true) (hsoe : (cls == "java/lang/StackOverflowError") = false) (hoom : (cls == "java/lang/OutOfMemoryError") = false)
    (hat : ∀ w ∈ vx_atM cls names, w.before args s = true) (hgood : ∀ w ∈ vx_atM cls names, vx_ot w = true)
    (hU : vx_Zq Bundle.tN "UNASSIGNED_STACK" Bundle.steD A s s.heap) (hN : vx_Zq Bundle.tN "SUPPRESSED_SENTINEL" Bundle.listD A s s.heap) (hS : va_S A s.heap H locs) (hsize : ls.size = c.maxLocals)
    (htext : (text == notModelled) = false) (hnb : (stringBytes (stringToUtf16 text)).size ≤ nb) (hnb1 : nb ≤ 1000)
    (hRframes : names.length + 4 < R.frames) (hRlocals : (rest.map fun v => v.category).sum + 10240 ≤ R.locals) (hshort : 13 * names.length + 55 ≤ 10240) (hRcells : cells + 3 ≤ R.cells) (hRslots : slots + (nb + 10) ≤ R.slots) (hlocks : meth.locks = false)
    (k : ∀ (H1 : Heap) (q9 : Addr) (ce : Cell), H.size ≤ H1.size → (∀ q : Nat, q < H.size → H1[q]? = H[q]?) → va_S A s.heap H1 locs → H1[q9]? = some ce → ce.vm = .none → s.vm.findClass cls = some ce.cls → vx_W p l e R s m args below meth c H1 locs (cells + 3) (slots + (nb + 10)) Q (F0 m pc ls rest) q9) :
    vx_Note p l e R s m args below meth c H locs cells slots Q (F0 m pc ls rest) cls text := by
  intro T hT X
  have htr : e.platform.stackTraces = false := (show e.platform.stackTraces = l.stackTraces by rw [X.admits.platform]).trans hl
  have Y := vx_rebase X (R' := { frames := R.frames, locals := R.locals, cells := 3, slots := nb + 10 }) (Nat.le_refl _) (Nat.le_refl _) hRcells hRslots
  have hhp : ((T.setVm s.vm).setFrames (.invoking m args :: below)).heap = H := hT
  have hW0 : s.WarmedH ((T.setVm s.vm).setFrames (.invoking m args :: below)).vm := State.WarmedH.refl s
  have hat' : ∀ w ∈ vx_atM cls names, w.before args ((T.setVm s.vm).setFrames (.invoking m args :: below)) = true := fun w hw => vx_ot_at hW0 rfl (hgood w hw) (hat w hw)
  have hU' : vx_Zq Bundle.tN "UNASSIGNED_STACK" Bundle.steD A ((T.setVm s.vm).setFrames (.invoking m args :: below)) ((T.setVm s.vm).setFrames (.invoking m args :: below)).heap := by rw [hhp]; exact vx_Zq.moved hW0.alike (hU.kept hS.2.1)
  have hN' : vx_Zq Bundle.tN "SUPPRESSED_SENTINEL" Bundle.listD A ((T.setVm s.vm).setFrames (.invoking m args :: below)) ((T.setVm s.vm).setFrames (.invoking m args :: below)).heap := by rw [hhp]; exact vx_Zq.moved hW0.alike (hN.kept hS.2.1)
  obtain ⟨S, q, ce, st, Z, hce, hcl', hv⟩ := vx_vmAt Y hexec htr (cls := cls) (names := names) (text := text) hcls hnames hsoe hoom (vx_own hat' (vx_isRefq hU'.1) (vx_isRefq hN'.1) hU'.2.word hN'.2.word) (fun x hx => nomatch hx) htext
    (by rw [Launch.admits_arrayLengthLimit X.admits]; omega) (by rw [Launch.admits_maxHeapBytes X.admits]; simp only [componentBytes]; omega)
    (g := F0 m pc ls rest) rfl hsize hRframes (by show 2 * 0 + (rest.map fun v => v.category).sum + 10240 ≤ R.locals; omega) hshort (by show 0 + 3 ≤ 3; omega) (by show 0 + (_ + 4 + 6) ≤ nb + 10; omega) hlocks
  obtain ⟨f1, f2⟩ := vx_frame Z.same
  have f1' : H.size ≤ S.heap.size := by rw [← hT]; exact f1
  have f2' : ∀ q : Nat, q < H.size → S.heap[q]? = H[q]? := fun q hq => by
    rw [← hT]
    exact f2 q (by rw [← hT] at hq; exact hq) (fun z hz => nomatch hz)
  have X5 := vx_back9 X Y Z
  have X6 : Stand p l e R s m args below meth c S locs (cells + 3) (slots + (nb + 10)) := { X5 with same := X5.same.mono (by omega) (by omega) }
  obtain ⟨t, a1, b1⟩ := k S.heap q ce f1' f2' ⟨Nat.le_trans hS.1 f1', fun q h1 h2 => (f2' q (Nat.lt_of_lt_of_le h1 hS.1)).trans (hS.2.1 q h1 h2), hS.2.2⟩ hce hv hcl' S rfl X6
  exact ⟨t, st t a1, b1⟩
/-- from the machine's note that NullPointerException is thrown here -/
def vx_NoteN (p : Program) (l : Launch) (e : Env) (R : Room) (s : State) (m : MethodId) (args : Array Value) (below : List Frame) (meth : Method) (c : Code) (H : Heap) (locs : List Loc) (cells slots : Nat) (Q : State → Prop) (g : JFrame) : Prop :=
  ∀ T : State, T.heap = H → Stand p l e R s m args below meth c T locs cells slots → ∃ t, Steps p.tables e below ((T.setTop g).pushFrame (.throwNew "java/lang/NullPointerException" none none)) t ∧ Q t
theorem vx_npe {pc : Nat} {ls : Array Slot} {rest : List Value} {Q : State → Prop} (hexec : p.tables.exec = Jvm.exec) (hl : l.stackTraces = false) {nb : Nat} {A : Nat → Prop}
    (hat : ∀ w ∈ vx_atN nb, w.before args s = true) (hgood : ∀ w ∈ vx_atN nb, vx_ot w = true)
    (hU : vx_Zq Bundle.tN "UNASSIGNED_STACK" Bundle.steD A s s.heap) (hN : vx_Zq Bundle.tN "SUPPRESSED_SENTINEL" Bundle.listD A s s.heap) (hS : va_S A s.heap H locs) (hsize : ls.size = c.maxLocals)
    (hRframes : 7 < R.frames) (hRlocals : (rest.map fun v => v.category).sum + 10240 ≤ R.locals) (hRcells : cells + 1 ≤ R.cells) (hRslots : slots + nb ≤ R.slots) (hlocks : meth.locks = false)
    (k : ∀ (H1 : Heap) (q9 : Addr) (ce : Cell), H.size ≤ H1.size → (∀ q : Nat, q < H.size → H1[q]? = H[q]?) → va_S A s.heap H1 locs → H1[q9]? = some ce → ce.vm = .none → s.vm.findClass "java/lang/NullPointerException" = some ce.cls → vx_W p l e R s m args below meth c H1 locs (cells + 1) (slots + nb) Q (F0 m pc ls rest) q9) :
    vx_NoteN p l e R s m args below meth c H locs cells slots Q (F0 m pc ls rest) := by
  intro T hT X
  have htr : e.platform.stackTraces = false := (show e.platform.stackTraces = l.stackTraces by rw [X.admits.platform]).trans hl
  have Y := vx_rebase X (R' := { frames := R.frames, locals := R.locals, cells := 1, slots := nb }) (Nat.le_refl _) (Nat.le_refl _) hRcells hRslots
  have hhp : ((T.setVm s.vm).setFrames (.invoking m args :: below)).heap = H := hT
  have hW0 : s.WarmedH ((T.setVm s.vm).setFrames (.invoking m args :: below)).vm := State.WarmedH.refl s
  have hat' : ∀ w ∈ vx_atN nb, w.before args ((T.setVm s.vm).setFrames (.invoking m args :: below)) = true := fun w hw => vx_ot_at hW0 rfl (hgood w hw) (hat w hw)
  have hU' : vx_Zq Bundle.tN "UNASSIGNED_STACK" Bundle.steD A ((T.setVm s.vm).setFrames (.invoking m args :: below)) ((T.setVm s.vm).setFrames (.invoking m args :: below)).heap := by rw [hhp]; exact vx_Zq.moved hW0.alike (hU.kept hS.2.1)
  have hN' : vx_Zq Bundle.tN "SUPPRESSED_SENTINEL" Bundle.listD A ((T.setVm s.vm).setFrames (.invoking m args :: below)) ((T.setVm s.vm).setFrames (.invoking m args :: below)).heap := by rw [hhp]; exact vx_Zq.moved hW0.alike (hN.kept hS.2.1)
  obtain ⟨S, q, ce, st, Z, hce, hcl', hv⟩ := vx_npeAt Y hexec htr (n := nb) (vx_own hat' (vx_isRefq hU'.1) (vx_isRefq hN'.1) hU'.2.word hN'.2.word) (fun x hx => nomatch hx)
    (g := F0 m pc ls rest) rfl hsize hRframes (by show 2 * 0 + (rest.map fun v => v.category).sum + 10240 ≤ R.locals; omega) (by show 0 + 1 ≤ 1; omega) (by show 0 + nb ≤ nb; omega) hlocks
  obtain ⟨f1, f2⟩ := vx_frame Z.same
  have f1' : H.size ≤ S.heap.size := by rw [← hT]; exact f1
  have f2' : ∀ q : Nat, q < H.size → S.heap[q]? = H[q]? := fun q hq => by
    rw [← hT]
    exact f2 q (by rw [← hT] at hq; exact hq) (fun z hz => nomatch hz)
  have X5 := vx_back9 X Y Z
  have X6 : Stand p l e R s m args below meth c S locs (cells + 1) (slots + nb) := { X5 with same := X5.same.mono (by omega) (by omega) }
  obtain ⟨t, a1, b1⟩ := k S.heap q ce f1' f2' ⟨Nat.le_trans hS.1 f1', fun q h1 h2 => (f2' q (Nat.lt_of_lt_of_le h1 hS.1)).trans (hS.2.1 q h1 h2), hS.2.2⟩ hce hv hcl' S rfl X6
  exact ⟨t, st t a1, b1⟩
variable {Q : State → Prop} {cc : ByteArray} {pc : Nat} {ls : Array Slot} {rest : List Value}
theorem vx_idivZ (hexec : p.tables.exec = Jvm.exec) (hb : c.code = cc) {a b : Int32} (h0 : b = 0) (d : decode cc pc = .ok (.idiv, 1)) (k : vx_Note p l e R s m args below meth c H locs cells slots Q (F0 m pc ls rest) "java/lang/ArithmeticException" "/ by zero") :
    W p l e R s m args below meth c H locs cells slots Q (F0 m pc ls (.int b :: .int a :: rest)) := by
  intro T hT X
  obtain ⟨t, st, q⟩ := k T hT X
  exact ⟨t, X.idivZero hexec (g := F0 m pc ls (.int b :: .int a :: rest)) rfl (a := a) (rest := rest) (by rw [h0]) (by rw [hb]; exact d) t st, q⟩
theorem vx_iremZ (hexec : p.tables.exec = Jvm.exec) (hb : c.code = cc) {a b : Int32} (h0 : b = 0) (d : decode cc pc = .ok (.irem, 1)) (k : vx_Note p l e R s m args below meth c H locs cells slots Q (F0 m pc ls rest) "java/lang/ArithmeticException" "/ by zero") :
    W p l e R s m args below meth c H locs cells slots Q (F0 m pc ls (.int b :: .int a :: rest)) := by
  intro T hT X
  obtain ⟨t, st, q⟩ := k T hT X
  exact ⟨t, X.iremZero hexec (g := F0 m pc ls (.int b :: .int a :: rest)) rfl (a := a) (rest := rest) (by rw [h0]) (by rw [hb]; exact d) t st, q⟩
theorem vx_ldivZ (hexec : p.tables.exec = Jvm.exec) (hb : c.code = cc) {a b : Int64} (h0 : b = 0) (d : decode cc pc = .ok (.ldiv, 1)) (k : vx_Note p l e R s m args below meth c H locs cells slots Q (F0 m pc ls rest) "java/lang/ArithmeticException" "/ by zero") :
    W p l e R s m args below meth c H locs cells slots Q (F0 m pc ls (.long b :: .long a :: rest)) := by
  intro T hT X
  obtain ⟨t, st, q⟩ := k T hT X
  exact ⟨t, X.ldivZero hexec (g := F0 m pc ls (.long b :: .long a :: rest)) rfl (a := a) (rest := rest) (by rw [h0]) (by rw [hb]; exact d) t st, q⟩
theorem vx_lremZ (hexec : p.tables.exec = Jvm.exec) (hb : c.code = cc) {a b : Int64} (h0 : b = 0) (d : decode cc pc = .ok (.lrem, 1)) (k : vx_Note p l e R s m args below meth c H locs cells slots Q (F0 m pc ls rest) "java/lang/ArithmeticException" "/ by zero") :
    W p l e R s m args below meth c H locs cells slots Q (F0 m pc ls (.long b :: .long a :: rest)) := by
  intro T hT X
  obtain ⟨t, st, q⟩ := k T hT X
  exact ⟨t, X.lremZero hexec (g := F0 m pc ls (.long b :: .long a :: rest)) rfl (a := a) (rest := rest) (by rw [h0]) (by rw [hb]; exact d) t st, q⟩
theorem vx_ialdZ {D : va_G} {cl : List vw_C} {ws : va_W} {tys : List (ClassId × FieldType)} {a : Nat} (hexec : p.tables.exec = Jvm.exec) (hb : c.code = cc) (hK : va_K D cl tys s) (hP : va_P D cl ws H) (q0 t0 : Nat) {cA : ClassId} {n : Nat} {f : Nat → Int32} (ha : ws[q0]? = some (a, .inl (cA, n, .inl f))) (ht : tys[t0]? = some (cA, .int)) {i : Int32} (hout : ¬ vp_in i n) (hdg : decode cc pc = .ok (.iaload, 1))
    (k : ∀ tx : String, tx = (toString "Index " ++ toString i ++ toString " out of bounds for length " ++ toString n : String) → vx_Note p l e R s m args below meth c H locs cells slots Q (F0 m pc ls rest) "java/lang/ArrayIndexOutOfBoundsException" tx) : W p l e R s m args below meth c H locs cells slots Q (F0 m pc ls (.int i :: .ref a :: rest)) := by
  intro T hT X
  obtain ⟨t, st, q⟩ := k _ rfl T hT X
  refine ⟨t, ?_, q⟩
  have h1 := X.ialoadOut hexec (by rw [hT]; exact hP q0 _ ha) ((hK.2 t0 _ ht).1 n (fun j => .int (f j))) (j := i) (by show (i < 0 ∨ (arrV _ _ _).slots.size ≤ _); rw [arrV_size]; exact Classical.byContradiction hout) (g := F0 m pc ls (.int i :: .ref a :: rest)) rfl (rest := rest) rfl (by rw [hb]; exact hdg) t
  simp only [arrV_size] at h1
  exact h1 st
theorem vx_iastZ {D : va_G} {cl : List vw_C} {ws : va_W} {tys : List (ClassId × FieldType)} {a : Nat} (hexec : p.tables.exec = Jvm.exec) (hb : c.code = cc) (hK : va_K D cl tys s) (hP : va_P D cl ws H) (q0 t0 : Nat) {cA : ClassId} {n : Nat} {f : Nat → Int32} (ha : ws[q0]? = some (a, .inl (cA, n, .inl f))) (ht : tys[t0]? = some (cA, .int)) {i : Int32} {x : Int32} (hout : ¬ vp_in i n) (hdg : decode cc pc = .ok (.iastore, 1))
    (k : ∀ tx : String, tx = (toString "Index " ++ toString i ++ toString " out of bounds for length " ++ toString n : String) → vx_Note p l e R s m args below meth c H locs cells slots Q (F0 m pc ls rest) "java/lang/ArrayIndexOutOfBoundsException" tx) : W p l e R s m args below meth c H locs cells slots Q (F0 m pc ls (.int x :: .int i :: .ref a :: rest)) := by
  intro T hT X
  obtain ⟨t, st, q⟩ := k _ rfl T hT X
  refine ⟨t, ?_, q⟩
  have h1 := X.iastoreOut hexec (by rw [hT]; exact hP q0 _ ha) ((hK.2 t0 _ ht).1 n (fun j => .int (f j))) (j := i) (by show (i < 0 ∨ (arrV _ _ _).slots.size ≤ _); rw [arrV_size]; exact Classical.byContradiction hout) (g := F0 m pc ls (.int x :: .int i :: .ref a :: rest)) rfl (rest := rest) rfl (by rw [hb]; exact hdg) t
  simp only [arrV_size] at h1
  exact h1 st
theorem vx_baldZ {D : va_G} {cl : List vw_C} {ws : va_W} {tys : List (ClassId × FieldType)} {a : Nat} (hexec : p.tables.exec = Jvm.exec) (hb : c.code = cc) (hK : va_K D cl tys s) (hP : va_P D cl ws H) (q0 t0 : Nat) {cA : ClassId} {n : Nat} {f : Nat → Int32} (ha : ws[q0]? = some (a, .inl (cA, n, .inl f))) (ht : tys[t0]? = some (cA, .byte)) {i : Int32} (hout : ¬ vp_in i n) (hdg : decode cc pc = .ok (.baload, 1))
    (k : ∀ tx : String, tx = (toString "Index " ++ toString i ++ toString " out of bounds for length " ++ toString n : String) → vx_Note p l e R s m args below meth c H locs cells slots Q (F0 m pc ls rest) "java/lang/ArrayIndexOutOfBoundsException" tx) : W p l e R s m args below meth c H locs cells slots Q (F0 m pc ls (.int i :: .ref a :: rest)) := by
  intro T hT X
  obtain ⟨t, st, q⟩ := k _ rfl T hT X
  refine ⟨t, ?_, q⟩
  have h1 := X.baloadOut hexec (by rw [hT]; exact hP q0 _ ha) ((hK.2 t0 _ ht).1 n (fun j => .int (f j))) (j := i) (by show (i < 0 ∨ (arrV _ _ _).slots.size ≤ _); rw [arrV_size]; exact Classical.byContradiction hout) (g := F0 m pc ls (.int i :: .ref a :: rest)) rfl (rest := rest) rfl (by rw [hb]; exact hdg) t
  simp only [arrV_size] at h1
  exact h1 st
theorem vx_bastZ {D : va_G} {cl : List vw_C} {ws : va_W} {tys : List (ClassId × FieldType)} {a : Nat} (hexec : p.tables.exec = Jvm.exec) (hb : c.code = cc) (hK : va_K D cl tys s) (hP : va_P D cl ws H) (q0 t0 : Nat) {cA : ClassId} {n : Nat} {f : Nat → Int32} (ha : ws[q0]? = some (a, .inl (cA, n, .inl f))) (ht : tys[t0]? = some (cA, .byte)) {i : Int32} {x : Int32} (hout : ¬ vp_in i n) (hdg : decode cc pc = .ok (.bastore, 1))
    (k : ∀ tx : String, tx = (toString "Index " ++ toString i ++ toString " out of bounds for length " ++ toString n : String) → vx_Note p l e R s m args below meth c H locs cells slots Q (F0 m pc ls rest) "java/lang/ArrayIndexOutOfBoundsException" tx) : W p l e R s m args below meth c H locs cells slots Q (F0 m pc ls (.int x :: .int i :: .ref a :: rest)) := by
  intro T hT X
  obtain ⟨t, st, q⟩ := k _ rfl T hT X
  refine ⟨t, ?_, q⟩
  have h1 := X.bastoreOut hexec (by rw [hT]; exact hP q0 _ ha) ((hK.2 t0 _ ht).1 n (fun j => .int (f j))) (j := i) (by show (i < 0 ∨ (arrV _ _ _).slots.size ≤ _); rw [arrV_size]; exact Classical.byContradiction hout) (g := F0 m pc ls (.int x :: .int i :: .ref a :: rest)) rfl (rest := rest) rfl (by rw [hb]; exact hdg) t
  simp only [arrV_size] at h1
  exact h1 st
theorem vx_zaldZ {D : va_G} {cl : List vw_C} {ws : va_W} {tys : List (ClassId × FieldType)} {a : Nat} (hexec : p.tables.exec = Jvm.exec) (hb : c.code = cc) (hK : va_K D cl tys s) (hP : va_P D cl ws H) (q0 t0 : Nat) {cA : ClassId} {n : Nat} {f : Nat → Int32} (ha : ws[q0]? = some (a, .inl (cA, n, .inl f))) (ht : tys[t0]? = some (cA, .boolean)) {i : Int32} (hout : ¬ vp_in i n) (hdg : decode cc pc = .ok (.baload, 1))
    (k : ∀ tx : String, tx = (toString "Index " ++ toString i ++ toString " out of bounds for length " ++ toString n : String) → vx_Note p l e R s m args below meth c H locs cells slots Q (F0 m pc ls rest) "java/lang/ArrayIndexOutOfBoundsException" tx) : W p l e R s m args below meth c H locs cells slots Q (F0 m pc ls (.int i :: .ref a :: rest)) := by
  intro T hT X
  obtain ⟨t, st, q⟩ := k _ rfl T hT X
  refine ⟨t, ?_, q⟩
  have h1 := X.baloadOut hexec (by rw [hT]; exact hP q0 _ ha) ((hK.2 t0 _ ht).1 n (fun j => .int (f j))) (j := i) (by show (i < 0 ∨ (arrV _ _ _).slots.size ≤ _); rw [arrV_size]; exact Classical.byContradiction hout) (g := F0 m pc ls (.int i :: .ref a :: rest)) rfl (rest := rest) rfl (by rw [hb]; exact hdg) t
  simp only [arrV_size] at h1
  exact h1 st
theorem vx_zastZ {D : va_G} {cl : List vw_C} {ws : va_W} {tys : List (ClassId × FieldType)} {a : Nat} (hexec : p.tables.exec = Jvm.exec) (hb : c.code = cc) (hK : va_K D cl tys s) (hP : va_P D cl ws H) (q0 t0 : Nat) {cA : ClassId} {n : Nat} {f : Nat → Int32} (ha : ws[q0]? = some (a, .inl (cA, n, .inl f))) (ht : tys[t0]? = some (cA, .boolean)) {i : Int32} {x : Int32} (hout : ¬ vp_in i n) (hdg : decode cc pc = .ok (.bastore, 1))
    (k : ∀ tx : String, tx = (toString "Index " ++ toString i ++ toString " out of bounds for length " ++ toString n : String) → vx_Note p l e R s m args below meth c H locs cells slots Q (F0 m pc ls rest) "java/lang/ArrayIndexOutOfBoundsException" tx) : W p l e R s m args below meth c H locs cells slots Q (F0 m pc ls (.int x :: .int i :: .ref a :: rest)) := by
  intro T hT X
  obtain ⟨t, st, q⟩ := k _ rfl T hT X
  refine ⟨t, ?_, q⟩
  have h1 := X.bastoreOut hexec (by rw [hT]; exact hP q0 _ ha) ((hK.2 t0 _ ht).1 n (fun j => .int (f j))) (j := i) (by show (i < 0 ∨ (arrV _ _ _).slots.size ≤ _); rw [arrV_size]; exact Classical.byContradiction hout) (g := F0 m pc ls (.int x :: .int i :: .ref a :: rest)) rfl (rest := rest) rfl (by rw [hb]; exact hdg) t
  simp only [arrV_size] at h1
  exact h1 st
theorem vx_caldZ {D : va_G} {cl : List vw_C} {ws : va_W} {tys : List (ClassId × FieldType)} {a : Nat} (hexec : p.tables.exec = Jvm.exec) (hb : c.code = cc) (hK : va_K D cl tys s) (hP : va_P D cl ws H) (q0 t0 : Nat) {cA : ClassId} {n : Nat} {f : Nat → Int32} (ha : ws[q0]? = some (a, .inl (cA, n, .inl f))) (ht : tys[t0]? = some (cA, .char)) {i : Int32} (hout : ¬ vp_in i n) (hdg : decode cc pc = .ok (.caload, 1))
    (k : ∀ tx : String, tx = (toString "Index " ++ toString i ++ toString " out of bounds for length " ++ toString n : String) → vx_Note p l e R s m args below meth c H locs cells slots Q (F0 m pc ls rest) "java/lang/ArrayIndexOutOfBoundsException" tx) : W p l e R s m args below meth c H locs cells slots Q (F0 m pc ls (.int i :: .ref a :: rest)) := by
  intro T hT X
  obtain ⟨t, st, q⟩ := k _ rfl T hT X
  refine ⟨t, ?_, q⟩
  have h1 := X.caloadOut hexec (by rw [hT]; exact hP q0 _ ha) ((hK.2 t0 _ ht).1 n (fun j => .int (f j))) (j := i) (by show (i < 0 ∨ (arrV _ _ _).slots.size ≤ _); rw [arrV_size]; exact Classical.byContradiction hout) (g := F0 m pc ls (.int i :: .ref a :: rest)) rfl (rest := rest) rfl (by rw [hb]; exact hdg) t
  simp only [arrV_size] at h1
  exact h1 st
theorem vx_castZ {D : va_G} {cl : List vw_C} {ws : va_W} {tys : List (ClassId × FieldType)} {a : Nat} (hexec : p.tables.exec = Jvm.exec) (hb : c.code = cc) (hK : va_K D cl tys s) (hP : va_P D cl ws H) (q0 t0 : Nat) {cA : ClassId} {n : Nat} {f : Nat → Int32} (ha : ws[q0]? = some (a, .inl (cA, n, .inl f))) (ht : tys[t0]? = some (cA, .char)) {i : Int32} {x : Int32} (hout : ¬ vp_in i n) (hdg : decode cc pc = .ok (.castore, 1))
    (k : ∀ tx : String, tx = (toString "Index " ++ toString i ++ toString " out of bounds for length " ++ toString n : String) → vx_Note p l e R s m args below meth c H locs cells slots Q (F0 m pc ls rest) "java/lang/ArrayIndexOutOfBoundsException" tx) : W p l e R s m args below meth c H locs cells slots Q (F0 m pc ls (.int x :: .int i :: .ref a :: rest)) := by
  intro T hT X
  obtain ⟨t, st, q⟩ := k _ rfl T hT X
  refine ⟨t, ?_, q⟩
  have h1 := X.castoreOut hexec (by rw [hT]; exact hP q0 _ ha) ((hK.2 t0 _ ht).1 n (fun j => .int (f j))) (j := i) (by show (i < 0 ∨ (arrV _ _ _).slots.size ≤ _); rw [arrV_size]; exact Classical.byContradiction hout) (g := F0 m pc ls (.int x :: .int i :: .ref a :: rest)) rfl (rest := rest) rfl (by rw [hb]; exact hdg) t
  simp only [arrV_size] at h1
  exact h1 st
theorem vx_saldZ {D : va_G} {cl : List vw_C} {ws : va_W} {tys : List (ClassId × FieldType)} {a : Nat} (hexec : p.tables.exec = Jvm.exec) (hb : c.code = cc) (hK : va_K D cl tys s) (hP : va_P D cl ws H) (q0 t0 : Nat) {cA : ClassId} {n : Nat} {f : Nat → Int32} (ha : ws[q0]? = some (a, .inl (cA, n, .inl f))) (ht : tys[t0]? = some (cA, .short)) {i : Int32} (hout : ¬ vp_in i n) (hdg : decode cc pc = .ok (.saload, 1))
    (k : ∀ tx : String, tx = (toString "Index " ++ toString i ++ toString " out of bounds for length " ++ toString n : String) → vx_Note p l e R s m args below meth c H locs cells slots Q (F0 m pc ls rest) "java/lang/ArrayIndexOutOfBoundsException" tx) : W p l e R s m args below meth c H locs cells slots Q (F0 m pc ls (.int i :: .ref a :: rest)) := by
  intro T hT X
  obtain ⟨t, st, q⟩ := k _ rfl T hT X
  refine ⟨t, ?_, q⟩
  have h1 := X.saloadOut hexec (by rw [hT]; exact hP q0 _ ha) ((hK.2 t0 _ ht).1 n (fun j => .int (f j))) (j := i) (by show (i < 0 ∨ (arrV _ _ _).slots.size ≤ _); rw [arrV_size]; exact Classical.byContradiction hout) (g := F0 m pc ls (.int i :: .ref a :: rest)) rfl (rest := rest) rfl (by rw [hb]; exact hdg) t
  simp only [arrV_size] at h1
  exact h1 st
theorem vx_sastZ {D : va_G} {cl : List vw_C} {ws : va_W} {tys : List (ClassId × FieldType)} {a : Nat} (hexec : p.tables.exec = Jvm.exec) (hb : c.code = cc) (hK : va_K D cl tys s) (hP : va_P D cl ws H) (q0 t0 : Nat) {cA : ClassId} {n : Nat} {f : Nat → Int32} (ha : ws[q0]? = some (a, .inl (cA, n, .inl f))) (ht : tys[t0]? = some (cA, .short)) {i : Int32} {x : Int32} (hout : ¬ vp_in i n) (hdg : decode cc pc = .ok (.sastore, 1))
    (k : ∀ tx : String, tx = (toString "Index " ++ toString i ++ toString " out of bounds for length " ++ toString n : String) → vx_Note p l e R s m args below meth c H locs cells slots Q (F0 m pc ls rest) "java/lang/ArrayIndexOutOfBoundsException" tx) : W p l e R s m args below meth c H locs cells slots Q (F0 m pc ls (.int x :: .int i :: .ref a :: rest)) := by
  intro T hT X
  obtain ⟨t, st, q⟩ := k _ rfl T hT X
  refine ⟨t, ?_, q⟩
  have h1 := X.sastoreOut hexec (by rw [hT]; exact hP q0 _ ha) ((hK.2 t0 _ ht).1 n (fun j => .int (f j))) (j := i) (by show (i < 0 ∨ (arrV _ _ _).slots.size ≤ _); rw [arrV_size]; exact Classical.byContradiction hout) (g := F0 m pc ls (.int x :: .int i :: .ref a :: rest)) rfl (rest := rest) rfl (by rw [hb]; exact hdg) t
  simp only [arrV_size] at h1
  exact h1 st
theorem vx_laldZ {D : va_G} {cl : List vw_C} {ws : va_W} {tys : List (ClassId × FieldType)} {a : Nat} (hexec : p.tables.exec = Jvm.exec) (hb : c.code = cc) (hK : va_K D cl tys s) (hP : va_P D cl ws H) (q0 t0 : Nat) {cA : ClassId} {n : Nat} {f : Nat → Int64} (ha : ws[q0]? = some (a, .inl (cA, n, .inr (.inl f)))) (ht : tys[t0]? = some (cA, .long)) {i : Int32} (hout : ¬ vp_in i n) (hdg : decode cc pc = .ok (.laload, 1))
    (k : ∀ tx : String, tx = (toString "Index " ++ toString i ++ toString " out of bounds for length " ++ toString n : String) → vx_Note p l e R s m args below meth c H locs cells slots Q (F0 m pc ls rest) "java/lang/ArrayIndexOutOfBoundsException" tx) : W p l e R s m args below meth c H locs cells slots Q (F0 m pc ls (.int i :: .ref a :: rest)) := by
  intro T hT X
  obtain ⟨t, st, q⟩ := k _ rfl T hT X
  refine ⟨t, ?_, q⟩
  have h1 := X.laloadOut hexec (by rw [hT]; exact hP q0 _ ha) ((hK.2 t0 _ ht).1 n (fun j => .long (f j))) (j := i) (by show (i < 0 ∨ (arrV _ _ _).slots.size ≤ _); rw [arrV_size]; exact Classical.byContradiction hout) (g := F0 m pc ls (.int i :: .ref a :: rest)) rfl (rest := rest) rfl (by rw [hb]; exact hdg) t
  simp only [arrV_size] at h1
  exact h1 st
theorem vx_lastZ {D : va_G} {cl : List vw_C} {ws : va_W} {tys : List (ClassId × FieldType)} {a : Nat} (hexec : p.tables.exec = Jvm.exec) (hb : c.code = cc) (hK : va_K D cl tys s) (hP : va_P D cl ws H) (q0 t0 : Nat) {cA : ClassId} {n : Nat} {f : Nat → Int64} (ha : ws[q0]? = some (a, .inl (cA, n, .inr (.inl f)))) (ht : tys[t0]? = some (cA, .long)) {i : Int32} {x : Int64} (hout : ¬ vp_in i n) (hdg : decode cc pc = .ok (.lastore, 1))
    (k : ∀ tx : String, tx = (toString "Index " ++ toString i ++ toString " out of bounds for length " ++ toString n : String) → vx_Note p l e R s m args below meth c H locs cells slots Q (F0 m pc ls rest) "java/lang/ArrayIndexOutOfBoundsException" tx) : W p l e R s m args below meth c H locs cells slots Q (F0 m pc ls (.long x :: .int i :: .ref a :: rest)) := by
  intro T hT X
  obtain ⟨t, st, q⟩ := k _ rfl T hT X
  refine ⟨t, ?_, q⟩
  have h1 := X.lastoreOut hexec (by rw [hT]; exact hP q0 _ ha) ((hK.2 t0 _ ht).1 n (fun j => .long (f j))) (j := i) (by show (i < 0 ∨ (arrV _ _ _).slots.size ≤ _); rw [arrV_size]; exact Classical.byContradiction hout) (g := F0 m pc ls (.long x :: .int i :: .ref a :: rest)) rfl (rest := rest) rfl (by rw [hb]; exact hdg) t
  simp only [arrV_size] at h1
  exact h1 st
theorem vx_faldZ {D : va_G} {cl : List vw_C} {ws : va_W} {tys : List (ClassId × FieldType)} {a : Nat} (hexec : p.tables.exec = Jvm.exec) (hb : c.code = cc) (hK : va_K D cl tys s) (hP : va_P D cl ws H) (q0 t0 : Nat) {cA : ClassId} {n : Nat} {f : Nat → UInt32} (ha : ws[q0]? = some (a, .inl (cA, n, .inr (.inr (.inl f))))) (ht : tys[t0]? = some (cA, .float)) {i : Int32} (hout : ¬ vp_in i n) (hdg : decode cc pc = .ok (.faload, 1))
    (k : ∀ tx : String, tx = (toString "Index " ++ toString i ++ toString " out of bounds for length " ++ toString n : String) → vx_Note p l e R s m args below meth c H locs cells slots Q (F0 m pc ls rest) "java/lang/ArrayIndexOutOfBoundsException" tx) : W p l e R s m args below meth c H locs cells slots Q (F0 m pc ls (.int i :: .ref a :: rest)) := by
  intro T hT X
  obtain ⟨t, st, q⟩ := k _ rfl T hT X
  refine ⟨t, ?_, q⟩
  have h1 := X.faloadOut hexec (by rw [hT]; exact hP q0 _ ha) ((hK.2 t0 _ ht).1 n (fun j => .float (f j))) (j := i) (by show (i < 0 ∨ (arrV _ _ _).slots.size ≤ _); rw [arrV_size]; exact Classical.byContradiction hout) (g := F0 m pc ls (.int i :: .ref a :: rest)) rfl (rest := rest) rfl (by rw [hb]; exact hdg) t
  simp only [arrV_size] at h1
  exact h1 st
theorem vx_fastZ {D : va_G} {cl : List vw_C} {ws : va_W} {tys : List (ClassId × FieldType)} {a : Nat} (hexec : p.tables.exec = Jvm.exec) (hb : c.code = cc) (hK : va_K D cl tys s) (hP : va_P D cl ws H) (q0 t0 : Nat) {cA : ClassId} {n : Nat} {f : Nat → UInt32} (ha : ws[q0]? = some (a, .inl (cA, n, .inr (.inr (.inl f))))) (ht : tys[t0]? = some (cA, .float)) {i : Int32} {x : UInt32} (hout : ¬ vp_in i n) (hdg : decode cc pc = .ok (.fastore, 1))
    (k : ∀ tx : String, tx = (toString "Index " ++ toString i ++ toString " out of bounds for length " ++ toString n : String) → vx_Note p l e R s m args below meth c H locs cells slots Q (F0 m pc ls rest) "java/lang/ArrayIndexOutOfBoundsException" tx) : W p l e R s m args below meth c H locs cells slots Q (F0 m pc ls (.float x :: .int i :: .ref a :: rest)) := by
  intro T hT X
  obtain ⟨t, st, q⟩ := k _ rfl T hT X
  refine ⟨t, ?_, q⟩
  have h1 := X.fastoreOut hexec (by rw [hT]; exact hP q0 _ ha) ((hK.2 t0 _ ht).1 n (fun j => .float (f j))) (j := i) (by show (i < 0 ∨ (arrV _ _ _).slots.size ≤ _); rw [arrV_size]; exact Classical.byContradiction hout) (g := F0 m pc ls (.float x :: .int i :: .ref a :: rest)) rfl (rest := rest) rfl (by rw [hb]; exact hdg) t
  simp only [arrV_size] at h1
  exact h1 st
theorem vx_daldZ {D : va_G} {cl : List vw_C} {ws : va_W} {tys : List (ClassId × FieldType)} {a : Nat} (hexec : p.tables.exec = Jvm.exec) (hb : c.code = cc) (hK : va_K D cl tys s) (hP : va_P D cl ws H) (q0 t0 : Nat) {cA : ClassId} {n : Nat} {f : Nat → UInt64} (ha : ws[q0]? = some (a, .inl (cA, n, .inr (.inr (.inr (.inl f)))))) (ht : tys[t0]? = some (cA, .double)) {i : Int32} (hout : ¬ vp_in i n) (hdg : decode cc pc = .ok (.daload, 1))
    (k : ∀ tx : String, tx = (toString "Index " ++ toString i ++ toString " out of bounds for length " ++ toString n : String) → vx_Note p l e R s m args below meth c H locs cells slots Q (F0 m pc ls rest) "java/lang/ArrayIndexOutOfBoundsException" tx) : W p l e R s m args below meth c H locs cells slots Q (F0 m pc ls (.int i :: .ref a :: rest)) := by
  intro T hT X
  obtain ⟨t, st, q⟩ := k _ rfl T hT X
  refine ⟨t, ?_, q⟩
  have h1 := X.daloadOut hexec (by rw [hT]; exact hP q0 _ ha) ((hK.2 t0 _ ht).1 n (fun j => .double (f j))) (j := i) (by show (i < 0 ∨ (arrV _ _ _).slots.size ≤ _); rw [arrV_size]; exact Classical.byContradiction hout) (g := F0 m pc ls (.int i :: .ref a :: rest)) rfl (rest := rest) rfl (by rw [hb]; exact hdg) t
  simp only [arrV_size] at h1
  exact h1 st
theorem vx_dastZ {D : va_G} {cl : List vw_C} {ws : va_W} {tys : List (ClassId × FieldType)} {a : Nat} (hexec : p.tables.exec = Jvm.exec) (hb : c.code = cc) (hK : va_K D cl tys s) (hP : va_P D cl ws H) (q0 t0 : Nat) {cA : ClassId} {n : Nat} {f : Nat → UInt64} (ha : ws[q0]? = some (a, .inl (cA, n, .inr (.inr (.inr (.inl f)))))) (ht : tys[t0]? = some (cA, .double)) {i : Int32} {x : UInt64} (hout : ¬ vp_in i n) (hdg : decode cc pc = .ok (.dastore, 1))
    (k : ∀ tx : String, tx = (toString "Index " ++ toString i ++ toString " out of bounds for length " ++ toString n : String) → vx_Note p l e R s m args below meth c H locs cells slots Q (F0 m pc ls rest) "java/lang/ArrayIndexOutOfBoundsException" tx) : W p l e R s m args below meth c H locs cells slots Q (F0 m pc ls (.double x :: .int i :: .ref a :: rest)) := by
  intro T hT X
  obtain ⟨t, st, q⟩ := k _ rfl T hT X
  refine ⟨t, ?_, q⟩
  have h1 := X.dastoreOut hexec (by rw [hT]; exact hP q0 _ ha) ((hK.2 t0 _ ht).1 n (fun j => .double (f j))) (j := i) (by show (i < 0 ∨ (arrV _ _ _).slots.size ≤ _); rw [arrV_size]; exact Classical.byContradiction hout) (g := F0 m pc ls (.double x :: .int i :: .ref a :: rest)) rfl (rest := rest) rfl (by rw [hb]; exact hdg) t
  simp only [arrV_size] at h1
  exact h1 st
theorem vx_arraylengthN (hexec : p.tables.exec = Jvm.exec) (hb : c.code = cc) (hdg : decode cc pc = .ok (.arraylength, 1)) (k : vx_NoteN p l e R s m args below meth c H locs cells slots Q (F0 m pc ls rest)) : W p l e R s m args below meth c H locs cells slots Q (F0 m pc ls (.null :: rest)) := by
  intro T hT X
  obtain ⟨t, st, q⟩ := k T hT X
  exact ⟨t, X.arraylengthNull hexec (g := F0 m pc ls (.null :: rest)) rfl (rest := rest) rfl (by rw [hb]; exact hdg) t st, q⟩
theorem vx_ialoadN (hexec : p.tables.exec = Jvm.exec) (hb : c.code = cc) {i : Int32} (hdg : decode cc pc = .ok (.iaload, 1)) (k : vx_NoteN p l e R s m args below meth c H locs cells slots Q (F0 m pc ls rest)) : W p l e R s m args below meth c H locs cells slots Q (F0 m pc ls (.int i :: .null :: rest)) := by
  intro T hT X
  obtain ⟨t, st, q⟩ := k T hT X
  exact ⟨t, X.ialoadNull hexec (g := F0 m pc ls (.int i :: .null :: rest)) rfl (rest := rest) rfl (by rw [hb]; exact hdg) t st, q⟩
theorem vx_laloadN (hexec : p.tables.exec = Jvm.exec) (hb : c.code = cc) {i : Int32} (hdg : decode cc pc = .ok (.laload, 1)) (k : vx_NoteN p l e R s m args below meth c H locs cells slots Q (F0 m pc ls rest)) : W p l e R s m args below meth c H locs cells slots Q (F0 m pc ls (.int i :: .null :: rest)) := by
  intro T hT X
  obtain ⟨t, st, q⟩ := k T hT X
  exact ⟨t, X.laloadNull hexec (g := F0 m pc ls (.int i :: .null :: rest)) rfl (rest := rest) rfl (by rw [hb]; exact hdg) t st, q⟩
theorem vx_faloadN (hexec : p.tables.exec = Jvm.exec) (hb : c.code = cc) {i : Int32} (hdg : decode cc pc = .ok (.faload, 1)) (k : vx_NoteN p l e R s m args below meth c H locs cells slots Q (F0 m pc ls rest)) : W p l e R s m args below meth c H locs cells slots Q (F0 m pc ls (.int i :: .null :: rest)) := by
  intro T hT X
  obtain ⟨t, st, q⟩ := k T hT X
  exact ⟨t, X.faloadNull hexec (g := F0 m pc ls (.int i :: .null :: rest)) rfl (rest := rest) rfl (by rw [hb]; exact hdg) t st, q⟩
theorem vx_daloadN (hexec : p.tables.exec = Jvm.exec) (hb : c.code = cc) {i : Int32} (hdg : decode cc pc = .ok (.daload, 1)) (k : vx_NoteN p l e R s m args below meth c H locs cells slots Q (F0 m pc ls rest)) : W p l e R s m args below meth c H locs cells slots Q (F0 m pc ls (.int i :: .null :: rest)) := by
  intro T hT X
  obtain ⟨t, st, q⟩ := k T hT X
  exact ⟨t, X.daloadNull hexec (g := F0 m pc ls (.int i :: .null :: rest)) rfl (rest := rest) rfl (by rw [hb]; exact hdg) t st, q⟩
theorem vx_aaloadN (hexec : p.tables.exec = Jvm.exec) (hb : c.code = cc) {i : Int32} (hdg : decode cc pc = .ok (.aaload, 1)) (k : vx_NoteN p l e R s m args below meth c H locs cells slots Q (F0 m pc ls rest)) : W p l e R s m args below meth c H locs cells slots Q (F0 m pc ls (.int i :: .null :: rest)) := by
  intro T hT X
  obtain ⟨t, st, q⟩ := k T hT X
  exact ⟨t, X.aaloadNull hexec (g := F0 m pc ls (.int i :: .null :: rest)) rfl (rest := rest) rfl (by rw [hb]; exact hdg) t st, q⟩
theorem vx_baloadN (hexec : p.tables.exec = Jvm.exec) (hb : c.code = cc) {i : Int32} (hdg : decode cc pc = .ok (.baload, 1)) (k : vx_NoteN p l e R s m args below meth c H locs cells slots Q (F0 m pc ls rest)) : W p l e R s m args below meth c H locs cells slots Q (F0 m pc ls (.int i :: .null :: rest)) := by
  intro T hT X
  obtain ⟨t, st, q⟩ := k T hT X
  exact ⟨t, X.baloadNull hexec (g := F0 m pc ls (.int i :: .null :: rest)) rfl (rest := rest) rfl (by rw [hb]; exact hdg) t st, q⟩
theorem vx_caloadN (hexec : p.tables.exec = Jvm.exec) (hb : c.code = cc) {i : Int32} (hdg : decode cc pc = .ok (.caload, 1)) (k : vx_NoteN p l e R s m args below meth c H locs cells slots Q (F0 m pc ls rest)) : W p l e R s m args below meth c H locs cells slots Q (F0 m pc ls (.int i :: .null :: rest)) := by
  intro T hT X
  obtain ⟨t, st, q⟩ := k T hT X
  exact ⟨t, X.caloadNull hexec (g := F0 m pc ls (.int i :: .null :: rest)) rfl (rest := rest) rfl (by rw [hb]; exact hdg) t st, q⟩
theorem vx_saloadN (hexec : p.tables.exec = Jvm.exec) (hb : c.code = cc) {i : Int32} (hdg : decode cc pc = .ok (.saload, 1)) (k : vx_NoteN p l e R s m args below meth c H locs cells slots Q (F0 m pc ls rest)) : W p l e R s m args below meth c H locs cells slots Q (F0 m pc ls (.int i :: .null :: rest)) := by
  intro T hT X
  obtain ⟨t, st, q⟩ := k T hT X
  exact ⟨t, X.saloadNull hexec (g := F0 m pc ls (.int i :: .null :: rest)) rfl (rest := rest) rfl (by rw [hb]; exact hdg) t st, q⟩
theorem vx_iastoreN (hexec : p.tables.exec = Jvm.exec) (hb : c.code = cc) {x : Int32} {i : Int32} (hdg : decode cc pc = .ok (.iastore, 1)) (k : vx_NoteN p l e R s m args below meth c H locs cells slots Q (F0 m pc ls rest)) : W p l e R s m args below meth c H locs cells slots Q (F0 m pc ls (.int x :: .int i :: .null :: rest)) := by
  intro T hT X
  obtain ⟨t, st, q⟩ := k T hT X
  exact ⟨t, X.iastoreNull hexec (g := F0 m pc ls (.int x :: .int i :: .null :: rest)) rfl (rest := rest) rfl (by rw [hb]; exact hdg) t st, q⟩
theorem vx_lastoreN (hexec : p.tables.exec = Jvm.exec) (hb : c.code = cc) {x : Int64} {i : Int32} (hdg : decode cc pc = .ok (.lastore, 1)) (k : vx_NoteN p l e R s m args below meth c H locs cells slots Q (F0 m pc ls rest)) : W p l e R s m args below meth c H locs cells slots Q (F0 m pc ls (.long x :: .int i :: .null :: rest)) := by
  intro T hT X
  obtain ⟨t, st, q⟩ := k T hT X
  exact ⟨t, X.lastoreNull hexec (g := F0 m pc ls (.long x :: .int i :: .null :: rest)) rfl (rest := rest) rfl (by rw [hb]; exact hdg) t st, q⟩
theorem vx_fastoreN (hexec : p.tables.exec = Jvm.exec) (hb : c.code = cc) {x : UInt32} {i : Int32} (hdg : decode cc pc = .ok (.fastore, 1)) (k : vx_NoteN p l e R s m args below meth c H locs cells slots Q (F0 m pc ls rest)) : W p l e R s m args below meth c H locs cells slots Q (F0 m pc ls (.float x :: .int i :: .null :: rest)) := by
  intro T hT X
  obtain ⟨t, st, q⟩ := k T hT X
  exact ⟨t, X.fastoreNull hexec (g := F0 m pc ls (.float x :: .int i :: .null :: rest)) rfl (rest := rest) rfl (by rw [hb]; exact hdg) t st, q⟩
theorem vx_dastoreN (hexec : p.tables.exec = Jvm.exec) (hb : c.code = cc) {x : UInt64} {i : Int32} (hdg : decode cc pc = .ok (.dastore, 1)) (k : vx_NoteN p l e R s m args below meth c H locs cells slots Q (F0 m pc ls rest)) : W p l e R s m args below meth c H locs cells slots Q (F0 m pc ls (.double x :: .int i :: .null :: rest)) := by
  intro T hT X
  obtain ⟨t, st, q⟩ := k T hT X
  exact ⟨t, X.dastoreNull hexec (g := F0 m pc ls (.double x :: .int i :: .null :: rest)) rfl (rest := rest) rfl (by rw [hb]; exact hdg) t st, q⟩
theorem vx_bastoreN (hexec : p.tables.exec = Jvm.exec) (hb : c.code = cc) {x : Int32} {i : Int32} (hdg : decode cc pc = .ok (.bastore, 1)) (k : vx_NoteN p l e R s m args below meth c H locs cells slots Q (F0 m pc ls rest)) : W p l e R s m args below meth c H locs cells slots Q (F0 m pc ls (.int x :: .int i :: .null :: rest)) := by
  intro T hT X
  obtain ⟨t, st, q⟩ := k T hT X
  exact ⟨t, X.bastoreNull hexec (g := F0 m pc ls (.int x :: .int i :: .null :: rest)) rfl (rest := rest) rfl (by rw [hb]; exact hdg) t st, q⟩
theorem vx_castoreN (hexec : p.tables.exec = Jvm.exec) (hb : c.code = cc) {x : Int32} {i : Int32} (hdg : decode cc pc = .ok (.castore, 1)) (k : vx_NoteN p l e R s m args below meth c H locs cells slots Q (F0 m pc ls rest)) : W p l e R s m args below meth c H locs cells slots Q (F0 m pc ls (.int x :: .int i :: .null :: rest)) := by
  intro T hT X
  obtain ⟨t, st, q⟩ := k T hT X
  exact ⟨t, X.castoreNull hexec (g := F0 m pc ls (.int x :: .int i :: .null :: rest)) rfl (rest := rest) rfl (by rw [hb]; exact hdg) t st, q⟩
theorem vx_sastoreN (hexec : p.tables.exec = Jvm.exec) (hb : c.code = cc) {x : Int32} {i : Int32} (hdg : decode cc pc = .ok (.sastore, 1)) (k : vx_NoteN p l e R s m args below meth c H locs cells slots Q (F0 m pc ls rest)) : W p l e R s m args below meth c H locs cells slots Q (F0 m pc ls (.int x :: .int i :: .null :: rest)) := by
  intro T hT X
  obtain ⟨t, st, q⟩ := k T hT X
  exact ⟨t, X.sastoreNull hexec (g := F0 m pc ls (.int x :: .int i :: .null :: rest)) rfl (rest := rest) rfl (by rw [hb]; exact hdg) t st, q⟩
theorem vx_invokeN {own C : String} {index maxL : Nat} {y : MethodName} {bytes : ByteArray} {ret : Option FieldType} (hexec : p.tables.exec = Jvm.exec) (hb : c.code = cc) (hown : s.vm.findClass own = some m.cls) (hlink : (Cond.methodLink own index y).before args s = true) (hinst : (Cond.instanceMethod y).before args s = true) (hcode : (Cond.code y bytes maxL ret).before args s = true) (hsel : (Cond.selects C y y).before args s = true)
    (hx : y.cls ≠ "java/lang/invoke/MethodHandle" ∧ y.cls ≠ "java/lang/invoke/VarHandle") {As : List Value} (hlen : (parseMethodDescriptor y.desc).map (fun d => d.parameters.length) = some As.length) (hdg : decode cc pc = .ok (.invokevirtual index, 3))
    (k : vx_NoteN p l e R s m args below meth c H locs cells slots Q (F0 m pc ls rest)) {st0 : List Value} (hst : st0 = As.reverse ++ .null :: rest) : W p l e R s m args below meth c H locs cells slots Q (F0 m pc ls st0) := by
  intro T hT X
  obtain ⟨r0, r, hn, hrm, hstR, hsigR⟩ := va_Decl.of hinst hcode
  obtain ⟨c2, r2, m2, q1, q2, q3, q4, kP, hkP, hkPi⟩ := Cond.selects_spec hsel
  cases hn.symm.trans q3
  have hl9 : As.length = r.sig.parameters.length := by
    rw [hsigR] at hlen
    exact (Option.some.inj hlen).symm
  obtain ⟨vm', X1, st1⟩ := X.invokevirtualNull hexec hown hlink hn hrm hstR hkP hkPi hx (g := F0 m pc ls st0) rfl (argsL := As) (rest := rest) hl9 hst (by rw [hb]; exact hdg)
  obtain ⟨t, st, q⟩ := k (T.setVm vm') hT X1
  exact ⟨t, st1 t st, q⟩
theorem vx_newarrayZ {atype : ArrayType} (hexec : p.tables.exec = Jvm.exec) (hb : c.code = cc) {n : Int32} (h0 : n < 0) (hdg : decode cc pc = .ok (.newarray atype, 2)) (k : ∀ tx : String, tx = toString n → vx_Note p l e R s m args below meth c H locs cells slots Q (F0 m pc ls rest) "java/lang/NegativeArraySizeException" tx) : W p l e R s m args below meth c H locs cells slots Q (F0 m pc ls (.int n :: rest)) := by
  intro T hT X
  obtain ⟨t, st, q⟩ := k _ rfl T hT X
  exact ⟨t, X.newarrayNegative hexec (g := F0 m pc ls (.int n :: rest)) rfl h0 (rest := rest) rfl (by rw [hb]; exact hdg) t st, q⟩
end
end VXM
/-! ===== END ===== -/
end
section

/-! ===== BEGIN printed: names, fields, word lists, decode rows ===== -/
def RX0 : String := "CanalLocks$EventLog"
def TX0 : u_T := fun k => match k with
  | 0 => ("CanalLocks$EventLog", "kinds", "[C", true)
  | 1 => ("CanalLocks$EventLog", "numbers", "[I", true)
  | 2 => ("CanalLocks$EventLog", "next", "I", false)
  | _ => ("CanalLocks$EventLog", "count", "I", false)
def tyX0 : Nat → FieldType := fun k => match k with
  | 0 => .array .char
  | 1 => .array .int
  | 2 => .int
  | _ => .int
abbrev wsX00 : List Cond := u_ws RX0 TX0 4
theorem nmX0 : ∀ a, a < 4 → ∀ b, b < 4 → a ≠ b → (TX0 a).2.1 ≠ (TX0 b).2.1 := by decide +kernel
theorem tyX0_ok : ∀ k, k < 4 → parseFieldDescriptor (TX0 k).2.2.1 = some (tyX0 k) := by decide +kernel
abbrev cX0_init : ByteArray := prog_2_method_1_code
def yX0_init : MethodName := ⟨RX0, "<init>", "()V"⟩
abbrev cX0_copyEvents : ByteArray := prog_2_method_2_code
def yX0_copyEvents : MethodName := ⟨RX0, "copyEvents", "(LCanalLocks$EventLog;)V"⟩
abbrev cX0_note : ByteArray := prog_2_method_3_code
def yX0_note : MethodName := ⟨RX0, "note", "(CI)V"⟩
abbrev cX0_placeOf : ByteArray := prog_2_method_4_code
def yX0_placeOf : MethodName := ⟨RX0, "placeOf", "(I)I"⟩
def RX1 : String := "CanalLocks$Fleet"
def TX1 : u_T := fun k => match k with
  | 0 => ("CanalLocks$Fleet", "count", "I", false)
  | 1 => ("CanalLocks$Fleet", "added", "I", false)
  | 2 => ("CanalLocks$Fleet", "colours", "[I", true)
  | 3 => ("CanalLocks$Fleet", "draughts", "[I", true)
  | 4 => ("CanalLocks$Fleet", "goesDown", "[Z", true)
  | 5 => ("CanalLocks$Fleet", "basins", "[I", true)
  | 6 => ("CanalLocks$Fleet", "serials", "[I", true)
  | _ => ("CanalLocks$Fleet", "left", "[I", true)
def tyX1 : Nat → FieldType := fun k => match k with
  | 0 => .int
  | 1 => .int
  | 2 => .array .int
  | 3 => .array .int
  | 4 => .array .boolean
  | 5 => .array .int
  | 6 => .array .int
  | _ => .array .int
abbrev wsX10 : List Cond := u_ws RX1 TX1 8
theorem nmX1 : ∀ a, a < 8 → ∀ b, b < 8 → a ≠ b → (TX1 a).2.1 ≠ (TX1 b).2.1 := by decide +kernel
theorem tyX1_ok : ∀ k, k < 8 → parseFieldDescriptor (TX1 k).2.2.1 = some (tyX1 k) := by decide +kernel
abbrev cX1_init : ByteArray := prog_3_method_1_code
def yX1_init : MethodName := ⟨RX1, "<init>", "()V"⟩
abbrev cX1_copyFleet : ByteArray := prog_3_method_2_code
def yX1_copyFleet : MethodName := ⟨RX1, "copyFleet", "(LCanalLocks$Fleet;)V"⟩
abbrev cX1_put : ByteArray := prog_3_method_3_code
def yX1_put : MethodName := ⟨RX1, "put", "(IIZ)I"⟩
abbrev cX1_signOf : ByteArray := prog_3_method_4_code
def yX1_signOf : MethodName := ⟨RX1, "signOf", "(I)C"⟩
abbrev cX1_countIn : ByteArray := prog_3_method_5_code
def yX1_countIn : MethodName := ⟨RX1, "countIn", "(I)I"⟩
abbrev cX1_hasRoom : ByteArray := prog_3_method_6_code
def yX1_hasRoom : MethodName := ⟨RX1, "hasRoom", "(I)Z"⟩
abbrev cX1_isWithinRoom : ByteArray := prog_3_method_7_code
def yX1_isWithinRoom : MethodName := ⟨RX1, "isWithinRoom", "()Z"⟩
abbrev cX1_rankOfBoat : ByteArray := prog_3_method_8_code
def yX1_rankOfBoat : MethodName := ⟨RX1, "rankOfBoat", "(I)I"⟩
abbrev cX1_hasSerial : ByteArray := prog_3_method_9_code
def yX1_hasSerial : MethodName := ⟨RX1, "hasSerial", "(I)Z"⟩
abbrev cX1_gateAhead : ByteArray := prog_3_method_10_code
def yX1_gateAhead : MethodName := ⟨RX1, "gateAhead", "(I)I"⟩
abbrev cX1_basinAhead : ByteArray := prog_3_method_11_code
def yX1_basinAhead : MethodName := ⟨RX1, "basinAhead", "(I)I"⟩
abbrev cX1_hasArrived : ByteArray := prog_3_method_12_code
def yX1_hasArrived : MethodName := ⟨RX1, "hasArrived", "(I)Z"⟩
abbrev cX1_removeArrived : ByteArray := prog_3_method_13_code
def yX1_removeArrived : MethodName := ⟨RX1, "removeArrived", "()I"⟩
abbrev cX1_copyBoat : ByteArray := prog_3_method_14_code
def yX1_copyBoat : MethodName := ⟨RX1, "copyBoat", "(LCanalLocks$Fleet;II)V"⟩
def RX2 : String := "CanalLocks$Flight"
def TX2 : u_T := fun k => match k with
  | 0 => ("CanalLocks$Flight", "water", "LCanalLocks$Water;", true)
  | 1 => ("CanalLocks$Flight", "fleet", "LCanalLocks$Fleet;", true)
  | 2 => ("CanalLocks$Flight", "events", "LCanalLocks$EventLog;", true)
  | _ => ("CanalLocks$Flight", "time", "I", false)
def tyX2 : Nat → FieldType := fun k => match k with
  | 0 => .object "CanalLocks$Water"
  | 1 => .object "CanalLocks$Fleet"
  | 2 => .object "CanalLocks$EventLog"
  | _ => .int
abbrev wsX20 : List Cond := u_ws RX2 TX2 4
theorem nmX2 : ∀ a, a < 4 → ∀ b, b < 4 → a ≠ b → (TX2 a).2.1 ≠ (TX2 b).2.1 := by decide +kernel
theorem tyX2_ok : ∀ k, k < 4 → parseFieldDescriptor (TX2 k).2.2.1 = some (tyX2 k) := by decide +kernel
abbrev cX2_init : ByteArray := prog_4_method_1_code
def yX2_init : MethodName := ⟨RX2, "<init>", "()V"⟩
abbrev cX2_copyFrom : ByteArray := prog_4_method_2_code
def yX2_copyFrom : MethodName := ⟨RX2, "copyFrom", "(LCanalLocks$Flight;)V"⟩
abbrev cX2_faultOf : ByteArray := prog_4_method_3_code
def yX2_faultOf : MethodName := ⟨RX2, "faultOf", "(III)I"⟩
abbrev cX2_faultOfBoat : ByteArray := prog_4_method_4_code
def yX2_faultOfBoat : MethodName := ⟨RX2, "faultOfBoat", "(II)I"⟩
abbrev cX2_faultOfValve : ByteArray := prog_4_method_5_code
def yX2_faultOfValve : MethodName := ⟨RX2, "faultOfValve", "(II)I"⟩
abbrev cX2_faultOfOpening : ByteArray := prog_4_method_6_code
def yX2_faultOfOpening : MethodName := ⟨RX2, "faultOfOpening", "(I)I"⟩
abbrev cX2_faultOfShutting : ByteArray := prog_4_method_7_code
def yX2_faultOfShutting : MethodName := ⟨RX2, "faultOfShutting", "(I)I"⟩
abbrev cX2_act : ByteArray := prog_4_method_8_code
def yX2_act : MethodName := ⟨RX2, "act", "(IIII)I"⟩
abbrev cX2_turnValve : ByteArray := prog_4_method_9_code
def yX2_turnValve : MethodName := ⟨RX2, "turnValve", "(II)I"⟩
abbrev cX2_moveGate : ByteArray := prog_4_method_10_code
def yX2_moveGate : MethodName := ⟨RX2, "moveGate", "(IZ)I"⟩
abbrev cX2_changeRain : ByteArray := prog_4_method_11_code
def yX2_changeRain : MethodName := ⟨RX2, "changeRain", "(I)I"⟩
abbrev cX2_changeDrain : ByteArray := prog_4_method_12_code
def yX2_changeDrain : MethodName := ⟨RX2, "changeDrain", "(I)I"⟩
abbrev cX2_passMinutes : ByteArray := prog_4_method_13_code
def yX2_passMinutes : MethodName := ⟨RX2, "passMinutes", "(I)I"⟩
abbrev cX2_passWeather : ByteArray := prog_4_method_14_code
def yX2_passWeather : MethodName := ⟨RX2, "passWeather", "()V"⟩
abbrev cX2_passGates : ByteArray := prog_4_method_15_code
def yX2_passGates : MethodName := ⟨RX2, "passGates", "()V"⟩
abbrev cX2_mayPass : ByteArray := prog_4_method_16_code
def yX2_mayPass : MethodName := ⟨RX2, "mayPass", "(II)Z"⟩
abbrev cX2_pass : ByteArray := prog_4_method_17_code
def yX2_pass : MethodName := ⟨RX2, "pass", "(I)V"⟩
def RX3 : String := "CanalLocks$History"
def TX3 : u_T := fun k => match k with
  | 0 => ("CanalLocks$History", "flights", "[LCanalLocks$Flight;", true)
  | 1 => ("CanalLocks$History", "next", "I", false)
  | _ => ("CanalLocks$History", "count", "I", false)
def tyX3 : Nat → FieldType := fun k => match k with
  | 0 => .array (.object "CanalLocks$Flight")
  | 1 => .int
  | _ => .int
abbrev wsX30 : List Cond := u_ws RX3 TX3 3
theorem nmX3 : ∀ a, a < 3 → ∀ b, b < 3 → a ≠ b → (TX3 a).2.1 ≠ (TX3 b).2.1 := by decide +kernel
theorem tyX3_ok : ∀ k, k < 3 → parseFieldDescriptor (TX3 k).2.2.1 = some (tyX3 k) := by decide +kernel
abbrev cX3_init : ByteArray := prog_5_method_1_code
def yX3_init : MethodName := ⟨RX3, "<init>", "()V"⟩
abbrev cX3_push : ByteArray := prog_5_method_2_code
def yX3_push : MethodName := ⟨RX3, "push", "(LCanalLocks$Flight;)V"⟩
abbrev cX3_popInto : ByteArray := prog_5_method_3_code
def yX3_popInto : MethodName := ⟨RX3, "popInto", "(LCanalLocks$Flight;)V"⟩
def RX4 : String := "CanalLocks$Script"
def TX4 : u_T := fun k => match k with
  | 0 => ("CanalLocks$Script", "text", "[C", true)
  | 1 => ("CanalLocks$Script", "length", "I", false)
  | 2 => ("CanalLocks$Script", "position", "I", false)
  | 3 => ("CanalLocks$Script", "latest", "C", false)
  | 4 => ("CanalLocks$Script", "count", "I", false)
  | 5 => ("CanalLocks$Script", "kinds", "[I", true)
  | 6 => ("CanalLocks$Script", "firsts", "[I", true)
  | 7 => ("CanalLocks$Script", "seconds", "[I", true)
  | _ => ("CanalLocks$Script", "thirds", "[I", true)
def tyX4 : Nat → FieldType := fun k => match k with
  | 0 => .array .char
  | 1 => .int
  | 2 => .int
  | 3 => .char
  | 4 => .int
  | 5 => .array .int
  | 6 => .array .int
  | 7 => .array .int
  | _ => .array .int
abbrev wsX40 : List Cond := u_ws RX4 TX4 9
theorem nmX4 : ∀ a, a < 9 → ∀ b, b < 9 → a ≠ b → (TX4 a).2.1 ≠ (TX4 b).2.1 := by decide +kernel
theorem tyX4_ok : ∀ k, k < 9 → parseFieldDescriptor (TX4 k).2.2.1 = some (tyX4 k) := by decide +kernel
abbrev cX4_init : ByteArray := prog_6_method_1_code
def yX4_init : MethodName := ⟨RX4, "<init>", "()V"⟩
abbrev cX4_readAll : ByteArray := prog_6_method_2_code
def yX4_readAll : MethodName := ⟨RX4, "readAll", "()Z"⟩
abbrev cX4_readCommand : ByteArray := prog_6_method_3_code
def yX4_readCommand : MethodName := ⟨RX4, "readCommand", "()Z"⟩
abbrev cX4_readBoat : ByteArray := prog_6_method_4_code
def yX4_readBoat : MethodName := ⟨RX4, "readBoat", "()Z"⟩
abbrev cX4_readValve : ByteArray := prog_6_method_5_code
def yX4_readValve : MethodName := ⟨RX4, "readValve", "()Z"⟩
abbrev cX4_readFirst : ByteArray := prog_6_method_6_code
def yX4_readFirst : MethodName := ⟨RX4, "readFirst", "()Z"⟩
abbrev cX4_readWait : ByteArray := prog_6_method_7_code
def yX4_readWait : MethodName := ⟨RX4, "readWait", "()Z"⟩
abbrev cX4_readWord : ByteArray := prog_6_method_8_code
def yX4_readWord : MethodName := ⟨RX4, "readWord", "(Ljava/lang/String;)Z"⟩
abbrev cX4_readOneOf : ByteArray := prog_6_method_9_code
def yX4_readOneOf : MethodName := ⟨RX4, "readOneOf", "(Ljava/lang/String;)Z"⟩
def RX5 : String := "CanalLocks$Water"
def TX5 : u_T := fun k => match k with
  | 0 => ("CanalLocks$Water", "volumes", "[I", true)
  | 1 => ("CanalLocks$Water", "openings", "[I", true)
  | 2 => ("CanalLocks$Water", "gates", "[Z", true)
  | 3 => ("CanalLocks$Water", "rain", "I", false)
  | 4 => ("CanalLocks$Water", "drain", "I", false)
  | 5 => ("CanalLocks$Water", "rained", "I", false)
  | 6 => ("CanalLocks$Water", "drained", "I", false)
  | _ => ("CanalLocks$Water", "spilled", "I", false)
def tyX5 : Nat → FieldType := fun k => match k with
  | 0 => .array .int
  | 1 => .array .int
  | 2 => .array .boolean
  | 3 => .int
  | 4 => .int
  | 5 => .int
  | 6 => .int
  | _ => .int
abbrev wsX50 : List Cond := u_ws RX5 TX5 8
theorem nmX5 : ∀ a, a < 8 → ∀ b, b < 8 → a ≠ b → (TX5 a).2.1 ≠ (TX5 b).2.1 := by decide +kernel
theorem tyX5_ok : ∀ k, k < 8 → parseFieldDescriptor (TX5 k).2.2.1 = some (tyX5 k) := by decide +kernel
abbrev cX5_init : ByteArray := prog_7_method_1_code
def yX5_init : MethodName := ⟨RX5, "<init>", "()V"⟩
abbrev cX5_copyWater : ByteArray := prog_7_method_2_code
def yX5_copyWater : MethodName := ⟨RX5, "copyWater", "(LCanalLocks$Water;)V"⟩
abbrev cX5_roundedLevel : ByteArray := prog_7_method_3_code
def yX5_roundedLevel : MethodName := ⟨RX5, "roundedLevel", "(I)I"⟩
abbrev cX5_difference : ByteArray := prog_7_method_4_code
def yX5_difference : MethodName := ⟨RX5, "difference", "(II)I"⟩
abbrev cX5_reaches : ByteArray := prog_7_method_5_code
def yX5_reaches : MethodName := ⟨RX5, "reaches", "(II)Z"⟩
abbrev cX5_amountByDivision : ByteArray := prog_7_method_6_code
def yX5_amountByDivision : MethodName := ⟨RX5, "amountByDivision", "(I)I"⟩
abbrev cX5_amountByLitres : ByteArray := prog_7_method_7_code
def yX5_amountByLitres : MethodName := ⟨RX5, "amountByLitres", "(I)I"⟩
abbrev cX5_staysBelow : ByteArray := prog_7_method_8_code
def yX5_staysBelow : MethodName := ⟨RX5, "staysBelow", "(III)Z"⟩
abbrev cX5_flowDown : ByteArray := prog_7_method_9_code
def yX5_flowDown : MethodName := ⟨RX5, "flowDown", "(I)I"⟩
abbrev cX5_moveDown : ByteArray := prog_7_method_10_code
def yX5_moveDown : MethodName := ⟨RX5, "moveDown", "(II)V"⟩
abbrev cX5_letRain : ByteArray := prog_7_method_11_code
def yX5_letRain : MethodName := ⟨RX5, "letRain", "()I"⟩
abbrev cX5_letDrain : ByteArray := prog_7_method_12_code
def yX5_letDrain : MethodName := ⟨RX5, "letDrain", "()V"⟩
abbrev cX5_sumOfVolumes : ByteArray := prog_7_method_13_code
def yX5_sumOfVolumes : MethodName := ⟨RX5, "sumOfVolumes", "()I"⟩
abbrev cX5_sumByAccounts : ByteArray := prog_7_method_14_code
def yX5_sumByAccounts : MethodName := ⟨RX5, "sumByAccounts", "()I"⟩
abbrev cX5_openGateCount : ByteArray := prog_7_method_15_code
def yX5_openGateCount : MethodName := ⟨RX5, "openGateCount", "()I"⟩
abbrev cX5_rankOfBasin : ByteArray := prog_7_method_16_code
def yX5_rankOfBasin : MethodName := ⟨RX5, "rankOfBasin", "(I)I"⟩
abbrev cX5_amountsAgree : ByteArray := prog_7_method_17_code
def yX5_amountsAgree : MethodName := ⟨RX5, "amountsAgree", "()Z"⟩
abbrev cX5_isWithinLimits : ByteArray := prog_7_method_18_code
def yX5_isWithinLimits : MethodName := ⟨RX5, "isWithinLimits", "()Z"⟩
def RX6 : String := "CanalLocks"
def TX6 : u_T := fun k => match k with
  | 0 => ("CanalLocks", "now", "LCanalLocks$Flight;", true)
  | 1 => ("CanalLocks", "trial", "LCanalLocks$Flight;", true)
  | 2 => ("CanalLocks", "snapshot", "LCanalLocks$Flight;", true)
  | 3 => ("CanalLocks", "hasSnapshot", "Z", false)
  | 4 => ("CanalLocks", "history", "LCanalLocks$History;", true)
  | 5 => ("CanalLocks", "script", "LCanalLocks$Script;", true)
  | 6 => ("CanalLocks", "output", "Ljava/lang/StringBuilder;", true)
  | 7 => ("CanalLocks", "latestErrorPosition", "I", false)
  | _ => ("CanalLocks", "latestFailedCommand", "I", false)
def tyX6 : Nat → FieldType := fun k => match k with
  | 0 => .object "CanalLocks$Flight"
  | 1 => .object "CanalLocks$Flight"
  | 2 => .object "CanalLocks$Flight"
  | 3 => .boolean
  | 4 => .object "CanalLocks$History"
  | 5 => .object "CanalLocks$Script"
  | 6 => .object "java/lang/StringBuilder"
  | 7 => .int
  | _ => .int
abbrev wsX60 : List Cond := u_ws RX6 TX6 9
theorem nmX6 : ∀ a, a < 9 → ∀ b, b < 9 → a ≠ b → (TX6 a).2.1 ≠ (TX6 b).2.1 := by decide +kernel
theorem tyX6_ok : ∀ k, k < 9 → parseFieldDescriptor (TX6 k).2.2.1 = some (tyX6 k) := by decide +kernel
abbrev cX6_init : ByteArray := prog_1_method_1_code
def yX6_init : MethodName := ⟨RX6, "<init>", "()V"⟩
abbrev cX6_addBoat : ByteArray := prog_1_method_2_code
def yX6_addBoat : MethodName := ⟨RX6, "addBoat", "(CIZ)I"⟩
abbrev cX6_setValve : ByteArray := prog_1_method_3_code
def yX6_setValve : MethodName := ⟨RX6, "setValve", "(II)I"⟩
abbrev cX6_openGate : ByteArray := prog_1_method_4_code
def yX6_openGate : MethodName := ⟨RX6, "openGate", "(I)I"⟩
abbrev cX6_shutGate : ByteArray := prog_1_method_5_code
def yX6_shutGate : MethodName := ⟨RX6, "shutGate", "(I)I"⟩
abbrev cX6_setRain : ByteArray := prog_1_method_6_code
def yX6_setRain : MethodName := ⟨RX6, "setRain", "(I)I"⟩
abbrev cX6_setDrain : ByteArray := prog_1_method_7_code
def yX6_setDrain : MethodName := ⟨RX6, "setDrain", "(I)I"⟩
abbrev cX6_advance : ByteArray := prog_1_method_8_code
def yX6_advance : MethodName := ⟨RX6, "advance", "(I)I"⟩
abbrev cX6_area : ByteArray := prog_1_method_9_code
def yX6_area : MethodName := ⟨RX6, "area", "(I)I"⟩
abbrev cX6_volume : ByteArray := prog_1_method_10_code
def yX6_volume : MethodName := ⟨RX6, "volume", "(I)I"⟩
abbrev cX6_level : ByteArray := prog_1_method_11_code
def yX6_level : MethodName := ⟨RX6, "level", "(I)I"⟩
abbrev cX6_exactLevel : ByteArray := prog_1_method_12_code
def yX6_exactLevel : MethodName := ⟨RX6, "exactLevel", "(I)D"⟩
abbrev cX6_isHigher : ByteArray := prog_1_method_13_code
def yX6_isHigher : MethodName := ⟨RX6, "isHigher", "(II)Z"⟩
abbrev cX6_equalizingAmount : ByteArray := prog_1_method_14_code
def yX6_equalizingAmount : MethodName := ⟨RX6, "equalizingAmount", "(I)I"⟩
abbrev cX6_equalizingAmountByLitres : ByteArray := prog_1_method_15_code
def yX6_equalizingAmountByLitres : MethodName := ⟨RX6, "equalizingAmountByLitres", "(I)I"⟩
abbrev cX6_opening : ByteArray := prog_1_method_16_code
def yX6_opening : MethodName := ⟨RX6, "opening", "(I)I"⟩
abbrev cX6_isOpen : ByteArray := prog_1_method_17_code
def yX6_isOpen : MethodName := ⟨RX6, "isOpen", "(I)Z"⟩
abbrev cX6_flow : ByteArray := prog_1_method_18_code
def yX6_flow : MethodName := ⟨RX6, "flow", "(I)I"⟩
abbrev cX6_rain : ByteArray := prog_1_method_19_code
def yX6_rain : MethodName := ⟨RX6, "rain", "()I"⟩
abbrev cX6_drain : ByteArray := prog_1_method_20_code
def yX6_drain : MethodName := ⟨RX6, "drain", "()I"⟩
abbrev cX6_totalVolume : ByteArray := prog_1_method_21_code
def yX6_totalVolume : MethodName := ⟨RX6, "totalVolume", "()I"⟩
abbrev cX6_totalVolumeByAccounts : ByteArray := prog_1_method_22_code
def yX6_totalVolumeByAccounts : MethodName := ⟨RX6, "totalVolumeByAccounts", "()I"⟩
abbrev cX6_rainTotal : ByteArray := prog_1_method_23_code
def yX6_rainTotal : MethodName := ⟨RX6, "rainTotal", "()I"⟩
abbrev cX6_drainTotal : ByteArray := prog_1_method_24_code
def yX6_drainTotal : MethodName := ⟨RX6, "drainTotal", "()I"⟩
abbrev cX6_spilledTotal : ByteArray := prog_1_method_25_code
def yX6_spilledTotal : MethodName := ⟨RX6, "spilledTotal", "()I"⟩
abbrev cX6_basinByLevel : ByteArray := prog_1_method_26_code
def yX6_basinByLevel : MethodName := ⟨RX6, "basinByLevel", "(I)I"⟩
abbrev cX6_boatCount : ByteArray := prog_1_method_27_code
def yX6_boatCount : MethodName := ⟨RX6, "boatCount", "()I"⟩
abbrev cX6_colour : ByteArray := prog_1_method_28_code
def yX6_colour : MethodName := ⟨RX6, "colour", "(I)C"⟩
abbrev cX6_draught : ByteArray := prog_1_method_29_code
def yX6_draught : MethodName := ⟨RX6, "draught", "(I)I"⟩
abbrev cX6_isGoingDown : ByteArray := prog_1_method_30_code
def yX6_isGoingDown : MethodName := ⟨RX6, "isGoingDown", "(I)Z"⟩
abbrev cX6_basinOf : ByteArray := prog_1_method_31_code
def yX6_basinOf : MethodName := ⟨RX6, "basinOf", "(I)I"⟩
abbrev cX6_boatsIn : ByteArray := prog_1_method_32_code
def yX6_boatsIn : MethodName := ⟨RX6, "boatsIn", "(I)I"⟩
abbrev cX6_boatInOrder : ByteArray := prog_1_method_33_code
def yX6_boatInOrder : MethodName := ⟨RX6, "boatInOrder", "(I)I"⟩
abbrev cX6_floats : ByteArray := prog_1_method_34_code
def yX6_floats : MethodName := ⟨RX6, "floats", "(II)Z"⟩
abbrev cX6_leftTotal : ByteArray := prog_1_method_35_code
def yX6_leftTotal : MethodName := ⟨RX6, "leftTotal", "(C)I"⟩
abbrev cX6_minutesUntilLeaving : ByteArray := prog_1_method_36_code
def yX6_minutesUntilLeaving : MethodName := ⟨RX6, "minutesUntilLeaving", "(I)I"⟩
abbrev cX6_minutesUntilEqual : ByteArray := prog_1_method_37_code
def yX6_minutesUntilEqual : MethodName := ⟨RX6, "minutesUntilEqual", "(I)I"⟩
abbrev cX6_volumeAfter : ByteArray := prog_1_method_38_code
def yX6_volumeAfter : MethodName := ⟨RX6, "volumeAfter", "(II)I"⟩
abbrev cX6_eventCount : ByteArray := prog_1_method_39_code
def yX6_eventCount : MethodName := ⟨RX6, "eventCount", "()I"⟩
abbrev cX6_eventKind : ByteArray := prog_1_method_40_code
def yX6_eventKind : MethodName := ⟨RX6, "eventKind", "(I)C"⟩
abbrev cX6_eventNumber : ByteArray := prog_1_method_41_code
def yX6_eventNumber : MethodName := ⟨RX6, "eventNumber", "(I)I"⟩
abbrev cX6_time : ByteArray := prog_1_method_42_code
def yX6_time : MethodName := ⟨RX6, "time", "()I"⟩
abbrev cX6_meanLevel : ByteArray := prog_1_method_43_code
def yX6_meanLevel : MethodName := ⟨RX6, "meanLevel", "()F"⟩
abbrev cX6_isConsistent : ByteArray := prog_1_method_44_code
def yX6_isConsistent : MethodName := ⟨RX6, "isConsistent", "()Z"⟩
abbrev cX6_renderLevels : ByteArray := prog_1_method_45_code
def yX6_renderLevels : MethodName := ⟨RX6, "renderLevels", "()I"⟩
abbrev cX6_renderBoat : ByteArray := prog_1_method_46_code
def yX6_renderBoat : MethodName := ⟨RX6, "renderBoat", "(I)I"⟩
abbrev cX6_outputAt : ByteArray := prog_1_method_47_code
def yX6_outputAt : MethodName := ⟨RX6, "outputAt", "(I)C"⟩
abbrev cX6_type : ByteArray := prog_1_method_48_code
def yX6_type : MethodName := ⟨RX6, "type", "(C)I"⟩
abbrev cX6_runScript : ByteArray := prog_1_method_49_code
def yX6_runScript : MethodName := ⟨RX6, "runScript", "()I"⟩
abbrev cX6_errorPosition : ByteArray := prog_1_method_50_code
def yX6_errorPosition : MethodName := ⟨RX6, "errorPosition", "()I"⟩
abbrev cX6_failedCommand : ByteArray := prog_1_method_51_code
def yX6_failedCommand : MethodName := ⟨RX6, "failedCommand", "()I"⟩
abbrev cX6_undo : ByteArray := prog_1_method_52_code
def yX6_undo : MethodName := ⟨RX6, "undo", "()I"⟩
abbrev cX6_save : ByteArray := prog_1_method_53_code
def yX6_save : MethodName := ⟨RX6, "save", "()I"⟩
abbrev cX6_restore : ByteArray := prog_1_method_54_code
def yX6_restore : MethodName := ⟨RX6, "restore", "()I"⟩
abbrev cX6_beginChange : ByteArray := prog_1_method_55_code
def yX6_beginChange : MethodName := ⟨RX6, "beginChange", "(III)V"⟩
abbrev cX6_refuse : ByteArray := prog_1_method_56_code
def yX6_refuse : MethodName := ⟨RX6, "refuse", "(I)V"⟩
abbrev cX6_needBasin : ByteArray := prog_1_method_57_code
def yX6_needBasin : MethodName := ⟨RX6, "needBasin", "(I)V"⟩
abbrev cX6_needGate : ByteArray := prog_1_method_58_code
def yX6_needGate : MethodName := ⟨RX6, "needGate", "(I)V"⟩
abbrev cX6_needBoat : ByteArray := prog_1_method_59_code
def yX6_needBoat : MethodName := ⟨RX6, "needBoat", "(I)V"⟩
abbrev cX6_needEvent : ByteArray := prog_1_method_60_code
def yX6_needEvent : MethodName := ⟨RX6, "needEvent", "(I)V"⟩
abbrev cX6_isGate : ByteArray := prog_1_method_61_code
def yX6_isGate : MethodName := ⟨RX6, "isGate", "(I)Z"⟩
abbrev cX6_areaOf : ByteArray := prog_1_method_62_code
def yX6_areaOf : MethodName := ⟨RX6, "areaOf", "(I)I"⟩
abbrev cX6_colourNumber : ByteArray := prog_1_method_63_code
def yX6_colourNumber : MethodName := ⟨RX6, "colourNumber", "(I)I"⟩
def RX7 : String := "CanalLocksModel"
def TX7 : u_T := fun k => match k with
  | 0 => ("CanalLocksModel", "thrown", "I", false)
  | 1 => ("CanalLocksModel", "all", "[I", true)
  | 2 => ("CanalLocksModel", "changes", "I", false)
  | 3 => ("CanalLocksModel", "isSaved", "Z", false)
  | 4 => ("CanalLocksModel", "result", "I", false)
  | 5 => ("CanalLocksModel", "passed", "I", false)
  | 6 => ("CanalLocksModel", "output", "[C", true)
  | 7 => ("CanalLocksModel", "outputSize", "I", false)
  | 8 => ("CanalLocksModel", "input", "[C", true)
  | 9 => ("CanalLocksModel", "typed", "I", false)
  | 10 => ("CanalLocksModel", "here", "I", false)
  | 11 => ("CanalLocksModel", "error", "I", false)
  | 12 => ("CanalLocksModel", "errorAt", "I", false)
  | 13 => ("CanalLocksModel", "failedAt", "I", false)
  | 14 => ("CanalLocksModel", "commands", "[I", true)
  | _ => ("CanalLocksModel", "commandMany", "I", false)
def tyX7 : Nat → FieldType := fun k => match k with
  | 0 => .int
  | 1 => .array .int
  | 2 => .int
  | 3 => .boolean
  | 4 => .int
  | 5 => .int
  | 6 => .array .char
  | 7 => .int
  | 8 => .array .char
  | 9 => .int
  | 10 => .int
  | 11 => .int
  | 12 => .int
  | 13 => .int
  | 14 => .array .int
  | _ => .int
abbrev wsX70 : List Cond := u_ws RX7 TX7 16
theorem nmX7 : ∀ a, a < 16 → ∀ b, b < 16 → a ≠ b → (TX7 a).2.1 ≠ (TX7 b).2.1 := by decide +kernel
theorem tyX7_ok : ∀ k, k < 16 → parseFieldDescriptor (TX7 k).2.2.1 = some (tyX7 k) := by decide +kernel
abbrev cX7_init : ByteArray := prog_9_method_1_code
def yX7_init : MethodName := ⟨RX7, "<init>", "()V"⟩
abbrev cX7_thrown : ByteArray := prog_9_method_2_code
def yX7_thrown : MethodName := ⟨RX7, "thrown", "()I"⟩
abbrev cX7_in : ByteArray := prog_9_method_3_code
def yX7_in : MethodName := ⟨RX7, "in", "(III)Z"⟩
abbrev cX7_copies : ByteArray := prog_9_method_4_code
def yX7_copies : MethodName := ⟨RX7, "copies", "(II)V"⟩
abbrev cX7_begins : ByteArray := prog_9_method_5_code
def yX7_begins : MethodName := ⟨RX7, "begins", "()V"⟩
abbrev cX7_ends : ByteArray := prog_9_method_6_code
def yX7_ends : MethodName := ⟨RX7, "ends", "(IIIII)I"⟩
abbrev cX7_isFine : ByteArray := prog_9_method_7_code
def yX7_isFine : MethodName := ⟨RX7, "isFine", "(Z)Z"⟩
abbrev cX7_isBasin : ByteArray := prog_9_method_8_code
def yX7_isBasin : MethodName := ⟨RX7, "isBasin", "(I)Z"⟩
abbrev cX7_isGate : ByteArray := prog_9_method_9_code
def yX7_isGate : MethodName := ⟨RX7, "isGate", "(I)Z"⟩
abbrev cX7_size : ByteArray := prog_9_method_10_code
def yX7_size : MethodName := ⟨RX7, "size", "(I)I"⟩
abbrev cX7_above : ByteArray := prog_9_method_11_code
def yX7_above : MethodName := ⟨RX7, "above", "(II)I"⟩
abbrev cX7_equal : ByteArray := prog_9_method_12_code
def yX7_equal : MethodName := ⟨RX7, "equal", "(I)I"⟩
abbrev cX7_flows : ByteArray := prog_9_method_13_code
def yX7_flows : MethodName := ⟨RX7, "flows", "(I)I"⟩
abbrev cX7_happens : ByteArray := prog_9_method_14_code
def yX7_happens : MethodName := ⟨RX7, "happens", "(II)V"⟩
abbrev cX7_rains : ByteArray := prog_9_method_15_code
def yX7_rains : MethodName := ⟨RX7, "rains", "()V"⟩
abbrev cX7_b : ByteArray := prog_9_method_16_code
def yX7_b : MethodName := ⟨RX7, "b", "(II)I"⟩
abbrev cX7_set : ByteArray := prog_9_method_17_code
def yX7_set : MethodName := ⟨RX7, "set", "(III)V"⟩
abbrev cX7_isBoat : ByteArray := prog_9_method_18_code
def yX7_isBoat : MethodName := ⟨RX7, "isBoat", "(I)Z"⟩
abbrev cX7_inBasin : ByteArray := prog_9_method_19_code
def yX7_inBasin : MethodName := ⟨RX7, "inBasin", "(I)I"⟩
abbrev cX7_isDeep : ByteArray := prog_9_method_20_code
def yX7_isDeep : MethodName := ⟨RX7, "isDeep", "(II)Z"⟩
abbrev cX7_leaves : ByteArray := prog_9_method_21_code
def yX7_leaves : MethodName := ⟨RX7, "leaves", "(I)V"⟩
abbrev cX7_passes : ByteArray := prog_9_method_22_code
def yX7_passes : MethodName := ⟨RX7, "passes", "(I)Z"⟩
abbrev cX7_ticks : ByteArray := prog_9_method_23_code
def yX7_ticks : MethodName := ⟨RX7, "ticks", "()I"⟩
abbrev cX7_colourOf : ByteArray := prog_9_method_24_code
def yX7_colourOf : MethodName := ⟨RX7, "colourOf", "(I)I"⟩
abbrev cX7_signOf : ByteArray := prog_9_method_25_code
def yX7_signOf : MethodName := ⟨RX7, "signOf", "(I)C"⟩
abbrev cX7_adds : ByteArray := prog_9_method_26_code
def yX7_adds : MethodName := ⟨RX7, "adds", "(III)I"⟩
abbrev cX7_addBoat : ByteArray := prog_9_method_27_code
def yX7_addBoat : MethodName := ⟨RX7, "addBoat", "(CIZ)I"⟩
abbrev cX7_turns : ByteArray := prog_9_method_28_code
def yX7_turns : MethodName := ⟨RX7, "turns", "(II)I"⟩
abbrev cX7_setValve : ByteArray := prog_9_method_29_code
def yX7_setValve : MethodName := ⟨RX7, "setValve", "(II)I"⟩
abbrev cX7_openGates : ByteArray := prog_9_method_30_code
def yX7_openGates : MethodName := ⟨RX7, "openGates", "()I"⟩
abbrev cX7_opens : ByteArray := prog_9_method_31_code
def yX7_opens : MethodName := ⟨RX7, "opens", "(I)I"⟩
abbrev cX7_openGate : ByteArray := prog_9_method_32_code
def yX7_openGate : MethodName := ⟨RX7, "openGate", "(I)I"⟩
abbrev cX7_shuts : ByteArray := prog_9_method_33_code
def yX7_shuts : MethodName := ⟨RX7, "shuts", "(I)I"⟩
abbrev cX7_shutGate : ByteArray := prog_9_method_34_code
def yX7_shutGate : MethodName := ⟨RX7, "shutGate", "(I)I"⟩
abbrev cX7_weather : ByteArray := prog_9_method_35_code
def yX7_weather : MethodName := ⟨RX7, "weather", "(II)I"⟩
abbrev cX7_setRain : ByteArray := prog_9_method_36_code
def yX7_setRain : MethodName := ⟨RX7, "setRain", "(I)I"⟩
abbrev cX7_setDrain : ByteArray := prog_9_method_37_code
def yX7_setDrain : MethodName := ⟨RX7, "setDrain", "(I)I"⟩
abbrev cX7_waits : ByteArray := prog_9_method_38_code
def yX7_waits : MethodName := ⟨RX7, "waits", "(I)I"⟩
abbrev cX7_advance : ByteArray := prog_9_method_39_code
def yX7_advance : MethodName := ⟨RX7, "advance", "(I)I"⟩
abbrev cX7_area : ByteArray := prog_9_method_40_code
def yX7_area : MethodName := ⟨RX7, "area", "(I)I"⟩
abbrev cX7_volume : ByteArray := prog_9_method_41_code
def yX7_volume : MethodName := ⟨RX7, "volume", "(I)I"⟩
abbrev cX7_level : ByteArray := prog_9_method_42_code
def yX7_level : MethodName := ⟨RX7, "level", "(I)I"⟩
abbrev cX7_exactLevel : ByteArray := prog_9_method_43_code
def yX7_exactLevel : MethodName := ⟨RX7, "exactLevel", "(I)D"⟩
abbrev cX7_isHigher : ByteArray := prog_9_method_44_code
def yX7_isHigher : MethodName := ⟨RX7, "isHigher", "(II)Z"⟩
abbrev cX7_equalizingAmount : ByteArray := prog_9_method_45_code
def yX7_equalizingAmount : MethodName := ⟨RX7, "equalizingAmount", "(I)I"⟩
abbrev cX7_equalizingAmountByLitres : ByteArray := prog_9_method_46_code
def yX7_equalizingAmountByLitres : MethodName := ⟨RX7, "equalizingAmountByLitres", "(I)I"⟩
abbrev cX7_opening : ByteArray := prog_9_method_47_code
def yX7_opening : MethodName := ⟨RX7, "opening", "(I)I"⟩
abbrev cX7_isOpen : ByteArray := prog_9_method_48_code
def yX7_isOpen : MethodName := ⟨RX7, "isOpen", "(I)Z"⟩
abbrev cX7_flow : ByteArray := prog_9_method_49_code
def yX7_flow : MethodName := ⟨RX7, "flow", "(I)I"⟩
abbrev cX7_told : ByteArray := prog_9_method_50_code
def yX7_told : MethodName := ⟨RX7, "told", "(I)I"⟩
abbrev cX7_rain : ByteArray := prog_9_method_51_code
def yX7_rain : MethodName := ⟨RX7, "rain", "()I"⟩
abbrev cX7_drain : ByteArray := prog_9_method_52_code
def yX7_drain : MethodName := ⟨RX7, "drain", "()I"⟩
abbrev cX7_sum : ByteArray := prog_9_method_53_code
def yX7_sum : MethodName := ⟨RX7, "sum", "()I"⟩
abbrev cX7_totalVolume : ByteArray := prog_9_method_54_code
def yX7_totalVolume : MethodName := ⟨RX7, "totalVolume", "()I"⟩
abbrev cX7_totalVolumeByAccounts : ByteArray := prog_9_method_55_code
def yX7_totalVolumeByAccounts : MethodName := ⟨RX7, "totalVolumeByAccounts", "()I"⟩
abbrev cX7_rainTotal : ByteArray := prog_9_method_56_code
def yX7_rainTotal : MethodName := ⟨RX7, "rainTotal", "()I"⟩
abbrev cX7_drainTotal : ByteArray := prog_9_method_57_code
def yX7_drainTotal : MethodName := ⟨RX7, "drainTotal", "()I"⟩
abbrev cX7_spilledTotal : ByteArray := prog_9_method_58_code
def yX7_spilledTotal : MethodName := ⟨RX7, "spilledTotal", "()I"⟩
abbrev cX7_basinByLevel : ByteArray := prog_9_method_59_code
def yX7_basinByLevel : MethodName := ⟨RX7, "basinByLevel", "(I)I"⟩
abbrev cX7_boatCount : ByteArray := prog_9_method_60_code
def yX7_boatCount : MethodName := ⟨RX7, "boatCount", "()I"⟩
abbrev cX7_ofBoat : ByteArray := prog_9_method_61_code
def yX7_ofBoat : MethodName := ⟨RX7, "ofBoat", "(II)I"⟩
abbrev cX7_colour : ByteArray := prog_9_method_62_code
def yX7_colour : MethodName := ⟨RX7, "colour", "(I)C"⟩
abbrev cX7_draught : ByteArray := prog_9_method_63_code
def yX7_draught : MethodName := ⟨RX7, "draught", "(I)I"⟩
abbrev cX7_isGoingDown : ByteArray := prog_9_method_64_code
def yX7_isGoingDown : MethodName := ⟨RX7, "isGoingDown", "(I)Z"⟩
abbrev cX7_basinOf : ByteArray := prog_9_method_65_code
def yX7_basinOf : MethodName := ⟨RX7, "basinOf", "(I)I"⟩
abbrev cX7_boatsIn : ByteArray := prog_9_method_66_code
def yX7_boatsIn : MethodName := ⟨RX7, "boatsIn", "(I)I"⟩
abbrev cX7_boatInOrder : ByteArray := prog_9_method_67_code
def yX7_boatInOrder : MethodName := ⟨RX7, "boatInOrder", "(I)I"⟩
abbrev cX7_floats : ByteArray := prog_9_method_68_code
def yX7_floats : MethodName := ⟨RX7, "floats", "(II)Z"⟩
abbrev cX7_leftTotal : ByteArray := prog_9_method_69_code
def yX7_leftTotal : MethodName := ⟨RX7, "leftTotal", "(C)I"⟩
abbrev cX7_isMarked : ByteArray := prog_9_method_70_code
def yX7_isMarked : MethodName := ⟨RX7, "isMarked", "()Z"⟩
abbrev cX7_minutesUntilLeaving : ByteArray := prog_9_method_71_code
def yX7_minutesUntilLeaving : MethodName := ⟨RX7, "minutesUntilLeaving", "(I)I"⟩
abbrev cX7_minutesUntilEqual : ByteArray := prog_9_method_72_code
def yX7_minutesUntilEqual : MethodName := ⟨RX7, "minutesUntilEqual", "(I)I"⟩
abbrev cX7_volumeAfter : ByteArray := prog_9_method_73_code
def yX7_volumeAfter : MethodName := ⟨RX7, "volumeAfter", "(II)I"⟩
abbrev cX7_eventCount : ByteArray := prog_9_method_74_code
def yX7_eventCount : MethodName := ⟨RX7, "eventCount", "()I"⟩
abbrev cX7_isEvent : ByteArray := prog_9_method_75_code
def yX7_isEvent : MethodName := ⟨RX7, "isEvent", "(I)Z"⟩
abbrev cX7_eventKind : ByteArray := prog_9_method_76_code
def yX7_eventKind : MethodName := ⟨RX7, "eventKind", "(I)C"⟩
abbrev cX7_eventNumber : ByteArray := prog_9_method_77_code
def yX7_eventNumber : MethodName := ⟨RX7, "eventNumber", "(I)I"⟩
abbrev cX7_time : ByteArray := prog_9_method_78_code
def yX7_time : MethodName := ⟨RX7, "time", "()I"⟩
abbrev cX7_meanLevel : ByteArray := prog_9_method_79_code
def yX7_meanLevel : MethodName := ⟨RX7, "meanLevel", "()F"⟩
abbrev cX7_isConsistent : ByteArray := prog_9_method_80_code
def yX7_isConsistent : MethodName := ⟨RX7, "isConsistent", "()Z"⟩
abbrev cX7_writes : ByteArray := prog_9_method_81_code
def yX7_writes : MethodName := ⟨RX7, "writes", "(I)V"⟩
abbrev cX7_writesNumber : ByteArray := prog_9_method_82_code
def yX7_writesNumber : MethodName := ⟨RX7, "writesNumber", "(I)V"⟩
abbrev cX7_renderLevels : ByteArray := prog_9_method_83_code
def yX7_renderLevels : MethodName := ⟨RX7, "renderLevels", "()I"⟩
abbrev cX7_renderBoat : ByteArray := prog_9_method_84_code
def yX7_renderBoat : MethodName := ⟨RX7, "renderBoat", "(I)I"⟩
abbrev cX7_outputAt : ByteArray := prog_9_method_85_code
def yX7_outputAt : MethodName := ⟨RX7, "outputAt", "(I)C"⟩
abbrev cX7_type : ByteArray := prog_9_method_86_code
def yX7_type : MethodName := ⟨RX7, "type", "(C)I"⟩
abbrev cX7_sign : ByteArray := prog_9_method_87_code
def yX7_sign : MethodName := ⟨RX7, "sign", "()I"⟩
abbrev cX7_needs : ByteArray := prog_9_method_88_code
def yX7_needs : MethodName := ⟨RX7, "needs", "(I)V"⟩
abbrev cX7_letters : ByteArray := prog_9_method_89_code
def yX7_letters : MethodName := ⟨RX7, "letters", "(III)V"⟩
abbrev cX7_number : ByteArray := prog_9_method_90_code
def yX7_number : MethodName := ⟨RX7, "number", "(I)I"⟩
abbrev cX7_behind : ByteArray := prog_9_method_91_code
def yX7_behind : MethodName := ⟨RX7, "behind", "(I)I"⟩
abbrev cX7_oneOf : ByteArray := prog_9_method_92_code
def yX7_oneOf : MethodName := ⟨RX7, "oneOf", "(III)I"⟩
abbrev cX7_word : ByteArray := prog_9_method_93_code
def yX7_word : MethodName := ⟨RX7, "word", "(I)V"⟩
abbrev cX7_command : ByteArray := prog_9_method_94_code
def yX7_command : MethodName := ⟨RX7, "command", "()V"⟩
abbrev cX7_parse : ByteArray := prog_9_method_95_code
def yX7_parse : MethodName := ⟨RX7, "parse", "()V"⟩
abbrev cX7_does : ByteArray := prog_9_method_96_code
def yX7_does : MethodName := ⟨RX7, "does", "(I)I"⟩
abbrev cX7_runScript : ByteArray := prog_9_method_97_code
def yX7_runScript : MethodName := ⟨RX7, "runScript", "()I"⟩
abbrev cX7_errorPosition : ByteArray := prog_9_method_98_code
def yX7_errorPosition : MethodName := ⟨RX7, "errorPosition", "()I"⟩
abbrev cX7_failedCommand : ByteArray := prog_9_method_99_code
def yX7_failedCommand : MethodName := ⟨RX7, "failedCommand", "()I"⟩
abbrev cX7_undo : ByteArray := prog_9_method_100_code
def yX7_undo : MethodName := ⟨RX7, "undo", "()I"⟩
abbrev cX7_save : ByteArray := prog_9_method_101_code
def yX7_save : MethodName := ⟨RX7, "save", "()I"⟩
abbrev cX7_restore : ByteArray := prog_9_method_102_code
def yX7_restore : MethodName := ⟨RX7, "restore", "()I"⟩
def RJx145de : String := "java/io/Serializable"
def TJx145de : u_T := fun k => match k with
  | _ => ("", "", "", false)
def tyJx145de : Nat → FieldType := fun k => match k with
  | _ => .int
abbrev wsJx145de0 : List Cond := u_ws RJx145de TJx145de 0
theorem nmJx145de : ∀ a, a < 0 → ∀ b, b < 0 → a ≠ b → (TJx145de a).2.1 ≠ (TJx145de b).2.1 := by decide +kernel
theorem tyJx145de_ok : ∀ k, k < 0 → parseFieldDescriptor (TJx145de k).2.2.1 = some (tyJx145de k) := by decide +kernel
def RJ5 : String := "java/lang/AbstractStringBuilder"
def TJ5 : u_T := fun k => match k with
  | _ => ("", "", "", false)
def tyJ5 : Nat → FieldType := fun k => match k with
  | _ => .int
abbrev wsJ50 : List Cond := u_ws RJ5 TJ5 0
theorem nmJ5 : ∀ a, a < 0 → ∀ b, b < 0 → a ≠ b → (TJ5 a).2.1 ≠ (TJ5 b).2.1 := by decide +kernel
theorem tyJ5_ok : ∀ k, k < 0 → parseFieldDescriptor (TJ5 k).2.2.1 = some (tyJ5 k) := by decide +kernel
abbrev cJ5_init_d00df : ByteArray := prog_11_method_2_code
def yJ5_init_d00df : MethodName := ⟨RJ5, "<init>", "(I)V"⟩
abbrev cJ5_length_8abf5 : ByteArray := prog_11_method_6_code
def yJ5_length_8abf5 : MethodName := ⟨RJ5, "length", "()I"⟩
abbrev cJ5_ensureCapacityInternal_d00df : ByteArray := prog_11_method_9_code
def yJ5_ensureCapacityInternal_d00df : MethodName := ⟨RJ5, "ensureCapacityInternal", "(I)V"⟩
abbrev cJ5_newCapacity_0f7a4 : ByteArray := prog_11_method_10_code
def yJ5_newCapacity_0f7a4 : MethodName := ⟨RJ5, "newCapacity", "(I)I"⟩
abbrev cJ5_inflate_da8c8 : ByteArray := prog_11_method_11_code
def yJ5_inflate_da8c8 : MethodName := ⟨RJ5, "inflate", "()V"⟩
abbrev cJ5_setLength_d00df : ByteArray := prog_11_method_13_code
def yJ5_setLength_d00df : MethodName := ⟨RJ5, "setLength", "(I)V"⟩
abbrev cJ5_charAt_5068e : ByteArray := prog_11_method_14_code
def yJ5_charAt_5068e : MethodName := ⟨RJ5, "charAt", "(I)C"⟩
abbrev cJ5_append_cf1ce : ByteArray := prog_11_method_22_code
def yJ5_append_cf1ce : MethodName := ⟨RJ5, "append", "(Ljava/lang/String;)Ljava/lang/AbstractStringBuilder;"⟩
abbrev cJ5_appendNull_278bc : ByteArray := prog_11_method_26_code
def yJ5_appendNull_278bc : MethodName := ⟨RJ5, "appendNull", "()Ljava/lang/AbstractStringBuilder;"⟩
abbrev cJ5_append_3fe6f : ByteArray := prog_11_method_31_code
def yJ5_append_3fe6f : MethodName := ⟨RJ5, "append", "(C)Ljava/lang/AbstractStringBuilder;"⟩
abbrev cJ5_append_c97b9 : ByteArray := prog_11_method_32_code
def yJ5_append_c97b9 : MethodName := ⟨RJ5, "append", "(I)Ljava/lang/AbstractStringBuilder;"⟩
abbrev cJ5_getValue_6d5f1 : ByteArray := prog_11_method_64_code
def yJ5_getValue_6d5f1 : MethodName := ⟨RJ5, "getValue", "()[B"⟩
abbrev cJ5_isLatin1_aae02 : ByteArray := prog_11_method_68_code
def yJ5_isLatin1_aae02 : MethodName := ⟨RJ5, "isLatin1", "()Z"⟩
abbrev cJ5_inflateIfNeededFor_a7421 : ByteArray := prog_11_method_71_code
def yJ5_inflateIfNeededFor_a7421 : MethodName := ⟨RJ5, "inflateIfNeededFor", "(Ljava/lang/String;)V"⟩
abbrev cJ5_putStringAt_47b60 : ByteArray := prog_11_method_73_code
def yJ5_putStringAt_47b60 : MethodName := ⟨RJ5, "putStringAt", "(ILjava/lang/String;)V"⟩
def RJx2cfe8 : String := "java/lang/Appendable"
def TJx2cfe8 : u_T := fun k => match k with
  | _ => ("", "", "", false)
def tyJx2cfe8 : Nat → FieldType := fun k => match k with
  | _ => .int
abbrev wsJx2cfe80 : List Cond := u_ws RJx2cfe8 TJx2cfe8 0
theorem nmJx2cfe8 : ∀ a, a < 0 → ∀ b, b < 0 → a ≠ b → (TJx2cfe8 a).2.1 ≠ (TJx2cfe8 b).2.1 := by decide +kernel
theorem tyJx2cfe8_ok : ∀ k, k < 0 → parseFieldDescriptor (TJx2cfe8 k).2.2.1 = some (tyJx2cfe8 k) := by decide +kernel
def RJx00060 : String := "java/lang/ArrayIndexOutOfBoundsException"
def TJx00060 : u_T := fun k => match k with
  | 0 => ("java/lang/Throwable", "cause", "Ljava/lang/Throwable;", false)
  | 1 => ("java/lang/Throwable", "stackTrace", "[Ljava/lang/StackTraceElement;", false)
  | 2 => ("java/lang/Throwable", "suppressedExceptions", "Ljava/util/List;", false)
  | 3 => ("java/lang/Throwable", "detailMessage", "Ljava/lang/String;", false)
  | 4 => ("java/lang/Throwable", "backtrace", "Ljava/lang/Object;", false)
  | _ => ("java/lang/Throwable", "depth", "I", false)
def tyJx00060 : Nat → FieldType := fun k => match k with
  | 0 => .object "java/lang/Throwable"
  | 1 => .array (.object "java/lang/StackTraceElement")
  | 2 => .object "java/util/List"
  | 3 => .object "java/lang/String"
  | 4 => .object "java/lang/Object"
  | _ => .int
abbrev wsJx000600 : List Cond := u_ws RJx00060 TJx00060 6
theorem nmJx00060 : ∀ a, a < 6 → ∀ b, b < 6 → a ≠ b → (TJx00060 a).2.1 ≠ (TJx00060 b).2.1 := by decide +kernel
theorem tyJx00060_ok : ∀ k, k < 6 → parseFieldDescriptor (TJx00060 k).2.2.1 = some (tyJx00060 k) := by decide +kernel
abbrev cJx00060_init_d00df : ByteArray := prog_13_method_3_code
def yJx00060_init_d00df : MethodName := ⟨RJx00060, "<init>", "(I)V"⟩
def RJx9f9b0 : String := "java/lang/CharSequence"
def TJx9f9b0 : u_T := fun k => match k with
  | _ => ("", "", "", false)
def tyJx9f9b0 : Nat → FieldType := fun k => match k with
  | _ => .int
abbrev wsJx9f9b00 : List Cond := u_ws RJx9f9b0 TJx9f9b0 0
theorem nmJx9f9b0 : ∀ a, a < 0 → ∀ b, b < 0 → a ≠ b → (TJx9f9b0 a).2.1 ≠ (TJx9f9b0 b).2.1 := by decide +kernel
theorem tyJx9f9b0_ok : ∀ k, k < 0 → parseFieldDescriptor (TJx9f9b0 k).2.2.1 = some (tyJx9f9b0 k) := by decide +kernel
def RJ11 : String := "java/lang/Character"
def TJ11 : u_T := fun k => match k with
  | _ => ("", "", "", false)
def tyJ11 : Nat → FieldType := fun k => match k with
  | _ => .int
abbrev wsJ110 : List Cond := u_ws RJ11 TJ11 0
theorem nmJ11 : ∀ a, a < 0 → ∀ b, b < 0 → a ≠ b → (TJ11 a).2.1 ≠ (TJ11 b).2.1 := by decide +kernel
theorem tyJ11_ok : ∀ k, k < 0 → parseFieldDescriptor (TJ11 k).2.2.1 = some (tyJ11 k) := by decide +kernel
abbrev cJ11_isValidCodePoint_9a6ad : ByteArray := prog_15_method_11_code
def yJ11_isValidCodePoint_9a6ad : MethodName := ⟨RJ11, "isValidCodePoint", "(I)Z"⟩
abbrev cJ11_highSurrogate_5068e : ByteArray := prog_15_method_28_code
def yJ11_highSurrogate_5068e : MethodName := ⟨RJ11, "highSurrogate", "(I)C"⟩
abbrev cJ11_lowSurrogate_5068e : ByteArray := prog_15_method_29_code
def yJ11_lowSurrogate_5068e : MethodName := ⟨RJ11, "lowSurrogate", "(I)C"⟩
def RJx8e188 : String := "java/lang/Cloneable"
def TJx8e188 : u_T := fun k => match k with
  | _ => ("", "", "", false)
def tyJx8e188 : Nat → FieldType := fun k => match k with
  | _ => .int
abbrev wsJx8e1880 : List Cond := u_ws RJx8e188 TJx8e188 0
theorem nmJx8e188 : ∀ a, a < 0 → ∀ b, b < 0 → a ≠ b → (TJx8e188 a).2.1 ≠ (TJx8e188 b).2.1 := by decide +kernel
theorem tyJx8e188_ok : ∀ k, k < 0 → parseFieldDescriptor (TJx8e188 k).2.2.1 = some (tyJx8e188 k) := by decide +kernel
def RJxb160c : String := "java/lang/Comparable"
def TJxb160c : u_T := fun k => match k with
  | _ => ("", "", "", false)
def tyJxb160c : Nat → FieldType := fun k => match k with
  | _ => .int
abbrev wsJxb160c0 : List Cond := u_ws RJxb160c TJxb160c 0
theorem nmJxb160c : ∀ a, a < 0 → ∀ b, b < 0 → a ≠ b → (TJxb160c a).2.1 ≠ (TJxb160c b).2.1 := by decide +kernel
theorem tyJxb160c_ok : ∀ k, k < 0 → parseFieldDescriptor (TJxb160c k).2.2.1 = some (tyJxb160c k) := by decide +kernel
def RJ6 : String := "java/lang/Integer"
def TJ6 : u_T := fun k => match k with
  | _ => ("", "", "", false)
def tyJ6 : Nat → FieldType := fun k => match k with
  | _ => .int
abbrev wsJ60 : List Cond := u_ws RJ6 TJ6 0
theorem nmJ6 : ∀ a, a < 0 → ∀ b, b < 0 → a ≠ b → (TJ6 a).2.1 ≠ (TJ6 b).2.1 := by decide +kernel
theorem tyJ6_ok : ∀ k, k < 0 → parseFieldDescriptor (TJ6 k).2.2.1 = some (tyJ6 k) := by decide +kernel
abbrev cJ6_getChars_ba4f3 : ByteArray := prog_22_method_12_code
def yJ6_getChars_ba4f3 : MethodName := ⟨RJ6, "getChars", "(II[B)I"⟩
abbrev cJ6_stringSize_0f7a4 : ByteArray := prog_22_method_13_code
def yJ6_stringSize_0f7a4 : MethodName := ⟨RJ6, "stringSize", "(I)I"⟩
def RJ9 : String := "java/lang/Math"
def TJ9 : u_T := fun k => match k with
  | _ => ("", "", "", false)
def tyJ9 : Nat → FieldType := fun k => match k with
  | _ => .int
abbrev wsJ90 : List Cond := u_ws RJ9 TJ9 0
theorem nmJ9 : ∀ a, a < 0 → ∀ b, b < 0 → a ≠ b → (TJ9 a).2.1 ≠ (TJ9 b).2.1 := by decide +kernel
theorem tyJ9_ok : ∀ k, k < 0 → parseFieldDescriptor (TJ9 k).2.2.1 = some (tyJ9 k) := by decide +kernel
abbrev cJ9_floorMod_7cf53 : ByteArray := prog_23_method_50_code
def yJ9_floorMod_7cf53 : MethodName := ⟨RJ9, "floorMod", "(II)I"⟩
abbrev cJ9_abs_0f7a4 : ByteArray := prog_23_method_59_code
def yJ9_abs_0f7a4 : MethodName := ⟨RJ9, "abs", "(I)I"⟩
abbrev cJ9_max_7cf53 : ByteArray := prog_23_method_65_code
def yJ9_max_7cf53 : MethodName := ⟨RJ9, "max", "(II)I"⟩
abbrev cJ9_min_7cf53 : ByteArray := prog_23_method_69_code
def yJ9_min_7cf53 : MethodName := ⟨RJ9, "min", "(II)I"⟩
def RJxd2413 : String := "java/lang/Number"
def TJxd2413 : u_T := fun k => match k with
  | _ => ("", "", "", false)
def tyJxd2413 : Nat → FieldType := fun k => match k with
  | _ => .int
abbrev wsJxd24130 : List Cond := u_ws RJxd2413 TJxd2413 0
theorem nmJxd2413 : ∀ a, a < 0 → ∀ b, b < 0 → a ≠ b → (TJxd2413 a).2.1 ≠ (TJxd2413 b).2.1 := by decide +kernel
theorem tyJxd2413_ok : ∀ k, k < 0 → parseFieldDescriptor (TJxd2413 k).2.2.1 = some (tyJxd2413 k) := by decide +kernel
def RJ0 : String := "java/lang/String"
def TJ0 : u_T := fun k => match k with
  | 0 => ("java/lang/String", "value", "[B", true)
  | 1 => ("java/lang/String", "coder", "B", true)
  | 2 => ("java/lang/String", "hash", "I", false)
  | _ => ("java/lang/String", "hashIsZero", "Z", false)
def tyJ0 : Nat → FieldType := fun k => match k with
  | 0 => .array .byte
  | 1 => .byte
  | 2 => .int
  | _ => .boolean
abbrev wsJ00 : List Cond := u_ws RJ0 TJ0 4
theorem nmJ0 : ∀ a, a < 4 → ∀ b, b < 4 → a ≠ b → (TJ0 a).2.1 ≠ (TJ0 b).2.1 := by decide +kernel
theorem tyJ0_ok : ∀ k, k < 4 → parseFieldDescriptor (TJ0 k).2.2.1 = some (tyJ0 k) := by decide +kernel
abbrev cJ0_init_81219 : ByteArray := prog_26_method_53_code
def yJ0_init_81219 : MethodName := ⟨RJ0, "<init>", "(Ljava/lang/StringBuilder;)V"⟩
abbrev cJ0_length_8abf5 : ByteArray := prog_26_method_54_code
def yJ0_length_8abf5 : MethodName := ⟨RJ0, "length", "()I"⟩
abbrev cJ0_charAt_5068e : ByteArray := prog_26_method_56_code
def yJ0_charAt_5068e : MethodName := ⟨RJ0, "charAt", "(I)C"⟩
abbrev cJ0_indexOf_0f7a4 : ByteArray := prog_26_method_79_code
def yJ0_indexOf_0f7a4 : MethodName := ⟨RJ0, "indexOf", "(I)I"⟩
abbrev cJ0_indexOf_7cf53 : ByteArray := prog_26_method_80_code
def yJ0_indexOf_7cf53 : MethodName := ⟨RJ0, "indexOf", "(II)I"⟩
abbrev cJ0_getBytes_840e7 : ByteArray := prog_26_method_147_code
def yJ0_getBytes_840e7 : MethodName := ⟨RJ0, "getBytes", "([BIB)V"⟩
abbrev cJ0_init_db425 : ByteArray := prog_26_method_150_code
def yJ0_init_db425 : MethodName := ⟨RJ0, "<init>", "(Ljava/lang/AbstractStringBuilder;Ljava/lang/Void;)V"⟩
abbrev cJ0_coder_7d493 : ByteArray := prog_26_method_152_code
def yJ0_coder_7d493 : MethodName := ⟨RJ0, "coder", "()B"⟩
abbrev cJ0_isLatin1_aae02 : ByteArray := prog_26_method_154_code
def yJ0_isLatin1_aae02 : MethodName := ⟨RJ0, "isLatin1", "()Z"⟩
abbrev cJ0_checkIndex_df160 : ByteArray := prog_26_method_155_code
def yJ0_checkIndex_df160 : MethodName := ⟨RJ0, "checkIndex", "(II)V"⟩
abbrev cJ0_checkBoundsOffCount_cabcc : ByteArray := prog_26_method_157_code
def yJ0_checkBoundsOffCount_cabcc : MethodName := ⟨RJ0, "checkBoundsOffCount", "(III)I"⟩
abbrev cJ0_checkBoundsBeginEnd_23922 : ByteArray := prog_26_method_158_code
def yJ0_checkBoundsBeginEnd_23922 : MethodName := ⟨RJ0, "checkBoundsBeginEnd", "(III)V"⟩
def RJ4 : String := "java/lang/StringBuilder"
def TJ4 : u_T := fun k => match k with
  | 0 => ("java/lang/AbstractStringBuilder", "value", "[B", false)
  | 1 => ("java/lang/AbstractStringBuilder", "coder", "B", false)
  | 2 => ("java/lang/AbstractStringBuilder", "maybeLatin1", "Z", false)
  | _ => ("java/lang/AbstractStringBuilder", "count", "I", false)
def tyJ4 : Nat → FieldType := fun k => match k with
  | 0 => .array .byte
  | 1 => .byte
  | 2 => .boolean
  | _ => .int
abbrev wsJ40 : List Cond := u_ws RJ4 TJ4 4
theorem nmJ4 : ∀ a, a < 4 → ∀ b, b < 4 → a ≠ b → (TJ4 a).2.1 ≠ (TJ4 b).2.1 := by decide +kernel
theorem tyJ4_ok : ∀ k, k < 4 → parseFieldDescriptor (TJ4 k).2.2.1 = some (tyJ4 k) := by decide +kernel
abbrev cJ4_init_da8c8 : ByteArray := prog_27_method_1_code
def yJ4_init_da8c8 : MethodName := ⟨RJ4, "<init>", "()V"⟩
abbrev cJ4_append_15ec4 : ByteArray := prog_27_method_7_code
def yJ4_append_15ec4 : MethodName := ⟨RJ4, "append", "(Ljava/lang/String;)Ljava/lang/StringBuilder;"⟩
abbrev cJ4_append_cf468 : ByteArray := prog_27_method_14_code
def yJ4_append_cf468 : MethodName := ⟨RJ4, "append", "(C)Ljava/lang/StringBuilder;"⟩
abbrev cJ4_append_bf812 : ByteArray := prog_27_method_15_code
def yJ4_append_bf812 : MethodName := ⟨RJ4, "append", "(I)Ljava/lang/StringBuilder;"⟩
abbrev cJ4_toString_0e30d : ByteArray := prog_27_method_42_code
def yJ4_toString_0e30d : MethodName := ⟨RJ4, "toString", "()Ljava/lang/String;"⟩
abbrev cJ4_charAt_5068e : ByteArray := prog_27_method_88_code
def yJ4_charAt_5068e : MethodName := ⟨RJ4, "charAt", "(I)C"⟩
abbrev cJ4_setLength_d00df : ByteArray := prog_27_method_89_code
def yJ4_setLength_d00df : MethodName := ⟨RJ4, "setLength", "(I)V"⟩
abbrev cJ4_length_8abf5 : ByteArray := prog_27_method_93_code
def yJ4_length_8abf5 : MethodName := ⟨RJ4, "length", "()I"⟩
def RJx7c733 : String := "java/lang/StringIndexOutOfBoundsException"
def TJx7c733 : u_T := fun k => match k with
  | 0 => ("java/lang/Throwable", "backtrace", "Ljava/lang/Object;", false)
  | 1 => ("java/lang/Throwable", "detailMessage", "Ljava/lang/String;", false)
  | 2 => ("java/lang/Throwable", "cause", "Ljava/lang/Throwable;", false)
  | 3 => ("java/lang/Throwable", "stackTrace", "[Ljava/lang/StackTraceElement;", false)
  | 4 => ("java/lang/Throwable", "depth", "I", false)
  | _ => ("java/lang/Throwable", "suppressedExceptions", "Ljava/util/List;", false)
def tyJx7c733 : Nat → FieldType := fun k => match k with
  | 0 => .object "java/lang/Object"
  | 1 => .object "java/lang/String"
  | 2 => .object "java/lang/Throwable"
  | 3 => .array (.object "java/lang/StackTraceElement")
  | 4 => .int
  | _ => .object "java/util/List"
abbrev wsJx7c7330 : List Cond := u_ws RJx7c733 TJx7c733 6
theorem nmJx7c733 : ∀ a, a < 6 → ∀ b, b < 6 → a ≠ b → (TJx7c733 a).2.1 ≠ (TJx7c733 b).2.1 := by decide +kernel
theorem tyJx7c733_ok : ∀ k, k < 6 → parseFieldDescriptor (TJx7c733 k).2.2.1 = some (tyJx7c733 k) := by decide +kernel
abbrev cJx7c733_init_d00df : ByteArray := prog_28_method_3_code
def yJx7c733_init_d00df : MethodName := ⟨RJx7c733, "<init>", "(I)V"⟩
def RJ1 : String := "java/lang/StringLatin1"
def TJ1 : u_T := fun k => match k with
  | _ => ("", "", "", false)
def tyJ1 : Nat → FieldType := fun k => match k with
  | _ => .int
abbrev wsJ10 : List Cond := u_ws RJ1 TJ1 0
theorem nmJ1 : ∀ a, a < 0 → ∀ b, b < 0 → a ≠ b → (TJ1 a).2.1 ≠ (TJ1 b).2.1 := by decide +kernel
theorem tyJ1_ok : ∀ k, k < 0 → parseFieldDescriptor (TJ1 k).2.2.1 = some (tyJ1 k) := by decide +kernel
abbrev cJ1_charAt_3b067 : ByteArray := prog_29_method_2_code
def yJ1_charAt_3b067 : MethodName := ⟨RJ1, "charAt", "([BI)C"⟩
abbrev cJ1_canEncode_fc78d : ByteArray := prog_29_method_3_code
def yJ1_canEncode_fc78d : MethodName := ⟨RJ1, "canEncode", "(C)Z"⟩
abbrev cJ1_canEncode_9a6ad : ByteArray := prog_29_method_4_code
def yJ1_canEncode_9a6ad : MethodName := ⟨RJ1, "canEncode", "(I)Z"⟩
abbrev cJ1_indexOf_4cfef : ByteArray := prog_29_method_22_code
def yJ1_indexOf_4cfef : MethodName := ⟨RJ1, "indexOf", "([BIII)I"⟩
abbrev cJ1_indexOfChar_4cfef : ByteArray := prog_29_method_23_code
def yJ1_indexOfChar_4cfef : MethodName := ⟨RJ1, "indexOfChar", "([BIII)I"⟩
abbrev cJ1_fillNull_b72d1 : ByteArray := prog_29_method_48_code
def yJ1_fillNull_b72d1 : MethodName := ⟨RJ1, "fillNull", "([BII)V"⟩
abbrev cJ1_inflate_0e8fd : ByteArray := prog_29_method_50_code
def yJ1_inflate_0e8fd : MethodName := ⟨RJ1, "inflate", "([BI[BII)V"⟩
def RJ2 : String := "java/lang/StringUTF16"
def TJ2 : u_T := fun k => match k with
  | _ => ("", "", "", false)
def tyJ2 : Nat → FieldType := fun k => match k with
  | _ => .int
abbrev wsJ20 : List Cond := u_ws RJ2 TJ2 0
theorem nmJ2 : ∀ a, a < 0 → ∀ b, b < 0 → a ≠ b → (TJ2 a).2.1 ≠ (TJ2 b).2.1 := by decide +kernel
theorem tyJ2_ok : ∀ k, k < 0 → parseFieldDescriptor (TJ2 k).2.2.1 = some (tyJ2 k) := by decide +kernel
abbrev cJ2_newBytesFor_77867 : ByteArray := prog_30_method_2_code
def yJ2_newBytesFor_77867 : MethodName := ⟨RJ2, "newBytesFor", "(I)[B"⟩
abbrev cJ2_newBytesLength_0f7a4 : ByteArray := prog_30_method_3_code
def yJ2_newBytesLength_0f7a4 : MethodName := ⟨RJ2, "newBytesLength", "(I)I"⟩
abbrev cJ2_putChar_b72d1 : ByteArray := prog_30_method_4_code
def yJ2_putChar_b72d1 : MethodName := ⟨RJ2, "putChar", "([BII)V"⟩
abbrev cJ2_getChar_3b067 : ByteArray := prog_30_method_5_code
def yJ2_getChar_3b067 : MethodName := ⟨RJ2, "getChar", "([BI)C"⟩
abbrev cJ2_length_9d52b : ByteArray := prog_30_method_6_code
def yJ2_length_9d52b : MethodName := ⟨RJ2, "length", "([B)I"⟩
abbrev cJ2_coderFromArrayLen_85cad : ByteArray := prog_30_method_15_code
def yJ2_coderFromArrayLen_85cad : MethodName := ⟨RJ2, "coderFromArrayLen", "([BI)B"⟩
abbrev cJ2_compress_39247 : ByteArray := prog_30_method_17_code
def yJ2_compress_39247 : MethodName := ⟨RJ2, "compress", "([BII)[B"⟩
abbrev cJ2_compress_5af95 : ByteArray := prog_30_method_22_code
def yJ2_compress_5af95 : MethodName := ⟨RJ2, "compress", "([BI[BII)I"⟩
abbrev cJ2_indexOf_4cfef : ByteArray := prog_30_method_40_code
def yJ2_indexOf_4cfef : MethodName := ⟨RJ2, "indexOf", "([BIII)I"⟩
abbrev cJ2_indexOfChar_4cfef : ByteArray := prog_30_method_47_code
def yJ2_indexOfChar_4cfef : MethodName := ⟨RJ2, "indexOfChar", "([BIII)I"⟩
abbrev cJ2_indexOfCharUnsafe_4cfef : ByteArray := prog_30_method_48_code
def yJ2_indexOfCharUnsafe_4cfef : MethodName := ⟨RJ2, "indexOfCharUnsafe", "([BIII)I"⟩
abbrev cJ2_indexOfSupplementary_4cfef : ByteArray := prog_30_method_49_code
def yJ2_indexOfSupplementary_4cfef : MethodName := ⟨RJ2, "indexOfSupplementary", "([BIII)I"⟩
abbrev cJ2_fillNull_b72d1 : ByteArray := prog_30_method_70_code
def yJ2_fillNull_b72d1 : MethodName := ⟨RJ2, "fillNull", "([BII)V"⟩
abbrev cJ2_putCharSB_b72d1 : ByteArray := prog_30_method_71_code
def yJ2_putCharSB_b72d1 : MethodName := ⟨RJ2, "putCharSB", "([BII)V"⟩
abbrev cJ2_getChars_46870 : ByteArray := prog_30_method_77_code
def yJ2_getChars_46870 : MethodName := ⟨RJ2, "getChars", "(III[B)I"⟩
abbrev cJ2_putCharsAt_cd4e5 : ByteArray := prog_30_method_81_code
def yJ2_putCharsAt_cd4e5 : MethodName := ⟨RJ2, "putCharsAt", "([BICCCC)I"⟩
abbrev cJ2_charAt_3b067 : ByteArray := prog_30_method_83_code
def yJ2_charAt_3b067 : MethodName := ⟨RJ2, "charAt", "([BI)C"⟩
abbrev cJ2_inflate_0e8fd : ByteArray := prog_30_method_86_code
def yJ2_inflate_0e8fd : MethodName := ⟨RJ2, "inflate", "([BI[BII)V"⟩
abbrev cJ2_getChars_ba4f3 : ByteArray := prog_30_method_89_code
def yJ2_getChars_ba4f3 : MethodName := ⟨RJ2, "getChars", "(II[B)I"⟩
abbrev cJ2_checkIndex_2214a : ByteArray := prog_30_method_91_code
def yJ2_checkIndex_2214a : MethodName := ⟨RJ2, "checkIndex", "(I[B)V"⟩
abbrev cJ2_checkBoundsBeginEnd_d044e : ByteArray := prog_30_method_93_code
def yJ2_checkBoundsBeginEnd_d044e : MethodName := ⟨RJ2, "checkBoundsBeginEnd", "(II[B)V"⟩
abbrev cJ2_checkBoundsOffCount_d044e : ByteArray := prog_30_method_94_code
def yJ2_checkBoundsOffCount_d044e : MethodName := ⟨RJ2, "checkBoundsOffCount", "(II[B)V"⟩
def RJ10 : String := "java/lang/System"
def TJ10 : u_T := fun k => match k with
  | _ => ("", "", "", false)
def tyJ10 : Nat → FieldType := fun k => match k with
  | _ => .int
abbrev wsJ100 : List Cond := u_ws RJ10 TJ10 0
theorem nmJ10 : ∀ a, a < 0 → ∀ b, b < 0 → a ≠ b → (TJ10 a).2.1 ≠ (TJ10 b).2.1 := by decide +kernel
theorem tyJ10_ok : ∀ k, k < 0 → parseFieldDescriptor (TJ10 k).2.2.1 = some (tyJ10 k) := by decide +kernel
def RJxfd54e : String := "java/lang/constant/Constable"
def TJxfd54e : u_T := fun k => match k with
  | _ => ("", "", "", false)
def tyJxfd54e : Nat → FieldType := fun k => match k with
  | _ => .int
abbrev wsJxfd54e0 : List Cond := u_ws RJxfd54e TJxfd54e 0
theorem nmJxfd54e : ∀ a, a < 0 → ∀ b, b < 0 → a ≠ b → (TJxfd54e a).2.1 ≠ (TJxfd54e b).2.1 := by decide +kernel
theorem tyJxfd54e_ok : ∀ k, k < 0 → parseFieldDescriptor (TJxfd54e k).2.2.1 = some (tyJxfd54e k) := by decide +kernel
def RJx3cf43 : String := "java/lang/constant/ConstantDesc"
def TJx3cf43 : u_T := fun k => match k with
  | _ => ("", "", "", false)
def tyJx3cf43 : Nat → FieldType := fun k => match k with
  | _ => .int
abbrev wsJx3cf430 : List Cond := u_ws RJx3cf43 TJx3cf43 0
theorem nmJx3cf43 : ∀ a, a < 0 → ∀ b, b < 0 → a ≠ b → (TJx3cf43 a).2.1 ≠ (TJx3cf43 b).2.1 := by decide +kernel
theorem tyJx3cf43_ok : ∀ k, k < 0 → parseFieldDescriptor (TJx3cf43 k).2.2.1 = some (tyJx3cf43 k) := by decide +kernel
def RJ7 : String := "java/util/Arrays"
def TJ7 : u_T := fun k => match k with
  | _ => ("", "", "", false)
def tyJ7 : Nat → FieldType := fun k => match k with
  | _ => .int
abbrev wsJ70 : List Cond := u_ws RJ7 TJ7 0
theorem nmJ7 : ∀ a, a < 0 → ∀ b, b < 0 → a ≠ b → (TJ7 a).2.1 ≠ (TJ7 b).2.1 := by decide +kernel
theorem tyJ7_ok : ∀ k, k < 0 → parseFieldDescriptor (TJ7 k).2.2.1 = some (tyJ7 k) := by decide +kernel
abbrev cJ7_rangeCheck_23922 : ByteArray := prog_36_method_30_code
def yJ7_rangeCheck_23922 : MethodName := ⟨RJ7, "rangeCheck", "(III)V"⟩
abbrev cJ7_fill_eb02e : ByteArray := prog_36_method_110_code
def yJ7_fill_eb02e : MethodName := ⟨RJ7, "fill", "([BIIB)V"⟩
abbrev cJ7_copyOf_9075b : ByteArray := prog_36_method_121_code
def yJ7_copyOf_9075b : MethodName := ⟨RJ7, "copyOf", "([BI)[B"⟩
abbrev cJ7_checkLength_df160 : ByteArray := prog_36_method_131_code
def yJ7_checkLength_df160 : MethodName := ⟨RJ7, "checkLength", "(II)V"⟩
abbrev cJ7_copyOfRange_39247 : ByteArray := prog_36_method_132_code
def yJ7_copyOfRange_39247 : MethodName := ⟨RJ7, "copyOfRange", "([BII)[B"⟩
abbrev cJ7_copyOfRangeByte_39247 : ByteArray := prog_36_method_133_code
def yJ7_copyOfRangeByte_39247 : MethodName := ⟨RJ7, "copyOfRangeByte", "([BII)[B"⟩
def RJ8 : String := "jdk/internal/util/ArraysSupport"
def TJ8 : u_T := fun k => match k with
  | _ => ("", "", "", false)
def tyJ8 : Nat → FieldType := fun k => match k with
  | _ => .int
abbrev wsJ80 : List Cond := u_ws RJ8 TJ8 0
theorem nmJ8 : ∀ a, a < 0 → ∀ b, b < 0 → a ≠ b → (TJ8 a).2.1 ≠ (TJ8 b).2.1 := by decide +kernel
theorem tyJ8_ok : ∀ k, k < 0 → parseFieldDescriptor (TJ8 k).2.2.1 = some (tyJ8 k) := by decide +kernel
abbrev cJ8_newLength_cabcc : ByteArray := prog_38_method_27_code
def yJ8_newLength_cabcc : MethodName := ⟨RJ8, "newLength", "(III)I"⟩
abbrev cJ8_hugeLength_7cf53 : ByteArray := prog_38_method_28_code
def yJ8_hugeLength_7cf53 : MethodName := ⟨RJ8, "hugeLength", "(II)I"⟩
def RJ3 : String := "jdk/internal/util/Preconditions"
def TJ3 : u_T := fun k => match k with
  | _ => ("", "", "", false)
def tyJ3 : Nat → FieldType := fun k => match k with
  | _ => .int
abbrev wsJ30 : List Cond := u_ws RJ3 TJ3 0
theorem nmJ3 : ∀ a, a < 0 → ∀ b, b < 0 → a ≠ b → (TJ3 a).2.1 ≠ (TJ3 b).2.1 := by decide +kernel
theorem tyJ3_ok : ∀ k, k < 0 → parseFieldDescriptor (TJ3 k).2.2.1 = some (tyJ3 k) := by decide +kernel
abbrev cJ3_checkIndex_8e157 : ByteArray := prog_39_method_11_code
def yJ3_checkIndex_8e157 : MethodName := ⟨RJ3, "checkIndex", "(IILjava/util/function/BiFunction;)I"⟩
abbrev cJ3_checkFromToIndex_8c36e : ByteArray := prog_39_method_12_code
def yJ3_checkFromToIndex_8c36e : MethodName := ⟨RJ3, "checkFromToIndex", "(IIILjava/util/function/BiFunction;)I"⟩
abbrev cJ3_checkFromIndexSize_8c36e : ByteArray := prog_39_method_13_code
def yJ3_checkFromIndexSize_8c36e : MethodName := ⟨RJ3, "checkFromIndexSize", "(IIILjava/util/function/BiFunction;)I"⟩
def RL : String := "CanalLocksLaw"
abbrev cL_addBoat : ByteArray := method_3_code
def yL_addBoat : MethodName := ⟨RL, "addBoat", "(LCanalLocks;CIZ[J)I"⟩
abbrev cL_setValve : ByteArray := method_4_code
def yL_setValve : MethodName := ⟨RL, "setValve", "(LCanalLocks;II[J)I"⟩
abbrev cL_openGate : ByteArray := method_5_code
def yL_openGate : MethodName := ⟨RL, "openGate", "(LCanalLocks;I[J)I"⟩
abbrev cL_shutGate : ByteArray := method_6_code
def yL_shutGate : MethodName := ⟨RL, "shutGate", "(LCanalLocks;I[J)I"⟩
abbrev cL_setRain : ByteArray := method_7_code
def yL_setRain : MethodName := ⟨RL, "setRain", "(LCanalLocks;I[J)I"⟩
abbrev cL_setDrain : ByteArray := method_8_code
def yL_setDrain : MethodName := ⟨RL, "setDrain", "(LCanalLocks;I[J)I"⟩
abbrev cL_advance : ByteArray := method_9_code
def yL_advance : MethodName := ⟨RL, "advance", "(LCanalLocks;I[J)I"⟩
abbrev cL_area : ByteArray := method_10_code
def yL_area : MethodName := ⟨RL, "area", "(LCanalLocks;I[J)I"⟩
abbrev cL_volume : ByteArray := method_11_code
def yL_volume : MethodName := ⟨RL, "volume", "(LCanalLocks;I[J)I"⟩
abbrev cL_level : ByteArray := method_12_code
def yL_level : MethodName := ⟨RL, "level", "(LCanalLocks;I[J)I"⟩
abbrev cL_exactLevel : ByteArray := method_13_code
def yL_exactLevel : MethodName := ⟨RL, "exactLevel", "(LCanalLocks;I[D)I"⟩
abbrev cL_isHigher : ByteArray := method_14_code
def yL_isHigher : MethodName := ⟨RL, "isHigher", "(LCanalLocks;II[J)I"⟩
abbrev cL_equalizingAmount : ByteArray := method_15_code
def yL_equalizingAmount : MethodName := ⟨RL, "equalizingAmount", "(LCanalLocks;I[J)I"⟩
abbrev cL_equalizingAmountByLitres : ByteArray := method_16_code
def yL_equalizingAmountByLitres : MethodName := ⟨RL, "equalizingAmountByLitres", "(LCanalLocks;I[J)I"⟩
abbrev cL_opening : ByteArray := method_17_code
def yL_opening : MethodName := ⟨RL, "opening", "(LCanalLocks;I[J)I"⟩
abbrev cL_isOpen : ByteArray := method_18_code
def yL_isOpen : MethodName := ⟨RL, "isOpen", "(LCanalLocks;I[J)I"⟩
abbrev cL_flow : ByteArray := method_19_code
def yL_flow : MethodName := ⟨RL, "flow", "(LCanalLocks;I[J)I"⟩
abbrev cL_basinByLevel : ByteArray := method_20_code
def yL_basinByLevel : MethodName := ⟨RL, "basinByLevel", "(LCanalLocks;I[J)I"⟩
abbrev cL_colour : ByteArray := method_21_code
def yL_colour : MethodName := ⟨RL, "colour", "(LCanalLocks;I[J)I"⟩
abbrev cL_draught : ByteArray := method_22_code
def yL_draught : MethodName := ⟨RL, "draught", "(LCanalLocks;I[J)I"⟩
abbrev cL_isGoingDown : ByteArray := method_23_code
def yL_isGoingDown : MethodName := ⟨RL, "isGoingDown", "(LCanalLocks;I[J)I"⟩
abbrev cL_basinOf : ByteArray := method_24_code
def yL_basinOf : MethodName := ⟨RL, "basinOf", "(LCanalLocks;I[J)I"⟩
abbrev cL_boatsIn : ByteArray := method_25_code
def yL_boatsIn : MethodName := ⟨RL, "boatsIn", "(LCanalLocks;I[J)I"⟩
abbrev cL_boatInOrder : ByteArray := method_26_code
def yL_boatInOrder : MethodName := ⟨RL, "boatInOrder", "(LCanalLocks;I[J)I"⟩
abbrev cL_floats : ByteArray := method_27_code
def yL_floats : MethodName := ⟨RL, "floats", "(LCanalLocks;II[J)I"⟩
abbrev cL_leftTotal : ByteArray := method_28_code
def yL_leftTotal : MethodName := ⟨RL, "leftTotal", "(LCanalLocks;C[J)I"⟩
abbrev cL_minutesUntilLeaving : ByteArray := method_29_code
def yL_minutesUntilLeaving : MethodName := ⟨RL, "minutesUntilLeaving", "(LCanalLocks;I[J)I"⟩
abbrev cL_minutesUntilEqual : ByteArray := method_30_code
def yL_minutesUntilEqual : MethodName := ⟨RL, "minutesUntilEqual", "(LCanalLocks;I[J)I"⟩
abbrev cL_volumeAfter : ByteArray := method_31_code
def yL_volumeAfter : MethodName := ⟨RL, "volumeAfter", "(LCanalLocks;II[J)I"⟩
abbrev cL_eventKind : ByteArray := method_32_code
def yL_eventKind : MethodName := ⟨RL, "eventKind", "(LCanalLocks;I[J)I"⟩
abbrev cL_eventNumber : ByteArray := method_33_code
def yL_eventNumber : MethodName := ⟨RL, "eventNumber", "(LCanalLocks;I[J)I"⟩
abbrev cL_renderBoat : ByteArray := method_34_code
def yL_renderBoat : MethodName := ⟨RL, "renderBoat", "(LCanalLocks;I[J)I"⟩
abbrev cL_outputAt : ByteArray := method_35_code
def yL_outputAt : MethodName := ⟨RL, "outputAt", "(LCanalLocks;I[J)I"⟩
abbrev cL_type : ByteArray := method_36_code
def yL_type : MethodName := ⟨RL, "type", "(LCanalLocks;C[J)I"⟩
abbrev cL_runScript : ByteArray := method_37_code
def yL_runScript : MethodName := ⟨RL, "runScript", "(LCanalLocks;[J)I"⟩
abbrev cL_errorPosition : ByteArray := method_38_code
def yL_errorPosition : MethodName := ⟨RL, "errorPosition", "(LCanalLocks;[J)I"⟩
abbrev cL_failedCommand : ByteArray := method_39_code
def yL_failedCommand : MethodName := ⟨RL, "failedCommand", "(LCanalLocks;[J)I"⟩
abbrev cL_undo : ByteArray := method_40_code
def yL_undo : MethodName := ⟨RL, "undo", "(LCanalLocks;[J)I"⟩
abbrev cL_restore : ByteArray := method_41_code
def yL_restore : MethodName := ⟨RL, "restore", "(LCanalLocks;[J)I"⟩
abbrev cL_law : ByteArray := code
def yL_law : MethodName := ⟨RL, "law", "([I)Z"⟩
theorem inX0 : ∀ w ∈ wsX00, w ∈ lw_tbl := by decide +kernel
theorem inX1 : ∀ w ∈ wsX10, w ∈ lw_tbl := by decide +kernel
theorem inX2 : ∀ w ∈ wsX20, w ∈ lw_tbl := by decide +kernel
theorem inX3 : ∀ w ∈ wsX30, w ∈ lw_tbl := by decide +kernel
theorem inX4 : ∀ w ∈ wsX40, w ∈ lw_tbl := by decide +kernel
theorem inX5 : ∀ w ∈ wsX50, w ∈ lw_tbl := by decide +kernel
theorem inX6 : ∀ w ∈ wsX60, w ∈ lw_tbl := by decide +kernel
theorem inX7 : ∀ w ∈ wsX70, w ∈ lw_tbl := by decide +kernel
theorem inJx145de : ∀ w ∈ wsJx145de0, w ∈ lw_tbl := by decide +kernel
theorem inJ5 : ∀ w ∈ wsJ50, w ∈ lw_tbl := by decide +kernel
theorem inJx2cfe8 : ∀ w ∈ wsJx2cfe80, w ∈ lw_tbl := by decide +kernel
theorem inJx00060 : ∀ w ∈ wsJx000600, w ∈ lw_tbl := by decide +kernel
theorem inJx9f9b0 : ∀ w ∈ wsJx9f9b00, w ∈ lw_tbl := by decide +kernel
theorem inJ11 : ∀ w ∈ wsJ110, w ∈ lw_tbl := by decide +kernel
theorem inJx8e188 : ∀ w ∈ wsJx8e1880, w ∈ lw_tbl := by decide +kernel
theorem inJxb160c : ∀ w ∈ wsJxb160c0, w ∈ lw_tbl := by decide +kernel
theorem inJ6 : ∀ w ∈ wsJ60, w ∈ lw_tbl := by decide +kernel
theorem inJ9 : ∀ w ∈ wsJ90, w ∈ lw_tbl := by decide +kernel
theorem inJxd2413 : ∀ w ∈ wsJxd24130, w ∈ lw_tbl := by decide +kernel
theorem inJ0 : ∀ w ∈ wsJ00, w ∈ lw_tbl := by decide +kernel
theorem inJ4 : ∀ w ∈ wsJ40, w ∈ lw_tbl := by decide +kernel
theorem inJx7c733 : ∀ w ∈ wsJx7c7330, w ∈ lw_tbl := by decide +kernel
theorem inJ1 : ∀ w ∈ wsJ10, w ∈ lw_tbl := by decide +kernel
theorem inJ2 : ∀ w ∈ wsJ20, w ∈ lw_tbl := by decide +kernel
theorem inJ10 : ∀ w ∈ wsJ100, w ∈ lw_tbl := by decide +kernel
theorem inJxfd54e : ∀ w ∈ wsJxfd54e0, w ∈ lw_tbl := by decide +kernel
theorem inJx3cf43 : ∀ w ∈ wsJx3cf430, w ∈ lw_tbl := by decide +kernel
theorem inJ7 : ∀ w ∈ wsJ70, w ∈ lw_tbl := by decide +kernel
theorem inJ8 : ∀ w ∈ wsJ80, w ∈ lw_tbl := by decide +kernel
theorem inJ3 : ∀ w ∈ wsJ30, w ∈ lw_tbl := by decide +kernel
abbrev vwCl : List vw_C := [(RJ0, TJ0, 4), (RJ4, TJ4, 4), (RJx00060, TJx00060, 6), (RJx7c733, TJx7c733, 6), (RX0, TX0, 4), (RX1, TX1, 8), (RX2, TX2, 4), (RX3, TX3, 3), (RX4, TX4, 9), (RX5, TX5, 8), (RX6, TX6, 9), (RX7, TX7, 16)]
end
section
theorem dX0_init_0 : decode cX0_init 0 = .ok (.aload_n 0, 1) := by decide +kernel
theorem dX0_init_1 : decode cX0_init 1 = .ok (.invokespecial 3, 3) := by decide +kernel
theorem dX0_init_4 : decode cX0_init 4 = .ok (.aload_n 0, 1) := by decide +kernel
theorem dX0_init_5 : decode cX0_init 5 = .ok (.bipush 8, 2) := by decide +kernel
theorem dX0_init_7 : decode cX0_init 7 = .ok (.newarray .char, 2) := by decide +kernel
theorem dX0_init_9 : decode cX0_init 9 = .ok (.putfield 9, 3) := by decide +kernel
theorem dX0_init_12 : decode cX0_init 12 = .ok (.aload_n 0, 1) := by decide +kernel
theorem dX0_init_13 : decode cX0_init 13 = .ok (.bipush 8, 2) := by decide +kernel
theorem dX0_init_15 : decode cX0_init 15 = .ok (.newarray .int, 2) := by decide +kernel
theorem dX0_init_17 : decode cX0_init 17 = .ok (.putfield 15, 3) := by decide +kernel
theorem dX0_init_20 : decode cX0_init 20 = .ok (.aload_n 0, 1) := by decide +kernel
theorem dX0_init_21 : decode cX0_init 21 = .ok (.iconst 0, 1) := by decide +kernel
theorem dX0_init_22 : decode cX0_init 22 = .ok (.putfield 19, 3) := by decide +kernel
theorem dX0_init_25 : decode cX0_init 25 = .ok (.aload_n 0, 1) := by decide +kernel
theorem dX0_init_26 : decode cX0_init 26 = .ok (.iconst 0, 1) := by decide +kernel
theorem dX0_init_27 : decode cX0_init 27 = .ok (.putfield 23, 3) := by decide +kernel
theorem dX0_init_30 : decode cX0_init 30 = .ok (.return_, 1) := by decide +kernel
theorem dX0_copyEvents_0 : decode cX0_copyEvents 0 = .ok (.iconst 0, 1) := by decide +kernel
theorem dX0_copyEvents_1 : decode cX0_copyEvents 1 = .ok (.istore_n 2, 1) := by decide +kernel
theorem dX0_copyEvents_2 : decode cX0_copyEvents 2 = .ok (.iload_n 2, 1) := by decide +kernel
theorem dX0_copyEvents_3 : decode cX0_copyEvents 3 = .ok (.bipush 8, 2) := by decide +kernel
theorem dX0_copyEvents_5 : decode cX0_copyEvents 5 = .ok (.if_icmp .ge 33, 3) := by decide +kernel
theorem dX0_copyEvents_8 : decode cX0_copyEvents 8 = .ok (.aload_n 0, 1) := by decide +kernel
theorem dX0_copyEvents_9 : decode cX0_copyEvents 9 = .ok (.getfield 9, 3) := by decide +kernel
theorem dX0_copyEvents_12 : decode cX0_copyEvents 12 = .ok (.iload_n 2, 1) := by decide +kernel
theorem dX0_copyEvents_13 : decode cX0_copyEvents 13 = .ok (.aload_n 1, 1) := by decide +kernel
theorem dX0_copyEvents_14 : decode cX0_copyEvents 14 = .ok (.getfield 9, 3) := by decide +kernel
theorem dX0_copyEvents_17 : decode cX0_copyEvents 17 = .ok (.iload_n 2, 1) := by decide +kernel
theorem dX0_copyEvents_18 : decode cX0_copyEvents 18 = .ok (.caload, 1) := by decide +kernel
theorem dX0_copyEvents_19 : decode cX0_copyEvents 19 = .ok (.castore, 1) := by decide +kernel
theorem dX0_copyEvents_20 : decode cX0_copyEvents 20 = .ok (.aload_n 0, 1) := by decide +kernel
theorem dX0_copyEvents_21 : decode cX0_copyEvents 21 = .ok (.getfield 15, 3) := by decide +kernel
theorem dX0_copyEvents_24 : decode cX0_copyEvents 24 = .ok (.iload_n 2, 1) := by decide +kernel
theorem dX0_copyEvents_25 : decode cX0_copyEvents 25 = .ok (.aload_n 1, 1) := by decide +kernel
theorem dX0_copyEvents_26 : decode cX0_copyEvents 26 = .ok (.getfield 15, 3) := by decide +kernel
theorem dX0_copyEvents_29 : decode cX0_copyEvents 29 = .ok (.iload_n 2, 1) := by decide +kernel
theorem dX0_copyEvents_30 : decode cX0_copyEvents 30 = .ok (.iaload, 1) := by decide +kernel
theorem dX0_copyEvents_31 : decode cX0_copyEvents 31 = .ok (.iastore, 1) := by decide +kernel
theorem dX0_copyEvents_32 : decode cX0_copyEvents 32 = .ok (.iinc 2 1, 3) := by decide +kernel
theorem dX0_copyEvents_35 : decode cX0_copyEvents 35 = .ok (.goto (-33), 3) := by decide +kernel
theorem dX0_copyEvents_38 : decode cX0_copyEvents 38 = .ok (.aload_n 0, 1) := by decide +kernel
theorem dX0_copyEvents_39 : decode cX0_copyEvents 39 = .ok (.aload_n 1, 1) := by decide +kernel
theorem dX0_copyEvents_40 : decode cX0_copyEvents 40 = .ok (.getfield 19, 3) := by decide +kernel
theorem dX0_copyEvents_43 : decode cX0_copyEvents 43 = .ok (.putfield 19, 3) := by decide +kernel
theorem dX0_copyEvents_46 : decode cX0_copyEvents 46 = .ok (.aload_n 0, 1) := by decide +kernel
theorem dX0_copyEvents_47 : decode cX0_copyEvents 47 = .ok (.aload_n 1, 1) := by decide +kernel
theorem dX0_copyEvents_48 : decode cX0_copyEvents 48 = .ok (.getfield 23, 3) := by decide +kernel
theorem dX0_copyEvents_51 : decode cX0_copyEvents 51 = .ok (.putfield 23, 3) := by decide +kernel
theorem dX0_copyEvents_54 : decode cX0_copyEvents 54 = .ok (.return_, 1) := by decide +kernel
theorem dX0_note_0 : decode cX0_note 0 = .ok (.aload_n 0, 1) := by decide +kernel
theorem dX0_note_1 : decode cX0_note 1 = .ok (.getfield 9, 3) := by decide +kernel
theorem dX0_note_4 : decode cX0_note 4 = .ok (.aload_n 0, 1) := by decide +kernel
theorem dX0_note_5 : decode cX0_note 5 = .ok (.getfield 19, 3) := by decide +kernel
theorem dX0_note_8 : decode cX0_note 8 = .ok (.iload_n 1, 1) := by decide +kernel
theorem dX0_note_9 : decode cX0_note 9 = .ok (.castore, 1) := by decide +kernel
theorem dX0_note_10 : decode cX0_note 10 = .ok (.aload_n 0, 1) := by decide +kernel
theorem dX0_note_11 : decode cX0_note 11 = .ok (.getfield 15, 3) := by decide +kernel
theorem dX0_note_14 : decode cX0_note 14 = .ok (.aload_n 0, 1) := by decide +kernel
theorem dX0_note_15 : decode cX0_note 15 = .ok (.getfield 19, 3) := by decide +kernel
theorem dX0_note_18 : decode cX0_note 18 = .ok (.iload_n 2, 1) := by decide +kernel
theorem dX0_note_19 : decode cX0_note 19 = .ok (.iastore, 1) := by decide +kernel
theorem dX0_note_20 : decode cX0_note 20 = .ok (.aload_n 0, 1) := by decide +kernel
theorem dX0_note_21 : decode cX0_note 21 = .ok (.aload_n 0, 1) := by decide +kernel
theorem dX0_note_22 : decode cX0_note 22 = .ok (.getfield 19, 3) := by decide +kernel
theorem dX0_note_25 : decode cX0_note 25 = .ok (.iconst 1, 1) := by decide +kernel
theorem dX0_note_26 : decode cX0_note 26 = .ok (.iadd, 1) := by decide +kernel
theorem dX0_note_27 : decode cX0_note 27 = .ok (.bipush 8, 2) := by decide +kernel
theorem dX0_note_29 : decode cX0_note 29 = .ok (.irem, 1) := by decide +kernel
theorem dX0_note_30 : decode cX0_note 30 = .ok (.putfield 19, 3) := by decide +kernel
theorem dX0_note_33 : decode cX0_note 33 = .ok (.aload_n 0, 1) := by decide +kernel
theorem dX0_note_34 : decode cX0_note 34 = .ok (.aload_n 0, 1) := by decide +kernel
theorem dX0_note_35 : decode cX0_note 35 = .ok (.getfield 23, 3) := by decide +kernel
theorem dX0_note_38 : decode cX0_note 38 = .ok (.iconst 1, 1) := by decide +kernel
theorem dX0_note_39 : decode cX0_note 39 = .ok (.iadd, 1) := by decide +kernel
theorem dX0_note_40 : decode cX0_note 40 = .ok (.bipush 8, 2) := by decide +kernel
theorem dX0_note_42 : decode cX0_note 42 = .ok (.invokestatic 26, 3) := by decide +kernel
theorem dX0_note_45 : decode cX0_note 45 = .ok (.putfield 23, 3) := by decide +kernel
theorem dX0_note_48 : decode cX0_note 48 = .ok (.return_, 1) := by decide +kernel
theorem dX0_placeOf_0 : decode cX0_placeOf 0 = .ok (.aload_n 0, 1) := by decide +kernel
theorem dX0_placeOf_1 : decode cX0_placeOf 1 = .ok (.getfield 19, 3) := by decide +kernel
theorem dX0_placeOf_4 : decode cX0_placeOf 4 = .ok (.iconst 1, 1) := by decide +kernel
theorem dX0_placeOf_5 : decode cX0_placeOf 5 = .ok (.isub, 1) := by decide +kernel
theorem dX0_placeOf_6 : decode cX0_placeOf 6 = .ok (.iload_n 1, 1) := by decide +kernel
theorem dX0_placeOf_7 : decode cX0_placeOf 7 = .ok (.isub, 1) := by decide +kernel
theorem dX0_placeOf_8 : decode cX0_placeOf 8 = .ok (.bipush 8, 2) := by decide +kernel
theorem dX0_placeOf_10 : decode cX0_placeOf 10 = .ok (.invokestatic 32, 3) := by decide +kernel
theorem dX0_placeOf_13 : decode cX0_placeOf 13 = .ok (.ireturn, 1) := by decide +kernel
theorem dX1_init_0 : decode cX1_init 0 = .ok (.aload_n 0, 1) := by decide +kernel
theorem dX1_init_1 : decode cX1_init 1 = .ok (.invokespecial 3, 3) := by decide +kernel
theorem dX1_init_4 : decode cX1_init 4 = .ok (.aload_n 0, 1) := by decide +kernel
theorem dX1_init_5 : decode cX1_init 5 = .ok (.iconst 0, 1) := by decide +kernel
theorem dX1_init_6 : decode cX1_init 6 = .ok (.putfield 9, 3) := by decide +kernel
theorem dX1_init_9 : decode cX1_init 9 = .ok (.aload_n 0, 1) := by decide +kernel
theorem dX1_init_10 : decode cX1_init 10 = .ok (.iconst 0, 1) := by decide +kernel
theorem dX1_init_11 : decode cX1_init 11 = .ok (.putfield 15, 3) := by decide +kernel
theorem dX1_init_14 : decode cX1_init 14 = .ok (.aload_n 0, 1) := by decide +kernel
theorem dX1_init_15 : decode cX1_init 15 = .ok (.bipush 8, 2) := by decide +kernel
theorem dX1_init_17 : decode cX1_init 17 = .ok (.newarray .int, 2) := by decide +kernel
theorem dX1_init_19 : decode cX1_init 19 = .ok (.putfield 18, 3) := by decide +kernel
theorem dX1_init_22 : decode cX1_init 22 = .ok (.aload_n 0, 1) := by decide +kernel
theorem dX1_init_23 : decode cX1_init 23 = .ok (.bipush 8, 2) := by decide +kernel
theorem dX1_init_25 : decode cX1_init 25 = .ok (.newarray .int, 2) := by decide +kernel
theorem dX1_init_27 : decode cX1_init 27 = .ok (.putfield 22, 3) := by decide +kernel
theorem dX1_init_30 : decode cX1_init 30 = .ok (.aload_n 0, 1) := by decide +kernel
theorem dX1_init_31 : decode cX1_init 31 = .ok (.bipush 8, 2) := by decide +kernel
theorem dX1_init_33 : decode cX1_init 33 = .ok (.newarray .boolean, 2) := by decide +kernel
theorem dX1_init_35 : decode cX1_init 35 = .ok (.putfield 25, 3) := by decide +kernel
theorem dX1_init_38 : decode cX1_init 38 = .ok (.aload_n 0, 1) := by decide +kernel
theorem dX1_init_39 : decode cX1_init 39 = .ok (.bipush 8, 2) := by decide +kernel
theorem dX1_init_41 : decode cX1_init 41 = .ok (.newarray .int, 2) := by decide +kernel
theorem dX1_init_43 : decode cX1_init 43 = .ok (.putfield 29, 3) := by decide +kernel
theorem dX1_init_46 : decode cX1_init 46 = .ok (.aload_n 0, 1) := by decide +kernel
theorem dX1_init_47 : decode cX1_init 47 = .ok (.bipush 8, 2) := by decide +kernel
theorem dX1_init_49 : decode cX1_init 49 = .ok (.newarray .int, 2) := by decide +kernel
theorem dX1_init_51 : decode cX1_init 51 = .ok (.putfield 32, 3) := by decide +kernel
theorem dX1_init_54 : decode cX1_init 54 = .ok (.aload_n 0, 1) := by decide +kernel
theorem dX1_init_55 : decode cX1_init 55 = .ok (.iconst 3, 1) := by decide +kernel
theorem dX1_init_56 : decode cX1_init 56 = .ok (.newarray .int, 2) := by decide +kernel
theorem dX1_init_58 : decode cX1_init 58 = .ok (.putfield 35, 3) := by decide +kernel
theorem dX1_init_61 : decode cX1_init 61 = .ok (.return_, 1) := by decide +kernel
theorem dX1_copyFleet_0 : decode cX1_copyFleet 0 = .ok (.aload_n 0, 1) := by decide +kernel
theorem dX1_copyFleet_1 : decode cX1_copyFleet 1 = .ok (.aload_n 1, 1) := by decide +kernel
theorem dX1_copyFleet_2 : decode cX1_copyFleet 2 = .ok (.getfield 9, 3) := by decide +kernel
theorem dX1_copyFleet_5 : decode cX1_copyFleet 5 = .ok (.putfield 9, 3) := by decide +kernel
theorem dX1_copyFleet_8 : decode cX1_copyFleet 8 = .ok (.aload_n 0, 1) := by decide +kernel
theorem dX1_copyFleet_9 : decode cX1_copyFleet 9 = .ok (.aload_n 1, 1) := by decide +kernel
theorem dX1_copyFleet_10 : decode cX1_copyFleet 10 = .ok (.getfield 15, 3) := by decide +kernel
theorem dX1_copyFleet_13 : decode cX1_copyFleet 13 = .ok (.putfield 15, 3) := by decide +kernel
theorem dX1_copyFleet_16 : decode cX1_copyFleet 16 = .ok (.iconst 0, 1) := by decide +kernel
theorem dX1_copyFleet_17 : decode cX1_copyFleet 17 = .ok (.istore_n 2, 1) := by decide +kernel
theorem dX1_copyFleet_18 : decode cX1_copyFleet 18 = .ok (.iload_n 2, 1) := by decide +kernel
theorem dX1_copyFleet_19 : decode cX1_copyFleet 19 = .ok (.bipush 8, 2) := by decide +kernel
theorem dX1_copyFleet_21 : decode cX1_copyFleet 21 = .ok (.if_icmp .ge 16, 3) := by decide +kernel
theorem dX1_copyFleet_24 : decode cX1_copyFleet 24 = .ok (.aload_n 0, 1) := by decide +kernel
theorem dX1_copyFleet_25 : decode cX1_copyFleet 25 = .ok (.aload_n 1, 1) := by decide +kernel
theorem dX1_copyFleet_26 : decode cX1_copyFleet 26 = .ok (.iload_n 2, 1) := by decide +kernel
theorem dX1_copyFleet_27 : decode cX1_copyFleet 27 = .ok (.iload_n 2, 1) := by decide +kernel
theorem dX1_copyFleet_28 : decode cX1_copyFleet 28 = .ok (.invokevirtual 38, 3) := by decide +kernel
theorem dX1_copyFleet_31 : decode cX1_copyFleet 31 = .ok (.iinc 2 1, 3) := by decide +kernel
theorem dX1_copyFleet_34 : decode cX1_copyFleet 34 = .ok (.goto (-16), 3) := by decide +kernel
theorem dX1_copyFleet_37 : decode cX1_copyFleet 37 = .ok (.iconst 0, 1) := by decide +kernel
theorem dX1_copyFleet_38 : decode cX1_copyFleet 38 = .ok (.istore_n 2, 1) := by decide +kernel
theorem dX1_copyFleet_39 : decode cX1_copyFleet 39 = .ok (.iload_n 2, 1) := by decide +kernel
theorem dX1_copyFleet_40 : decode cX1_copyFleet 40 = .ok (.iconst 3, 1) := by decide +kernel
theorem dX1_copyFleet_41 : decode cX1_copyFleet 41 = .ok (.if_icmp .ge 21, 3) := by decide +kernel
theorem dX1_copyFleet_44 : decode cX1_copyFleet 44 = .ok (.aload_n 0, 1) := by decide +kernel
theorem dX1_copyFleet_45 : decode cX1_copyFleet 45 = .ok (.getfield 35, 3) := by decide +kernel
theorem dX1_copyFleet_48 : decode cX1_copyFleet 48 = .ok (.iload_n 2, 1) := by decide +kernel
theorem dX1_copyFleet_49 : decode cX1_copyFleet 49 = .ok (.aload_n 1, 1) := by decide +kernel
theorem dX1_copyFleet_50 : decode cX1_copyFleet 50 = .ok (.getfield 35, 3) := by decide +kernel
theorem dX1_copyFleet_53 : decode cX1_copyFleet 53 = .ok (.iload_n 2, 1) := by decide +kernel
theorem dX1_copyFleet_54 : decode cX1_copyFleet 54 = .ok (.iaload, 1) := by decide +kernel
theorem dX1_copyFleet_55 : decode cX1_copyFleet 55 = .ok (.iastore, 1) := by decide +kernel
theorem dX1_copyFleet_56 : decode cX1_copyFleet 56 = .ok (.iinc 2 1, 3) := by decide +kernel
theorem dX1_copyFleet_59 : decode cX1_copyFleet 59 = .ok (.goto (-20), 3) := by decide +kernel
theorem dX1_copyFleet_62 : decode cX1_copyFleet 62 = .ok (.return_, 1) := by decide +kernel
theorem dX1_put_0 : decode cX1_put 0 = .ok (.aload_n 0, 1) := by decide +kernel
theorem dX1_put_1 : decode cX1_put 1 = .ok (.getfield 9, 3) := by decide +kernel
theorem dX1_put_4 : decode cX1_put 4 = .ok (.bipush 8, 2) := by decide +kernel
theorem dX1_put_6 : decode cX1_put 6 = .ok (.if_icmp .lt 5, 3) := by decide +kernel
theorem dX1_put_9 : decode cX1_put 9 = .ok (.iconst (-1), 1) := by decide +kernel
theorem dX1_put_10 : decode cX1_put 10 = .ok (.ireturn, 1) := by decide +kernel
theorem dX1_put_11 : decode cX1_put 11 = .ok (.aload_n 0, 1) := by decide +kernel
theorem dX1_put_12 : decode cX1_put 12 = .ok (.getfield 18, 3) := by decide +kernel
theorem dX1_put_15 : decode cX1_put 15 = .ok (.aload_n 0, 1) := by decide +kernel
theorem dX1_put_16 : decode cX1_put 16 = .ok (.getfield 9, 3) := by decide +kernel
theorem dX1_put_19 : decode cX1_put 19 = .ok (.iload_n 1, 1) := by decide +kernel
theorem dX1_put_20 : decode cX1_put 20 = .ok (.iastore, 1) := by decide +kernel
theorem dX1_put_21 : decode cX1_put 21 = .ok (.aload_n 0, 1) := by decide +kernel
theorem dX1_put_22 : decode cX1_put 22 = .ok (.getfield 22, 3) := by decide +kernel
theorem dX1_put_25 : decode cX1_put 25 = .ok (.aload_n 0, 1) := by decide +kernel
theorem dX1_put_26 : decode cX1_put 26 = .ok (.getfield 9, 3) := by decide +kernel
theorem dX1_put_29 : decode cX1_put 29 = .ok (.iload_n 2, 1) := by decide +kernel
theorem dX1_put_30 : decode cX1_put 30 = .ok (.iastore, 1) := by decide +kernel
theorem dX1_put_31 : decode cX1_put 31 = .ok (.aload_n 0, 1) := by decide +kernel
theorem dX1_put_32 : decode cX1_put 32 = .ok (.getfield 25, 3) := by decide +kernel
theorem dX1_put_35 : decode cX1_put 35 = .ok (.aload_n 0, 1) := by decide +kernel
theorem dX1_put_36 : decode cX1_put 36 = .ok (.getfield 9, 3) := by decide +kernel
theorem dX1_put_39 : decode cX1_put 39 = .ok (.iload_n 3, 1) := by decide +kernel
theorem dX1_put_40 : decode cX1_put 40 = .ok (.bastore, 1) := by decide +kernel
theorem dX1_put_41 : decode cX1_put 41 = .ok (.aload_n 0, 1) := by decide +kernel
theorem dX1_put_42 : decode cX1_put 42 = .ok (.getfield 29, 3) := by decide +kernel
theorem dX1_put_45 : decode cX1_put 45 = .ok (.aload_n 0, 1) := by decide +kernel
theorem dX1_put_46 : decode cX1_put 46 = .ok (.getfield 9, 3) := by decide +kernel
theorem dX1_put_49 : decode cX1_put 49 = .ok (.iload_n 3, 1) := by decide +kernel
theorem dX1_put_50 : decode cX1_put 50 = .ok (.ifCond .eq 7, 3) := by decide +kernel
theorem dX1_put_53 : decode cX1_put 53 = .ok (.iconst 0, 1) := by decide +kernel
theorem dX1_put_54 : decode cX1_put 54 = .ok (.goto 4, 3) := by decide +kernel
theorem dX1_put_57 : decode cX1_put 57 = .ok (.iconst 4, 1) := by decide +kernel
theorem dX1_put_58 : decode cX1_put 58 = .ok (.iastore, 1) := by decide +kernel
theorem dX1_put_59 : decode cX1_put 59 = .ok (.aload_n 0, 1) := by decide +kernel
theorem dX1_put_60 : decode cX1_put 60 = .ok (.getfield 32, 3) := by decide +kernel
theorem dX1_put_63 : decode cX1_put 63 = .ok (.aload_n 0, 1) := by decide +kernel
theorem dX1_put_64 : decode cX1_put 64 = .ok (.getfield 9, 3) := by decide +kernel
theorem dX1_put_67 : decode cX1_put 67 = .ok (.aload_n 0, 1) := by decide +kernel
theorem dX1_put_68 : decode cX1_put 68 = .ok (.getfield 15, 3) := by decide +kernel
theorem dX1_put_71 : decode cX1_put 71 = .ok (.iastore, 1) := by decide +kernel
theorem dX1_put_72 : decode cX1_put 72 = .ok (.aload_n 0, 1) := by decide +kernel
theorem dX1_put_73 : decode cX1_put 73 = .ok (.dup, 1) := by decide +kernel
theorem dX1_put_74 : decode cX1_put 74 = .ok (.getfield 15, 3) := by decide +kernel
theorem dX1_put_77 : decode cX1_put 77 = .ok (.iconst 1, 1) := by decide +kernel
theorem dX1_put_78 : decode cX1_put 78 = .ok (.iadd, 1) := by decide +kernel
theorem dX1_put_79 : decode cX1_put 79 = .ok (.putfield 15, 3) := by decide +kernel
theorem dX1_put_82 : decode cX1_put 82 = .ok (.aload_n 0, 1) := by decide +kernel
theorem dX1_put_83 : decode cX1_put 83 = .ok (.dup, 1) := by decide +kernel
theorem dX1_put_84 : decode cX1_put 84 = .ok (.getfield 9, 3) := by decide +kernel
theorem dX1_put_87 : decode cX1_put 87 = .ok (.iconst 1, 1) := by decide +kernel
theorem dX1_put_88 : decode cX1_put 88 = .ok (.iadd, 1) := by decide +kernel
theorem dX1_put_89 : decode cX1_put 89 = .ok (.putfield 9, 3) := by decide +kernel
theorem dX1_put_92 : decode cX1_put 92 = .ok (.aload_n 0, 1) := by decide +kernel
theorem dX1_put_93 : decode cX1_put 93 = .ok (.getfield 9, 3) := by decide +kernel
theorem dX1_put_96 : decode cX1_put 96 = .ok (.iconst 1, 1) := by decide +kernel
theorem dX1_put_97 : decode cX1_put 97 = .ok (.isub, 1) := by decide +kernel
theorem dX1_put_98 : decode cX1_put 98 = .ok (.ireturn, 1) := by decide +kernel
theorem dX1_signOf_0 : decode cX1_signOf 0 = .ok (.getstatic 42, 3) := by decide +kernel
theorem dX1_signOf_3 : decode cX1_signOf 3 = .ok (.aload_n 0, 1) := by decide +kernel
theorem dX1_signOf_4 : decode cX1_signOf 4 = .ok (.getfield 18, 3) := by decide +kernel
theorem dX1_signOf_7 : decode cX1_signOf 7 = .ok (.iload_n 1, 1) := by decide +kernel
theorem dX1_signOf_8 : decode cX1_signOf 8 = .ok (.iaload, 1) := by decide +kernel
theorem dX1_signOf_9 : decode cX1_signOf 9 = .ok (.caload, 1) := by decide +kernel
theorem dX1_signOf_10 : decode cX1_signOf 10 = .ok (.ireturn, 1) := by decide +kernel
theorem dX1_countIn_0 : decode cX1_countIn 0 = .ok (.iconst 0, 1) := by decide +kernel
theorem dX1_countIn_1 : decode cX1_countIn 1 = .ok (.istore_n 2, 1) := by decide +kernel
theorem dX1_countIn_2 : decode cX1_countIn 2 = .ok (.iconst 0, 1) := by decide +kernel
theorem dX1_countIn_3 : decode cX1_countIn 3 = .ok (.istore_n 3, 1) := by decide +kernel
theorem dX1_countIn_4 : decode cX1_countIn 4 = .ok (.iload_n 3, 1) := by decide +kernel
theorem dX1_countIn_5 : decode cX1_countIn 5 = .ok (.aload_n 0, 1) := by decide +kernel
theorem dX1_countIn_6 : decode cX1_countIn 6 = .ok (.getfield 9, 3) := by decide +kernel
theorem dX1_countIn_9 : decode cX1_countIn 9 = .ok (.if_icmp .ge 27, 3) := by decide +kernel
theorem dX1_countIn_12 : decode cX1_countIn 12 = .ok (.iload_n 2, 1) := by decide +kernel
theorem dX1_countIn_13 : decode cX1_countIn 13 = .ok (.aload_n 0, 1) := by decide +kernel
theorem dX1_countIn_14 : decode cX1_countIn 14 = .ok (.getfield 29, 3) := by decide +kernel
theorem dX1_countIn_17 : decode cX1_countIn 17 = .ok (.iload_n 3, 1) := by decide +kernel
theorem dX1_countIn_18 : decode cX1_countIn 18 = .ok (.iaload, 1) := by decide +kernel
theorem dX1_countIn_19 : decode cX1_countIn 19 = .ok (.iload_n 1, 1) := by decide +kernel
theorem dX1_countIn_20 : decode cX1_countIn 20 = .ok (.if_icmp .ne 7, 3) := by decide +kernel
theorem dX1_countIn_23 : decode cX1_countIn 23 = .ok (.iconst 1, 1) := by decide +kernel
theorem dX1_countIn_24 : decode cX1_countIn 24 = .ok (.goto 4, 3) := by decide +kernel
theorem dX1_countIn_27 : decode cX1_countIn 27 = .ok (.iconst 0, 1) := by decide +kernel
theorem dX1_countIn_28 : decode cX1_countIn 28 = .ok (.iadd, 1) := by decide +kernel
theorem dX1_countIn_29 : decode cX1_countIn 29 = .ok (.istore_n 2, 1) := by decide +kernel
theorem dX1_countIn_30 : decode cX1_countIn 30 = .ok (.iinc 3 1, 3) := by decide +kernel
theorem dX1_countIn_33 : decode cX1_countIn 33 = .ok (.goto (-29), 3) := by decide +kernel
theorem dX1_countIn_36 : decode cX1_countIn 36 = .ok (.iload_n 2, 1) := by decide +kernel
theorem dX1_countIn_37 : decode cX1_countIn 37 = .ok (.ireturn, 1) := by decide +kernel
theorem dX1_hasRoom_0 : decode cX1_hasRoom 0 = .ok (.iload_n 1, 1) := by decide +kernel
theorem dX1_hasRoom_1 : decode cX1_hasRoom 1 = .ok (.ifCond .eq 17, 3) := by decide +kernel
theorem dX1_hasRoom_4 : decode cX1_hasRoom 4 = .ok (.iload_n 1, 1) := by decide +kernel
theorem dX1_hasRoom_5 : decode cX1_hasRoom 5 = .ok (.iconst 4, 1) := by decide +kernel
theorem dX1_hasRoom_6 : decode cX1_hasRoom 6 = .ok (.if_icmp .eq 12, 3) := by decide +kernel
theorem dX1_hasRoom_9 : decode cX1_hasRoom 9 = .ok (.aload_n 0, 1) := by decide +kernel
theorem dX1_hasRoom_10 : decode cX1_hasRoom 10 = .ok (.iload_n 1, 1) := by decide +kernel
theorem dX1_hasRoom_11 : decode cX1_hasRoom 11 = .ok (.invokevirtual 46, 3) := by decide +kernel
theorem dX1_hasRoom_14 : decode cX1_hasRoom 14 = .ok (.iconst 2, 1) := by decide +kernel
theorem dX1_hasRoom_15 : decode cX1_hasRoom 15 = .ok (.if_icmp .ge 7, 3) := by decide +kernel
theorem dX1_hasRoom_18 : decode cX1_hasRoom 18 = .ok (.iconst 1, 1) := by decide +kernel
theorem dX1_hasRoom_19 : decode cX1_hasRoom 19 = .ok (.goto 4, 3) := by decide +kernel
theorem dX1_hasRoom_22 : decode cX1_hasRoom 22 = .ok (.iconst 0, 1) := by decide +kernel
theorem dX1_hasRoom_23 : decode cX1_hasRoom 23 = .ok (.ireturn, 1) := by decide +kernel
theorem dX1_isWithinRoom_0 : decode cX1_isWithinRoom 0 = .ok (.iconst 1, 1) := by decide +kernel
theorem dX1_isWithinRoom_1 : decode cX1_isWithinRoom 1 = .ok (.istore_n 1, 1) := by decide +kernel
theorem dX1_isWithinRoom_2 : decode cX1_isWithinRoom 2 = .ok (.iload_n 1, 1) := by decide +kernel
theorem dX1_isWithinRoom_3 : decode cX1_isWithinRoom 3 = .ok (.iconst 4, 1) := by decide +kernel
theorem dX1_isWithinRoom_4 : decode cX1_isWithinRoom 4 = .ok (.if_icmp .ge 20, 3) := by decide +kernel
theorem dX1_isWithinRoom_7 : decode cX1_isWithinRoom 7 = .ok (.aload_n 0, 1) := by decide +kernel
theorem dX1_isWithinRoom_8 : decode cX1_isWithinRoom 8 = .ok (.iload_n 1, 1) := by decide +kernel
theorem dX1_isWithinRoom_9 : decode cX1_isWithinRoom 9 = .ok (.invokevirtual 46, 3) := by decide +kernel
theorem dX1_isWithinRoom_12 : decode cX1_isWithinRoom 12 = .ok (.iconst 2, 1) := by decide +kernel
theorem dX1_isWithinRoom_13 : decode cX1_isWithinRoom 13 = .ok (.if_icmp .le 5, 3) := by decide +kernel
theorem dX1_isWithinRoom_16 : decode cX1_isWithinRoom 16 = .ok (.iconst 0, 1) := by decide +kernel
theorem dX1_isWithinRoom_17 : decode cX1_isWithinRoom 17 = .ok (.ireturn, 1) := by decide +kernel
theorem dX1_isWithinRoom_18 : decode cX1_isWithinRoom 18 = .ok (.iinc 1 1, 3) := by decide +kernel
theorem dX1_isWithinRoom_21 : decode cX1_isWithinRoom 21 = .ok (.goto (-19), 3) := by decide +kernel
theorem dX1_isWithinRoom_24 : decode cX1_isWithinRoom 24 = .ok (.iconst 1, 1) := by decide +kernel
theorem dX1_isWithinRoom_25 : decode cX1_isWithinRoom 25 = .ok (.ireturn, 1) := by decide +kernel
theorem dX1_rankOfBoat_0 : decode cX1_rankOfBoat 0 = .ok (.iconst 0, 1) := by decide +kernel
theorem dX1_rankOfBoat_1 : decode cX1_rankOfBoat 1 = .ok (.istore_n 2, 1) := by decide +kernel
theorem dX1_rankOfBoat_2 : decode cX1_rankOfBoat 2 = .ok (.iconst 0, 1) := by decide +kernel
theorem dX1_rankOfBoat_3 : decode cX1_rankOfBoat 3 = .ok (.istore_n 3, 1) := by decide +kernel
theorem dX1_rankOfBoat_4 : decode cX1_rankOfBoat 4 = .ok (.iload_n 3, 1) := by decide +kernel
theorem dX1_rankOfBoat_5 : decode cX1_rankOfBoat 5 = .ok (.aload_n 0, 1) := by decide +kernel
theorem dX1_rankOfBoat_6 : decode cX1_rankOfBoat 6 = .ok (.getfield 9, 3) := by decide +kernel
theorem dX1_rankOfBoat_9 : decode cX1_rankOfBoat 9 = .ok (.if_icmp .ge 59, 3) := by decide +kernel
theorem dX1_rankOfBoat_12 : decode cX1_rankOfBoat 12 = .ok (.aload_n 0, 1) := by decide +kernel
theorem dX1_rankOfBoat_13 : decode cX1_rankOfBoat 13 = .ok (.getfield 18, 3) := by decide +kernel
theorem dX1_rankOfBoat_16 : decode cX1_rankOfBoat 16 = .ok (.iload_n 3, 1) := by decide +kernel
theorem dX1_rankOfBoat_17 : decode cX1_rankOfBoat 17 = .ok (.iaload, 1) := by decide +kernel
theorem dX1_rankOfBoat_18 : decode cX1_rankOfBoat 18 = .ok (.aload_n 0, 1) := by decide +kernel
theorem dX1_rankOfBoat_19 : decode cX1_rankOfBoat 19 = .ok (.getfield 18, 3) := by decide +kernel
theorem dX1_rankOfBoat_22 : decode cX1_rankOfBoat 22 = .ok (.iload_n 1, 1) := by decide +kernel
theorem dX1_rankOfBoat_23 : decode cX1_rankOfBoat 23 = .ok (.iaload, 1) := by decide +kernel
theorem dX1_rankOfBoat_24 : decode cX1_rankOfBoat 24 = .ok (.if_icmp .ne 7, 3) := by decide +kernel
theorem dX1_rankOfBoat_27 : decode cX1_rankOfBoat 27 = .ok (.iconst 1, 1) := by decide +kernel
theorem dX1_rankOfBoat_28 : decode cX1_rankOfBoat 28 = .ok (.goto 4, 3) := by decide +kernel
theorem dX1_rankOfBoat_31 : decode cX1_rankOfBoat 31 = .ok (.iconst 0, 1) := by decide +kernel
theorem dX1_rankOfBoat_32 : decode cX1_rankOfBoat 32 = .ok (.istore 4, 2) := by decide +kernel
theorem dX1_rankOfBoat_34 : decode cX1_rankOfBoat 34 = .ok (.aload_n 0, 1) := by decide +kernel
theorem dX1_rankOfBoat_35 : decode cX1_rankOfBoat 35 = .ok (.getfield 18, 3) := by decide +kernel
theorem dX1_rankOfBoat_38 : decode cX1_rankOfBoat 38 = .ok (.iload_n 3, 1) := by decide +kernel
theorem dX1_rankOfBoat_39 : decode cX1_rankOfBoat 39 = .ok (.iaload, 1) := by decide +kernel
theorem dX1_rankOfBoat_40 : decode cX1_rankOfBoat 40 = .ok (.aload_n 0, 1) := by decide +kernel
theorem dX1_rankOfBoat_41 : decode cX1_rankOfBoat 41 = .ok (.getfield 18, 3) := by decide +kernel
theorem dX1_rankOfBoat_44 : decode cX1_rankOfBoat 44 = .ok (.iload_n 1, 1) := by decide +kernel
theorem dX1_rankOfBoat_45 : decode cX1_rankOfBoat 45 = .ok (.iaload, 1) := by decide +kernel
theorem dX1_rankOfBoat_46 : decode cX1_rankOfBoat 46 = .ok (.if_icmp .lt 13, 3) := by decide +kernel
theorem dX1_rankOfBoat_49 : decode cX1_rankOfBoat 49 = .ok (.iload 4, 2) := by decide +kernel
theorem dX1_rankOfBoat_51 : decode cX1_rankOfBoat 51 = .ok (.ifCond .eq 11, 3) := by decide +kernel
theorem dX1_rankOfBoat_54 : decode cX1_rankOfBoat 54 = .ok (.iload_n 3, 1) := by decide +kernel
theorem dX1_rankOfBoat_55 : decode cX1_rankOfBoat 55 = .ok (.iload_n 1, 1) := by decide +kernel
theorem dX1_rankOfBoat_56 : decode cX1_rankOfBoat 56 = .ok (.if_icmp .ge 6, 3) := by decide +kernel
theorem dX1_rankOfBoat_59 : decode cX1_rankOfBoat 59 = .ok (.iinc 2 1, 3) := by decide +kernel
theorem dX1_rankOfBoat_62 : decode cX1_rankOfBoat 62 = .ok (.iinc 3 1, 3) := by decide +kernel
theorem dX1_rankOfBoat_65 : decode cX1_rankOfBoat 65 = .ok (.goto (-61), 3) := by decide +kernel
theorem dX1_rankOfBoat_68 : decode cX1_rankOfBoat 68 = .ok (.iload_n 2, 1) := by decide +kernel
theorem dX1_rankOfBoat_69 : decode cX1_rankOfBoat 69 = .ok (.ireturn, 1) := by decide +kernel
theorem dX1_hasSerial_0 : decode cX1_hasSerial 0 = .ok (.iconst 0, 1) := by decide +kernel
theorem dX1_hasSerial_1 : decode cX1_hasSerial 1 = .ok (.istore_n 2, 1) := by decide +kernel
theorem dX1_hasSerial_2 : decode cX1_hasSerial 2 = .ok (.iload_n 2, 1) := by decide +kernel
theorem dX1_hasSerial_3 : decode cX1_hasSerial 3 = .ok (.aload_n 0, 1) := by decide +kernel
theorem dX1_hasSerial_4 : decode cX1_hasSerial 4 = .ok (.getfield 9, 3) := by decide +kernel
theorem dX1_hasSerial_7 : decode cX1_hasSerial 7 = .ok (.if_icmp .ge 21, 3) := by decide +kernel
theorem dX1_hasSerial_10 : decode cX1_hasSerial 10 = .ok (.aload_n 0, 1) := by decide +kernel
theorem dX1_hasSerial_11 : decode cX1_hasSerial 11 = .ok (.getfield 32, 3) := by decide +kernel
theorem dX1_hasSerial_14 : decode cX1_hasSerial 14 = .ok (.iload_n 2, 1) := by decide +kernel
theorem dX1_hasSerial_15 : decode cX1_hasSerial 15 = .ok (.iaload, 1) := by decide +kernel
theorem dX1_hasSerial_16 : decode cX1_hasSerial 16 = .ok (.iload_n 1, 1) := by decide +kernel
theorem dX1_hasSerial_17 : decode cX1_hasSerial 17 = .ok (.if_icmp .ne 5, 3) := by decide +kernel
theorem dX1_hasSerial_20 : decode cX1_hasSerial 20 = .ok (.iconst 1, 1) := by decide +kernel
theorem dX1_hasSerial_21 : decode cX1_hasSerial 21 = .ok (.ireturn, 1) := by decide +kernel
theorem dX1_hasSerial_22 : decode cX1_hasSerial 22 = .ok (.iinc 2 1, 3) := by decide +kernel
theorem dX1_hasSerial_25 : decode cX1_hasSerial 25 = .ok (.goto (-23), 3) := by decide +kernel
theorem dX1_hasSerial_28 : decode cX1_hasSerial 28 = .ok (.iconst 0, 1) := by decide +kernel
theorem dX1_hasSerial_29 : decode cX1_hasSerial 29 = .ok (.ireturn, 1) := by decide +kernel
theorem dX1_gateAhead_0 : decode cX1_gateAhead 0 = .ok (.aload_n 0, 1) := by decide +kernel
theorem dX1_gateAhead_1 : decode cX1_gateAhead 1 = .ok (.getfield 25, 3) := by decide +kernel
theorem dX1_gateAhead_4 : decode cX1_gateAhead 4 = .ok (.iload_n 1, 1) := by decide +kernel
theorem dX1_gateAhead_5 : decode cX1_gateAhead 5 = .ok (.baload, 1) := by decide +kernel
theorem dX1_gateAhead_6 : decode cX1_gateAhead 6 = .ok (.ifCond .eq 12, 3) := by decide +kernel
theorem dX1_gateAhead_9 : decode cX1_gateAhead 9 = .ok (.aload_n 0, 1) := by decide +kernel
theorem dX1_gateAhead_10 : decode cX1_gateAhead 10 = .ok (.getfield 29, 3) := by decide +kernel
theorem dX1_gateAhead_13 : decode cX1_gateAhead 13 = .ok (.iload_n 1, 1) := by decide +kernel
theorem dX1_gateAhead_14 : decode cX1_gateAhead 14 = .ok (.iaload, 1) := by decide +kernel
theorem dX1_gateAhead_15 : decode cX1_gateAhead 15 = .ok (.goto 11, 3) := by decide +kernel
theorem dX1_gateAhead_18 : decode cX1_gateAhead 18 = .ok (.aload_n 0, 1) := by decide +kernel
theorem dX1_gateAhead_19 : decode cX1_gateAhead 19 = .ok (.getfield 29, 3) := by decide +kernel
theorem dX1_gateAhead_22 : decode cX1_gateAhead 22 = .ok (.iload_n 1, 1) := by decide +kernel
theorem dX1_gateAhead_23 : decode cX1_gateAhead 23 = .ok (.iaload, 1) := by decide +kernel
theorem dX1_gateAhead_24 : decode cX1_gateAhead 24 = .ok (.iconst 1, 1) := by decide +kernel
theorem dX1_gateAhead_25 : decode cX1_gateAhead 25 = .ok (.isub, 1) := by decide +kernel
theorem dX1_gateAhead_26 : decode cX1_gateAhead 26 = .ok (.ireturn, 1) := by decide +kernel
theorem dX1_basinAhead_0 : decode cX1_basinAhead 0 = .ok (.aload_n 0, 1) := by decide +kernel
theorem dX1_basinAhead_1 : decode cX1_basinAhead 1 = .ok (.getfield 25, 3) := by decide +kernel
theorem dX1_basinAhead_4 : decode cX1_basinAhead 4 = .ok (.iload_n 1, 1) := by decide +kernel
theorem dX1_basinAhead_5 : decode cX1_basinAhead 5 = .ok (.baload, 1) := by decide +kernel
theorem dX1_basinAhead_6 : decode cX1_basinAhead 6 = .ok (.ifCond .eq 14, 3) := by decide +kernel
theorem dX1_basinAhead_9 : decode cX1_basinAhead 9 = .ok (.aload_n 0, 1) := by decide +kernel
theorem dX1_basinAhead_10 : decode cX1_basinAhead 10 = .ok (.getfield 29, 3) := by decide +kernel
theorem dX1_basinAhead_13 : decode cX1_basinAhead 13 = .ok (.iload_n 1, 1) := by decide +kernel
theorem dX1_basinAhead_14 : decode cX1_basinAhead 14 = .ok (.iaload, 1) := by decide +kernel
theorem dX1_basinAhead_15 : decode cX1_basinAhead 15 = .ok (.iconst 1, 1) := by decide +kernel
theorem dX1_basinAhead_16 : decode cX1_basinAhead 16 = .ok (.iadd, 1) := by decide +kernel
theorem dX1_basinAhead_17 : decode cX1_basinAhead 17 = .ok (.goto 11, 3) := by decide +kernel
theorem dX1_basinAhead_20 : decode cX1_basinAhead 20 = .ok (.aload_n 0, 1) := by decide +kernel
theorem dX1_basinAhead_21 : decode cX1_basinAhead 21 = .ok (.getfield 29, 3) := by decide +kernel
theorem dX1_basinAhead_24 : decode cX1_basinAhead 24 = .ok (.iload_n 1, 1) := by decide +kernel
theorem dX1_basinAhead_25 : decode cX1_basinAhead 25 = .ok (.iaload, 1) := by decide +kernel
theorem dX1_basinAhead_26 : decode cX1_basinAhead 26 = .ok (.iconst 1, 1) := by decide +kernel
theorem dX1_basinAhead_27 : decode cX1_basinAhead 27 = .ok (.isub, 1) := by decide +kernel
theorem dX1_basinAhead_28 : decode cX1_basinAhead 28 = .ok (.ireturn, 1) := by decide +kernel
theorem dX1_hasArrived_0 : decode cX1_hasArrived 0 = .ok (.aload_n 0, 1) := by decide +kernel
theorem dX1_hasArrived_1 : decode cX1_hasArrived 1 = .ok (.getfield 29, 3) := by decide +kernel
theorem dX1_hasArrived_4 : decode cX1_hasArrived 4 = .ok (.iload_n 1, 1) := by decide +kernel
theorem dX1_hasArrived_5 : decode cX1_hasArrived 5 = .ok (.iaload, 1) := by decide +kernel
theorem dX1_hasArrived_6 : decode cX1_hasArrived 6 = .ok (.aload_n 0, 1) := by decide +kernel
theorem dX1_hasArrived_7 : decode cX1_hasArrived 7 = .ok (.getfield 25, 3) := by decide +kernel
theorem dX1_hasArrived_10 : decode cX1_hasArrived 10 = .ok (.iload_n 1, 1) := by decide +kernel
theorem dX1_hasArrived_11 : decode cX1_hasArrived 11 = .ok (.baload, 1) := by decide +kernel
theorem dX1_hasArrived_12 : decode cX1_hasArrived 12 = .ok (.ifCond .eq 7, 3) := by decide +kernel
theorem dX1_hasArrived_15 : decode cX1_hasArrived 15 = .ok (.iconst 4, 1) := by decide +kernel
theorem dX1_hasArrived_16 : decode cX1_hasArrived 16 = .ok (.goto 4, 3) := by decide +kernel
theorem dX1_hasArrived_19 : decode cX1_hasArrived 19 = .ok (.iconst 0, 1) := by decide +kernel
theorem dX1_hasArrived_20 : decode cX1_hasArrived 20 = .ok (.if_icmp .ne 7, 3) := by decide +kernel
theorem dX1_hasArrived_23 : decode cX1_hasArrived 23 = .ok (.iconst 1, 1) := by decide +kernel
theorem dX1_hasArrived_24 : decode cX1_hasArrived 24 = .ok (.goto 4, 3) := by decide +kernel
theorem dX1_hasArrived_27 : decode cX1_hasArrived 27 = .ok (.iconst 0, 1) := by decide +kernel
theorem dX1_hasArrived_28 : decode cX1_hasArrived 28 = .ok (.ireturn, 1) := by decide +kernel
theorem dX1_removeArrived_0 : decode cX1_removeArrived 0 = .ok (.iconst 0, 1) := by decide +kernel
theorem dX1_removeArrived_1 : decode cX1_removeArrived 1 = .ok (.istore_n 1, 1) := by decide +kernel
theorem dX1_removeArrived_2 : decode cX1_removeArrived 2 = .ok (.iconst 0, 1) := by decide +kernel
theorem dX1_removeArrived_3 : decode cX1_removeArrived 3 = .ok (.istore_n 2, 1) := by decide +kernel
theorem dX1_removeArrived_4 : decode cX1_removeArrived 4 = .ok (.iload_n 2, 1) := by decide +kernel
theorem dX1_removeArrived_5 : decode cX1_removeArrived 5 = .ok (.aload_n 0, 1) := by decide +kernel
theorem dX1_removeArrived_6 : decode cX1_removeArrived 6 = .ok (.getfield 9, 3) := by decide +kernel
theorem dX1_removeArrived_9 : decode cX1_removeArrived 9 = .ok (.if_icmp .ge 27, 3) := by decide +kernel
theorem dX1_removeArrived_12 : decode cX1_removeArrived 12 = .ok (.aload_n 0, 1) := by decide +kernel
theorem dX1_removeArrived_13 : decode cX1_removeArrived 13 = .ok (.iload_n 2, 1) := by decide +kernel
theorem dX1_removeArrived_14 : decode cX1_removeArrived 14 = .ok (.invokevirtual 50, 3) := by decide +kernel
theorem dX1_removeArrived_17 : decode cX1_removeArrived 17 = .ok (.ifCond .ne 13, 3) := by decide +kernel
theorem dX1_removeArrived_20 : decode cX1_removeArrived 20 = .ok (.aload_n 0, 1) := by decide +kernel
theorem dX1_removeArrived_21 : decode cX1_removeArrived 21 = .ok (.aload_n 0, 1) := by decide +kernel
theorem dX1_removeArrived_22 : decode cX1_removeArrived 22 = .ok (.iload_n 2, 1) := by decide +kernel
theorem dX1_removeArrived_23 : decode cX1_removeArrived 23 = .ok (.iload_n 1, 1) := by decide +kernel
theorem dX1_removeArrived_24 : decode cX1_removeArrived 24 = .ok (.invokevirtual 38, 3) := by decide +kernel
theorem dX1_removeArrived_27 : decode cX1_removeArrived 27 = .ok (.iinc 1 1, 3) := by decide +kernel
theorem dX1_removeArrived_30 : decode cX1_removeArrived 30 = .ok (.iinc 2 1, 3) := by decide +kernel
theorem dX1_removeArrived_33 : decode cX1_removeArrived 33 = .ok (.goto (-29), 3) := by decide +kernel
theorem dX1_removeArrived_36 : decode cX1_removeArrived 36 = .ok (.aload_n 0, 1) := by decide +kernel
theorem dX1_removeArrived_37 : decode cX1_removeArrived 37 = .ok (.getfield 9, 3) := by decide +kernel
theorem dX1_removeArrived_40 : decode cX1_removeArrived 40 = .ok (.iload_n 1, 1) := by decide +kernel
theorem dX1_removeArrived_41 : decode cX1_removeArrived 41 = .ok (.isub, 1) := by decide +kernel
theorem dX1_removeArrived_42 : decode cX1_removeArrived 42 = .ok (.istore_n 2, 1) := by decide +kernel
theorem dX1_removeArrived_43 : decode cX1_removeArrived 43 = .ok (.aload_n 0, 1) := by decide +kernel
theorem dX1_removeArrived_44 : decode cX1_removeArrived 44 = .ok (.iload_n 1, 1) := by decide +kernel
theorem dX1_removeArrived_45 : decode cX1_removeArrived 45 = .ok (.putfield 9, 3) := by decide +kernel
theorem dX1_removeArrived_48 : decode cX1_removeArrived 48 = .ok (.iload_n 2, 1) := by decide +kernel
theorem dX1_removeArrived_49 : decode cX1_removeArrived 49 = .ok (.ireturn, 1) := by decide +kernel
theorem dX1_copyBoat_0 : decode cX1_copyBoat 0 = .ok (.aload_n 0, 1) := by decide +kernel
theorem dX1_copyBoat_1 : decode cX1_copyBoat 1 = .ok (.getfield 18, 3) := by decide +kernel
theorem dX1_copyBoat_4 : decode cX1_copyBoat 4 = .ok (.iload_n 3, 1) := by decide +kernel
theorem dX1_copyBoat_5 : decode cX1_copyBoat 5 = .ok (.aload_n 1, 1) := by decide +kernel
theorem dX1_copyBoat_6 : decode cX1_copyBoat 6 = .ok (.getfield 18, 3) := by decide +kernel
theorem dX1_copyBoat_9 : decode cX1_copyBoat 9 = .ok (.iload_n 2, 1) := by decide +kernel
theorem dX1_copyBoat_10 : decode cX1_copyBoat 10 = .ok (.iaload, 1) := by decide +kernel
theorem dX1_copyBoat_11 : decode cX1_copyBoat 11 = .ok (.iastore, 1) := by decide +kernel
theorem dX1_copyBoat_12 : decode cX1_copyBoat 12 = .ok (.aload_n 0, 1) := by decide +kernel
theorem dX1_copyBoat_13 : decode cX1_copyBoat 13 = .ok (.getfield 22, 3) := by decide +kernel
theorem dX1_copyBoat_16 : decode cX1_copyBoat 16 = .ok (.iload_n 3, 1) := by decide +kernel
theorem dX1_copyBoat_17 : decode cX1_copyBoat 17 = .ok (.aload_n 1, 1) := by decide +kernel
theorem dX1_copyBoat_18 : decode cX1_copyBoat 18 = .ok (.getfield 22, 3) := by decide +kernel
theorem dX1_copyBoat_21 : decode cX1_copyBoat 21 = .ok (.iload_n 2, 1) := by decide +kernel
theorem dX1_copyBoat_22 : decode cX1_copyBoat 22 = .ok (.iaload, 1) := by decide +kernel
theorem dX1_copyBoat_23 : decode cX1_copyBoat 23 = .ok (.iastore, 1) := by decide +kernel
theorem dX1_copyBoat_24 : decode cX1_copyBoat 24 = .ok (.aload_n 0, 1) := by decide +kernel
theorem dX1_copyBoat_25 : decode cX1_copyBoat 25 = .ok (.getfield 25, 3) := by decide +kernel
theorem dX1_copyBoat_28 : decode cX1_copyBoat 28 = .ok (.iload_n 3, 1) := by decide +kernel
theorem dX1_copyBoat_29 : decode cX1_copyBoat 29 = .ok (.aload_n 1, 1) := by decide +kernel
theorem dX1_copyBoat_30 : decode cX1_copyBoat 30 = .ok (.getfield 25, 3) := by decide +kernel
theorem dX1_copyBoat_33 : decode cX1_copyBoat 33 = .ok (.iload_n 2, 1) := by decide +kernel
theorem dX1_copyBoat_34 : decode cX1_copyBoat 34 = .ok (.baload, 1) := by decide +kernel
theorem dX1_copyBoat_35 : decode cX1_copyBoat 35 = .ok (.bastore, 1) := by decide +kernel
theorem dX1_copyBoat_36 : decode cX1_copyBoat 36 = .ok (.aload_n 0, 1) := by decide +kernel
theorem dX1_copyBoat_37 : decode cX1_copyBoat 37 = .ok (.getfield 29, 3) := by decide +kernel
theorem dX1_copyBoat_40 : decode cX1_copyBoat 40 = .ok (.iload_n 3, 1) := by decide +kernel
theorem dX1_copyBoat_41 : decode cX1_copyBoat 41 = .ok (.aload_n 1, 1) := by decide +kernel
theorem dX1_copyBoat_42 : decode cX1_copyBoat 42 = .ok (.getfield 29, 3) := by decide +kernel
theorem dX1_copyBoat_45 : decode cX1_copyBoat 45 = .ok (.iload_n 2, 1) := by decide +kernel
theorem dX1_copyBoat_46 : decode cX1_copyBoat 46 = .ok (.iaload, 1) := by decide +kernel
theorem dX1_copyBoat_47 : decode cX1_copyBoat 47 = .ok (.iastore, 1) := by decide +kernel
theorem dX1_copyBoat_48 : decode cX1_copyBoat 48 = .ok (.aload_n 0, 1) := by decide +kernel
theorem dX1_copyBoat_49 : decode cX1_copyBoat 49 = .ok (.getfield 32, 3) := by decide +kernel
theorem dX1_copyBoat_52 : decode cX1_copyBoat 52 = .ok (.iload_n 3, 1) := by decide +kernel
theorem dX1_copyBoat_53 : decode cX1_copyBoat 53 = .ok (.aload_n 1, 1) := by decide +kernel
theorem dX1_copyBoat_54 : decode cX1_copyBoat 54 = .ok (.getfield 32, 3) := by decide +kernel
theorem dX1_copyBoat_57 : decode cX1_copyBoat 57 = .ok (.iload_n 2, 1) := by decide +kernel
theorem dX1_copyBoat_58 : decode cX1_copyBoat 58 = .ok (.iaload, 1) := by decide +kernel
theorem dX1_copyBoat_59 : decode cX1_copyBoat 59 = .ok (.iastore, 1) := by decide +kernel
theorem dX1_copyBoat_60 : decode cX1_copyBoat 60 = .ok (.return_, 1) := by decide +kernel
theorem dX2_init_0 : decode cX2_init 0 = .ok (.aload_n 0, 1) := by decide +kernel
theorem dX2_init_1 : decode cX2_init 1 = .ok (.invokespecial 3, 3) := by decide +kernel
theorem dX2_init_4 : decode cX2_init 4 = .ok (.aload_n 0, 1) := by decide +kernel
theorem dX2_init_5 : decode cX2_init 5 = .ok (.new 9, 3) := by decide +kernel
theorem dX2_init_8 : decode cX2_init 8 = .ok (.dup, 1) := by decide +kernel
theorem dX2_init_9 : decode cX2_init 9 = .ok (.invokespecial 11, 3) := by decide +kernel
theorem dX2_init_12 : decode cX2_init 12 = .ok (.putfield 12, 3) := by decide +kernel
theorem dX2_init_15 : decode cX2_init 15 = .ok (.aload_n 0, 1) := by decide +kernel
theorem dX2_init_16 : decode cX2_init 16 = .ok (.new 18, 3) := by decide +kernel
theorem dX2_init_19 : decode cX2_init 19 = .ok (.dup, 1) := by decide +kernel
theorem dX2_init_20 : decode cX2_init 20 = .ok (.invokespecial 20, 3) := by decide +kernel
theorem dX2_init_23 : decode cX2_init 23 = .ok (.putfield 21, 3) := by decide +kernel
theorem dX2_init_26 : decode cX2_init 26 = .ok (.aload_n 0, 1) := by decide +kernel
theorem dX2_init_27 : decode cX2_init 27 = .ok (.new 25, 3) := by decide +kernel
theorem dX2_init_30 : decode cX2_init 30 = .ok (.dup, 1) := by decide +kernel
theorem dX2_init_31 : decode cX2_init 31 = .ok (.invokespecial 27, 3) := by decide +kernel
theorem dX2_init_34 : decode cX2_init 34 = .ok (.putfield 28, 3) := by decide +kernel
theorem dX2_init_37 : decode cX2_init 37 = .ok (.aload_n 0, 1) := by decide +kernel
theorem dX2_init_38 : decode cX2_init 38 = .ok (.iconst 0, 1) := by decide +kernel
theorem dX2_init_39 : decode cX2_init 39 = .ok (.putfield 32, 3) := by decide +kernel
theorem dX2_init_42 : decode cX2_init 42 = .ok (.return_, 1) := by decide +kernel
theorem dX2_copyFrom_0 : decode cX2_copyFrom 0 = .ok (.aload_n 0, 1) := by decide +kernel
theorem dX2_copyFrom_1 : decode cX2_copyFrom 1 = .ok (.getfield 12, 3) := by decide +kernel
theorem dX2_copyFrom_4 : decode cX2_copyFrom 4 = .ok (.aload_n 1, 1) := by decide +kernel
theorem dX2_copyFrom_5 : decode cX2_copyFrom 5 = .ok (.getfield 12, 3) := by decide +kernel
theorem dX2_copyFrom_8 : decode cX2_copyFrom 8 = .ok (.invokevirtual 36, 3) := by decide +kernel
theorem dX2_copyFrom_11 : decode cX2_copyFrom 11 = .ok (.aload_n 0, 1) := by decide +kernel
theorem dX2_copyFrom_12 : decode cX2_copyFrom 12 = .ok (.getfield 21, 3) := by decide +kernel
theorem dX2_copyFrom_15 : decode cX2_copyFrom 15 = .ok (.aload_n 1, 1) := by decide +kernel
theorem dX2_copyFrom_16 : decode cX2_copyFrom 16 = .ok (.getfield 21, 3) := by decide +kernel
theorem dX2_copyFrom_19 : decode cX2_copyFrom 19 = .ok (.invokevirtual 40, 3) := by decide +kernel
theorem dX2_copyFrom_22 : decode cX2_copyFrom 22 = .ok (.aload_n 0, 1) := by decide +kernel
theorem dX2_copyFrom_23 : decode cX2_copyFrom 23 = .ok (.getfield 28, 3) := by decide +kernel
theorem dX2_copyFrom_26 : decode cX2_copyFrom 26 = .ok (.aload_n 1, 1) := by decide +kernel
theorem dX2_copyFrom_27 : decode cX2_copyFrom 27 = .ok (.getfield 28, 3) := by decide +kernel
theorem dX2_copyFrom_30 : decode cX2_copyFrom 30 = .ok (.invokevirtual 44, 3) := by decide +kernel
theorem dX2_copyFrom_33 : decode cX2_copyFrom 33 = .ok (.aload_n 0, 1) := by decide +kernel
theorem dX2_copyFrom_34 : decode cX2_copyFrom 34 = .ok (.aload_n 1, 1) := by decide +kernel
theorem dX2_copyFrom_35 : decode cX2_copyFrom 35 = .ok (.getfield 32, 3) := by decide +kernel
theorem dX2_copyFrom_38 : decode cX2_copyFrom 38 = .ok (.putfield 32, 3) := by decide +kernel
theorem dX2_copyFrom_41 : decode cX2_copyFrom 41 = .ok (.return_, 1) := by decide +kernel
theorem dX2_faultOf_0 : decode cX2_faultOf 0 = .ok (.iload_n 1, 1) := by decide +kernel
theorem dX2_faultOf_1 : decode cX2_faultOf 1 = .ok (.lookupswitch 101 #[(98, 59), (100, 85), (111, 73), (114, 85), (115, 79), (118, 66)], 59) := by decide +kernel
theorem dX2_faultOf_60 : decode cX2_faultOf 60 = .ok (.aload_n 0, 1) := by decide +kernel
theorem dX2_faultOf_61 : decode cX2_faultOf 61 = .ok (.iload_n 2, 1) := by decide +kernel
theorem dX2_faultOf_62 : decode cX2_faultOf 62 = .ok (.iload_n 3, 1) := by decide +kernel
theorem dX2_faultOf_63 : decode cX2_faultOf 63 = .ok (.invokevirtual 48, 3) := by decide +kernel
theorem dX2_faultOf_66 : decode cX2_faultOf 66 = .ok (.ireturn, 1) := by decide +kernel
theorem dX2_faultOf_67 : decode cX2_faultOf 67 = .ok (.aload_n 0, 1) := by decide +kernel
theorem dX2_faultOf_68 : decode cX2_faultOf 68 = .ok (.iload_n 2, 1) := by decide +kernel
theorem dX2_faultOf_69 : decode cX2_faultOf 69 = .ok (.iload_n 3, 1) := by decide +kernel
theorem dX2_faultOf_70 : decode cX2_faultOf 70 = .ok (.invokevirtual 52, 3) := by decide +kernel
theorem dX2_faultOf_73 : decode cX2_faultOf 73 = .ok (.ireturn, 1) := by decide +kernel
theorem dX2_faultOf_74 : decode cX2_faultOf 74 = .ok (.aload_n 0, 1) := by decide +kernel
theorem dX2_faultOf_75 : decode cX2_faultOf 75 = .ok (.iload_n 2, 1) := by decide +kernel
theorem dX2_faultOf_76 : decode cX2_faultOf 76 = .ok (.invokevirtual 55, 3) := by decide +kernel
theorem dX2_faultOf_79 : decode cX2_faultOf 79 = .ok (.ireturn, 1) := by decide +kernel
theorem dX2_faultOf_80 : decode cX2_faultOf 80 = .ok (.aload_n 0, 1) := by decide +kernel
theorem dX2_faultOf_81 : decode cX2_faultOf 81 = .ok (.iload_n 2, 1) := by decide +kernel
theorem dX2_faultOf_82 : decode cX2_faultOf 82 = .ok (.invokevirtual 59, 3) := by decide +kernel
theorem dX2_faultOf_85 : decode cX2_faultOf 85 = .ok (.ireturn, 1) := by decide +kernel
theorem dX2_faultOf_86 : decode cX2_faultOf 86 = .ok (.iload_n 2, 1) := by decide +kernel
theorem dX2_faultOf_87 : decode cX2_faultOf 87 = .ok (.ifCond .lt 9, 3) := by decide +kernel
theorem dX2_faultOf_90 : decode cX2_faultOf 90 = .ok (.iload_n 2, 1) := by decide +kernel
theorem dX2_faultOf_91 : decode cX2_faultOf 91 = .ok (.bipush 9, 2) := by decide +kernel
theorem dX2_faultOf_93 : decode cX2_faultOf 93 = .ok (.if_icmp .le 7, 3) := by decide +kernel
theorem dX2_faultOf_96 : decode cX2_faultOf 96 = .ok (.iconst 2, 1) := by decide +kernel
theorem dX2_faultOf_97 : decode cX2_faultOf 97 = .ok (.goto 4, 3) := by decide +kernel
theorem dX2_faultOf_100 : decode cX2_faultOf 100 = .ok (.iconst 0, 1) := by decide +kernel
theorem dX2_faultOf_101 : decode cX2_faultOf 101 = .ok (.ireturn, 1) := by decide +kernel
theorem dX2_faultOf_102 : decode cX2_faultOf 102 = .ok (.iload_n 2, 1) := by decide +kernel
theorem dX2_faultOf_103 : decode cX2_faultOf 103 = .ok (.iconst 1, 1) := by decide +kernel
theorem dX2_faultOf_104 : decode cX2_faultOf 104 = .ok (.if_icmp .lt 10, 3) := by decide +kernel
theorem dX2_faultOf_107 : decode cX2_faultOf 107 = .ok (.iload_n 2, 1) := by decide +kernel
theorem dX2_faultOf_108 : decode cX2_faultOf 108 = .ok (.sipush 200, 3) := by decide +kernel
theorem dX2_faultOf_111 : decode cX2_faultOf 111 = .ok (.if_icmp .le 7, 3) := by decide +kernel
theorem dX2_faultOf_114 : decode cX2_faultOf 114 = .ok (.iconst 2, 1) := by decide +kernel
theorem dX2_faultOf_115 : decode cX2_faultOf 115 = .ok (.goto 4, 3) := by decide +kernel
theorem dX2_faultOf_118 : decode cX2_faultOf 118 = .ok (.iconst 0, 1) := by decide +kernel
theorem dX2_faultOf_119 : decode cX2_faultOf 119 = .ok (.ireturn, 1) := by decide +kernel
theorem dX2_faultOfBoat_0 : decode cX2_faultOfBoat 0 = .ok (.iload_n 1, 1) := by decide +kernel
theorem dX2_faultOfBoat_1 : decode cX2_faultOfBoat 1 = .ok (.invokestatic 62, 3) := by decide +kernel
theorem dX2_faultOfBoat_4 : decode cX2_faultOfBoat 4 = .ok (.iconst (-1), 1) := by decide +kernel
theorem dX2_faultOfBoat_5 : decode cX2_faultOfBoat 5 = .ok (.if_icmp .eq 14, 3) := by decide +kernel
theorem dX2_faultOfBoat_8 : decode cX2_faultOfBoat 8 = .ok (.iload_n 2, 1) := by decide +kernel
theorem dX2_faultOfBoat_9 : decode cX2_faultOfBoat 9 = .ok (.iconst 1, 1) := by decide +kernel
theorem dX2_faultOfBoat_10 : decode cX2_faultOfBoat 10 = .ok (.if_icmp .lt 9, 3) := by decide +kernel
theorem dX2_faultOfBoat_13 : decode cX2_faultOfBoat 13 = .ok (.iload_n 2, 1) := by decide +kernel
theorem dX2_faultOfBoat_14 : decode cX2_faultOfBoat 14 = .ok (.bipush 9, 2) := by decide +kernel
theorem dX2_faultOfBoat_16 : decode cX2_faultOfBoat 16 = .ok (.if_icmp .le 5, 3) := by decide +kernel
theorem dX2_faultOfBoat_19 : decode cX2_faultOfBoat 19 = .ok (.iconst 2, 1) := by decide +kernel
theorem dX2_faultOfBoat_20 : decode cX2_faultOfBoat 20 = .ok (.ireturn, 1) := by decide +kernel
theorem dX2_faultOfBoat_21 : decode cX2_faultOfBoat 21 = .ok (.aload_n 0, 1) := by decide +kernel
theorem dX2_faultOfBoat_22 : decode cX2_faultOfBoat 22 = .ok (.getfield 21, 3) := by decide +kernel
theorem dX2_faultOfBoat_25 : decode cX2_faultOfBoat 25 = .ok (.getfield 65, 3) := by decide +kernel
theorem dX2_faultOfBoat_28 : decode cX2_faultOfBoat 28 = .ok (.bipush 8, 2) := by decide +kernel
theorem dX2_faultOfBoat_30 : decode cX2_faultOfBoat 30 = .ok (.if_icmp .lt 7, 3) := by decide +kernel
theorem dX2_faultOfBoat_33 : decode cX2_faultOfBoat 33 = .ok (.iconst 3, 1) := by decide +kernel
theorem dX2_faultOfBoat_34 : decode cX2_faultOfBoat 34 = .ok (.goto 4, 3) := by decide +kernel
theorem dX2_faultOfBoat_37 : decode cX2_faultOfBoat 37 = .ok (.iconst 0, 1) := by decide +kernel
theorem dX2_faultOfBoat_38 : decode cX2_faultOfBoat 38 = .ok (.ireturn, 1) := by decide +kernel
theorem dX2_faultOfValve_0 : decode cX2_faultOfValve 0 = .ok (.iload_n 1, 1) := by decide +kernel
theorem dX2_faultOfValve_1 : decode cX2_faultOfValve 1 = .ok (.invokestatic 68, 3) := by decide +kernel
theorem dX2_faultOfValve_4 : decode cX2_faultOfValve 4 = .ok (.ifCond .ne 5, 3) := by decide +kernel
theorem dX2_faultOfValve_7 : decode cX2_faultOfValve 7 = .ok (.iconst 1, 1) := by decide +kernel
theorem dX2_faultOfValve_8 : decode cX2_faultOfValve 8 = .ok (.ireturn, 1) := by decide +kernel
theorem dX2_faultOfValve_9 : decode cX2_faultOfValve 9 = .ok (.iload_n 2, 1) := by decide +kernel
theorem dX2_faultOfValve_10 : decode cX2_faultOfValve 10 = .ok (.ifCond .lt 8, 3) := by decide +kernel
theorem dX2_faultOfValve_13 : decode cX2_faultOfValve 13 = .ok (.iload_n 2, 1) := by decide +kernel
theorem dX2_faultOfValve_14 : decode cX2_faultOfValve 14 = .ok (.iconst 3, 1) := by decide +kernel
theorem dX2_faultOfValve_15 : decode cX2_faultOfValve 15 = .ok (.if_icmp .le 7, 3) := by decide +kernel
theorem dX2_faultOfValve_18 : decode cX2_faultOfValve 18 = .ok (.iconst 2, 1) := by decide +kernel
theorem dX2_faultOfValve_19 : decode cX2_faultOfValve 19 = .ok (.goto 4, 3) := by decide +kernel
theorem dX2_faultOfValve_22 : decode cX2_faultOfValve 22 = .ok (.iconst 0, 1) := by decide +kernel
theorem dX2_faultOfValve_23 : decode cX2_faultOfValve 23 = .ok (.ireturn, 1) := by decide +kernel
theorem dX2_faultOfOpening_0 : decode cX2_faultOfOpening 0 = .ok (.iload_n 1, 1) := by decide +kernel
theorem dX2_faultOfOpening_1 : decode cX2_faultOfOpening 1 = .ok (.invokestatic 68, 3) := by decide +kernel
theorem dX2_faultOfOpening_4 : decode cX2_faultOfOpening 4 = .ok (.ifCond .ne 5, 3) := by decide +kernel
theorem dX2_faultOfOpening_7 : decode cX2_faultOfOpening 7 = .ok (.iconst 1, 1) := by decide +kernel
theorem dX2_faultOfOpening_8 : decode cX2_faultOfOpening 8 = .ok (.ireturn, 1) := by decide +kernel
theorem dX2_faultOfOpening_9 : decode cX2_faultOfOpening 9 = .ok (.aload_n 0, 1) := by decide +kernel
theorem dX2_faultOfOpening_10 : decode cX2_faultOfOpening 10 = .ok (.getfield 12, 3) := by decide +kernel
theorem dX2_faultOfOpening_13 : decode cX2_faultOfOpening 13 = .ok (.getfield 72, 3) := by decide +kernel
theorem dX2_faultOfOpening_16 : decode cX2_faultOfOpening 16 = .ok (.iload_n 1, 1) := by decide +kernel
theorem dX2_faultOfOpening_17 : decode cX2_faultOfOpening 17 = .ok (.baload, 1) := by decide +kernel
theorem dX2_faultOfOpening_18 : decode cX2_faultOfOpening 18 = .ok (.ifCond .eq 5, 3) := by decide +kernel
theorem dX2_faultOfOpening_21 : decode cX2_faultOfOpening 21 = .ok (.iconst 3, 1) := by decide +kernel
theorem dX2_faultOfOpening_22 : decode cX2_faultOfOpening 22 = .ok (.ireturn, 1) := by decide +kernel
theorem dX2_faultOfOpening_23 : decode cX2_faultOfOpening 23 = .ok (.aload_n 0, 1) := by decide +kernel
theorem dX2_faultOfOpening_24 : decode cX2_faultOfOpening 24 = .ok (.getfield 12, 3) := by decide +kernel
theorem dX2_faultOfOpening_27 : decode cX2_faultOfOpening 27 = .ok (.iload_n 1, 1) := by decide +kernel
theorem dX2_faultOfOpening_28 : decode cX2_faultOfOpening 28 = .ok (.invokevirtual 76, 3) := by decide +kernel
theorem dX2_faultOfOpening_31 : decode cX2_faultOfOpening 31 = .ok (.ifCond .eq 7, 3) := by decide +kernel
theorem dX2_faultOfOpening_34 : decode cX2_faultOfOpening 34 = .ok (.iconst 4, 1) := by decide +kernel
theorem dX2_faultOfOpening_35 : decode cX2_faultOfOpening 35 = .ok (.goto 4, 3) := by decide +kernel
theorem dX2_faultOfOpening_38 : decode cX2_faultOfOpening 38 = .ok (.iconst 0, 1) := by decide +kernel
theorem dX2_faultOfOpening_39 : decode cX2_faultOfOpening 39 = .ok (.ireturn, 1) := by decide +kernel
theorem dX2_faultOfShutting_0 : decode cX2_faultOfShutting 0 = .ok (.iload_n 1, 1) := by decide +kernel
theorem dX2_faultOfShutting_1 : decode cX2_faultOfShutting 1 = .ok (.invokestatic 68, 3) := by decide +kernel
theorem dX2_faultOfShutting_4 : decode cX2_faultOfShutting 4 = .ok (.ifCond .ne 5, 3) := by decide +kernel
theorem dX2_faultOfShutting_7 : decode cX2_faultOfShutting 7 = .ok (.iconst 1, 1) := by decide +kernel
theorem dX2_faultOfShutting_8 : decode cX2_faultOfShutting 8 = .ok (.ireturn, 1) := by decide +kernel
theorem dX2_faultOfShutting_9 : decode cX2_faultOfShutting 9 = .ok (.aload_n 0, 1) := by decide +kernel
theorem dX2_faultOfShutting_10 : decode cX2_faultOfShutting 10 = .ok (.getfield 12, 3) := by decide +kernel
theorem dX2_faultOfShutting_13 : decode cX2_faultOfShutting 13 = .ok (.getfield 72, 3) := by decide +kernel
theorem dX2_faultOfShutting_16 : decode cX2_faultOfShutting 16 = .ok (.iload_n 1, 1) := by decide +kernel
theorem dX2_faultOfShutting_17 : decode cX2_faultOfShutting 17 = .ok (.baload, 1) := by decide +kernel
theorem dX2_faultOfShutting_18 : decode cX2_faultOfShutting 18 = .ok (.ifCond .eq 7, 3) := by decide +kernel
theorem dX2_faultOfShutting_21 : decode cX2_faultOfShutting 21 = .ok (.iconst 0, 1) := by decide +kernel
theorem dX2_faultOfShutting_22 : decode cX2_faultOfShutting 22 = .ok (.goto 4, 3) := by decide +kernel
theorem dX2_faultOfShutting_25 : decode cX2_faultOfShutting 25 = .ok (.iconst 3, 1) := by decide +kernel
theorem dX2_faultOfShutting_26 : decode cX2_faultOfShutting 26 = .ok (.ireturn, 1) := by decide +kernel
theorem dX2_act_0 : decode cX2_act 0 = .ok (.iload_n 1, 1) := by decide +kernel
theorem dX2_act_1 : decode cX2_act 1 = .ok (.lookupswitch 116 #[(98, 59), (100, 110), (111, 90), (114, 104), (115, 97), (118, 83)], 59) := by decide +kernel
theorem dX2_act_60 : decode cX2_act 60 = .ok (.aload_n 0, 1) := by decide +kernel
theorem dX2_act_61 : decode cX2_act 61 = .ok (.getfield 21, 3) := by decide +kernel
theorem dX2_act_64 : decode cX2_act 64 = .ok (.iload_n 2, 1) := by decide +kernel
theorem dX2_act_65 : decode cX2_act 65 = .ok (.invokestatic 62, 3) := by decide +kernel
theorem dX2_act_68 : decode cX2_act 68 = .ok (.iload_n 3, 1) := by decide +kernel
theorem dX2_act_69 : decode cX2_act 69 = .ok (.iload 4, 2) := by decide +kernel
theorem dX2_act_71 : decode cX2_act 71 = .ok (.iconst 1, 1) := by decide +kernel
theorem dX2_act_72 : decode cX2_act 72 = .ok (.if_icmp .ne 7, 3) := by decide +kernel
theorem dX2_act_75 : decode cX2_act 75 = .ok (.iconst 1, 1) := by decide +kernel
theorem dX2_act_76 : decode cX2_act 76 = .ok (.goto 4, 3) := by decide +kernel
theorem dX2_act_79 : decode cX2_act 79 = .ok (.iconst 0, 1) := by decide +kernel
theorem dX2_act_80 : decode cX2_act 80 = .ok (.invokevirtual 79, 3) := by decide +kernel
theorem dX2_act_83 : decode cX2_act 83 = .ok (.ireturn, 1) := by decide +kernel
theorem dX2_act_84 : decode cX2_act 84 = .ok (.aload_n 0, 1) := by decide +kernel
theorem dX2_act_85 : decode cX2_act 85 = .ok (.iload_n 2, 1) := by decide +kernel
theorem dX2_act_86 : decode cX2_act 86 = .ok (.iload_n 3, 1) := by decide +kernel
theorem dX2_act_87 : decode cX2_act 87 = .ok (.invokevirtual 83, 3) := by decide +kernel
theorem dX2_act_90 : decode cX2_act 90 = .ok (.ireturn, 1) := by decide +kernel
theorem dX2_act_91 : decode cX2_act 91 = .ok (.aload_n 0, 1) := by decide +kernel
theorem dX2_act_92 : decode cX2_act 92 = .ok (.iload_n 2, 1) := by decide +kernel
theorem dX2_act_93 : decode cX2_act 93 = .ok (.iconst 1, 1) := by decide +kernel
theorem dX2_act_94 : decode cX2_act 94 = .ok (.invokevirtual 86, 3) := by decide +kernel
theorem dX2_act_97 : decode cX2_act 97 = .ok (.ireturn, 1) := by decide +kernel
theorem dX2_act_98 : decode cX2_act 98 = .ok (.aload_n 0, 1) := by decide +kernel
theorem dX2_act_99 : decode cX2_act 99 = .ok (.iload_n 2, 1) := by decide +kernel
theorem dX2_act_100 : decode cX2_act 100 = .ok (.iconst 0, 1) := by decide +kernel
theorem dX2_act_101 : decode cX2_act 101 = .ok (.invokevirtual 86, 3) := by decide +kernel
theorem dX2_act_104 : decode cX2_act 104 = .ok (.ireturn, 1) := by decide +kernel
theorem dX2_act_105 : decode cX2_act 105 = .ok (.aload_n 0, 1) := by decide +kernel
theorem dX2_act_106 : decode cX2_act 106 = .ok (.iload_n 2, 1) := by decide +kernel
theorem dX2_act_107 : decode cX2_act 107 = .ok (.invokevirtual 90, 3) := by decide +kernel
theorem dX2_act_110 : decode cX2_act 110 = .ok (.ireturn, 1) := by decide +kernel
theorem dX2_act_111 : decode cX2_act 111 = .ok (.aload_n 0, 1) := by decide +kernel
theorem dX2_act_112 : decode cX2_act 112 = .ok (.iload_n 2, 1) := by decide +kernel
theorem dX2_act_113 : decode cX2_act 113 = .ok (.invokevirtual 93, 3) := by decide +kernel
theorem dX2_act_116 : decode cX2_act 116 = .ok (.ireturn, 1) := by decide +kernel
theorem dX2_act_117 : decode cX2_act 117 = .ok (.aload_n 0, 1) := by decide +kernel
theorem dX2_act_118 : decode cX2_act 118 = .ok (.iload_n 2, 1) := by decide +kernel
theorem dX2_act_119 : decode cX2_act 119 = .ok (.invokevirtual 96, 3) := by decide +kernel
theorem dX2_act_122 : decode cX2_act 122 = .ok (.ireturn, 1) := by decide +kernel
theorem dX2_turnValve_0 : decode cX2_turnValve 0 = .ok (.aload_n 0, 1) := by decide +kernel
theorem dX2_turnValve_1 : decode cX2_turnValve 1 = .ok (.getfield 12, 3) := by decide +kernel
theorem dX2_turnValve_4 : decode cX2_turnValve 4 = .ok (.getfield 99, 3) := by decide +kernel
theorem dX2_turnValve_7 : decode cX2_turnValve 7 = .ok (.iload_n 1, 1) := by decide +kernel
theorem dX2_turnValve_8 : decode cX2_turnValve 8 = .ok (.iaload, 1) := by decide +kernel
theorem dX2_turnValve_9 : decode cX2_turnValve 9 = .ok (.istore_n 3, 1) := by decide +kernel
theorem dX2_turnValve_10 : decode cX2_turnValve 10 = .ok (.aload_n 0, 1) := by decide +kernel
theorem dX2_turnValve_11 : decode cX2_turnValve 11 = .ok (.getfield 12, 3) := by decide +kernel
theorem dX2_turnValve_14 : decode cX2_turnValve 14 = .ok (.getfield 99, 3) := by decide +kernel
theorem dX2_turnValve_17 : decode cX2_turnValve 17 = .ok (.iload_n 1, 1) := by decide +kernel
theorem dX2_turnValve_18 : decode cX2_turnValve 18 = .ok (.iload_n 2, 1) := by decide +kernel
theorem dX2_turnValve_19 : decode cX2_turnValve 19 = .ok (.iastore, 1) := by decide +kernel
theorem dX2_turnValve_20 : decode cX2_turnValve 20 = .ok (.iload_n 3, 1) := by decide +kernel
theorem dX2_turnValve_21 : decode cX2_turnValve 21 = .ok (.ireturn, 1) := by decide +kernel
theorem dX2_moveGate_0 : decode cX2_moveGate 0 = .ok (.aload_n 0, 1) := by decide +kernel
theorem dX2_moveGate_1 : decode cX2_moveGate 1 = .ok (.getfield 12, 3) := by decide +kernel
theorem dX2_moveGate_4 : decode cX2_moveGate 4 = .ok (.getfield 72, 3) := by decide +kernel
theorem dX2_moveGate_7 : decode cX2_moveGate 7 = .ok (.iload_n 1, 1) := by decide +kernel
theorem dX2_moveGate_8 : decode cX2_moveGate 8 = .ok (.iload_n 2, 1) := by decide +kernel
theorem dX2_moveGate_9 : decode cX2_moveGate 9 = .ok (.bastore, 1) := by decide +kernel
theorem dX2_moveGate_10 : decode cX2_moveGate 10 = .ok (.aload_n 0, 1) := by decide +kernel
theorem dX2_moveGate_11 : decode cX2_moveGate 11 = .ok (.getfield 12, 3) := by decide +kernel
theorem dX2_moveGate_14 : decode cX2_moveGate 14 = .ok (.invokevirtual 103, 3) := by decide +kernel
theorem dX2_moveGate_17 : decode cX2_moveGate 17 = .ok (.ireturn, 1) := by decide +kernel
theorem dX2_changeRain_0 : decode cX2_changeRain 0 = .ok (.aload_n 0, 1) := by decide +kernel
theorem dX2_changeRain_1 : decode cX2_changeRain 1 = .ok (.getfield 12, 3) := by decide +kernel
theorem dX2_changeRain_4 : decode cX2_changeRain 4 = .ok (.getfield 107, 3) := by decide +kernel
theorem dX2_changeRain_7 : decode cX2_changeRain 7 = .ok (.istore_n 2, 1) := by decide +kernel
theorem dX2_changeRain_8 : decode cX2_changeRain 8 = .ok (.aload_n 0, 1) := by decide +kernel
theorem dX2_changeRain_9 : decode cX2_changeRain 9 = .ok (.getfield 12, 3) := by decide +kernel
theorem dX2_changeRain_12 : decode cX2_changeRain 12 = .ok (.iload_n 1, 1) := by decide +kernel
theorem dX2_changeRain_13 : decode cX2_changeRain 13 = .ok (.putfield 107, 3) := by decide +kernel
theorem dX2_changeRain_16 : decode cX2_changeRain 16 = .ok (.iload_n 2, 1) := by decide +kernel
theorem dX2_changeRain_17 : decode cX2_changeRain 17 = .ok (.ireturn, 1) := by decide +kernel
theorem dX2_changeDrain_0 : decode cX2_changeDrain 0 = .ok (.aload_n 0, 1) := by decide +kernel
theorem dX2_changeDrain_1 : decode cX2_changeDrain 1 = .ok (.getfield 12, 3) := by decide +kernel
theorem dX2_changeDrain_4 : decode cX2_changeDrain 4 = .ok (.getfield 110, 3) := by decide +kernel
theorem dX2_changeDrain_7 : decode cX2_changeDrain 7 = .ok (.istore_n 2, 1) := by decide +kernel
theorem dX2_changeDrain_8 : decode cX2_changeDrain 8 = .ok (.aload_n 0, 1) := by decide +kernel
theorem dX2_changeDrain_9 : decode cX2_changeDrain 9 = .ok (.getfield 12, 3) := by decide +kernel
theorem dX2_changeDrain_12 : decode cX2_changeDrain 12 = .ok (.iload_n 1, 1) := by decide +kernel
theorem dX2_changeDrain_13 : decode cX2_changeDrain 13 = .ok (.putfield 110, 3) := by decide +kernel
theorem dX2_changeDrain_16 : decode cX2_changeDrain 16 = .ok (.iload_n 2, 1) := by decide +kernel
theorem dX2_changeDrain_17 : decode cX2_changeDrain 17 = .ok (.ireturn, 1) := by decide +kernel
theorem dX2_passMinutes_0 : decode cX2_passMinutes 0 = .ok (.iconst 0, 1) := by decide +kernel
theorem dX2_passMinutes_1 : decode cX2_passMinutes 1 = .ok (.istore_n 2, 1) := by decide +kernel
theorem dX2_passMinutes_2 : decode cX2_passMinutes 2 = .ok (.iconst 0, 1) := by decide +kernel
theorem dX2_passMinutes_3 : decode cX2_passMinutes 3 = .ok (.istore_n 3, 1) := by decide +kernel
theorem dX2_passMinutes_4 : decode cX2_passMinutes 4 = .ok (.iload_n 3, 1) := by decide +kernel
theorem dX2_passMinutes_5 : decode cX2_passMinutes 5 = .ok (.iload_n 1, 1) := by decide +kernel
theorem dX2_passMinutes_6 : decode cX2_passMinutes 6 = .ok (.if_icmp .ge 70, 3) := by decide +kernel
theorem dX2_passMinutes_9 : decode cX2_passMinutes 9 = .ok (.aload_n 0, 1) := by decide +kernel
theorem dX2_passMinutes_10 : decode cX2_passMinutes 10 = .ok (.dup, 1) := by decide +kernel
theorem dX2_passMinutes_11 : decode cX2_passMinutes 11 = .ok (.getfield 32, 3) := by decide +kernel
theorem dX2_passMinutes_14 : decode cX2_passMinutes 14 = .ok (.iconst 1, 1) := by decide +kernel
theorem dX2_passMinutes_15 : decode cX2_passMinutes 15 = .ok (.iadd, 1) := by decide +kernel
theorem dX2_passMinutes_16 : decode cX2_passMinutes 16 = .ok (.putfield 32, 3) := by decide +kernel
theorem dX2_passMinutes_19 : decode cX2_passMinutes 19 = .ok (.aload_n 0, 1) := by decide +kernel
theorem dX2_passMinutes_20 : decode cX2_passMinutes 20 = .ok (.invokevirtual 113, 3) := by decide +kernel
theorem dX2_passMinutes_23 : decode cX2_passMinutes 23 = .ok (.iconst 0, 1) := by decide +kernel
theorem dX2_passMinutes_24 : decode cX2_passMinutes 24 = .ok (.istore 4, 2) := by decide +kernel
theorem dX2_passMinutes_26 : decode cX2_passMinutes 26 = .ok (.iload 4, 2) := by decide +kernel
theorem dX2_passMinutes_28 : decode cX2_passMinutes 28 = .ok (.iconst 4, 1) := by decide +kernel
theorem dX2_passMinutes_29 : decode cX2_passMinutes 29 = .ok (.if_icmp .ge 27, 3) := by decide +kernel
theorem dX2_passMinutes_32 : decode cX2_passMinutes 32 = .ok (.aload_n 0, 1) := by decide +kernel
theorem dX2_passMinutes_33 : decode cX2_passMinutes 33 = .ok (.getfield 12, 3) := by decide +kernel
theorem dX2_passMinutes_36 : decode cX2_passMinutes 36 = .ok (.iload 4, 2) := by decide +kernel
theorem dX2_passMinutes_38 : decode cX2_passMinutes 38 = .ok (.aload_n 0, 1) := by decide +kernel
theorem dX2_passMinutes_39 : decode cX2_passMinutes 39 = .ok (.getfield 12, 3) := by decide +kernel
theorem dX2_passMinutes_42 : decode cX2_passMinutes 42 = .ok (.iload 4, 2) := by decide +kernel
theorem dX2_passMinutes_44 : decode cX2_passMinutes 44 = .ok (.invokevirtual 116, 3) := by decide +kernel
theorem dX2_passMinutes_47 : decode cX2_passMinutes 47 = .ok (.invokevirtual 119, 3) := by decide +kernel
theorem dX2_passMinutes_50 : decode cX2_passMinutes 50 = .ok (.iinc 4 1, 3) := by decide +kernel
theorem dX2_passMinutes_53 : decode cX2_passMinutes 53 = .ok (.goto (-27), 3) := by decide +kernel
theorem dX2_passMinutes_56 : decode cX2_passMinutes 56 = .ok (.aload_n 0, 1) := by decide +kernel
theorem dX2_passMinutes_57 : decode cX2_passMinutes 57 = .ok (.invokevirtual 123, 3) := by decide +kernel
theorem dX2_passMinutes_60 : decode cX2_passMinutes 60 = .ok (.iload_n 2, 1) := by decide +kernel
theorem dX2_passMinutes_61 : decode cX2_passMinutes 61 = .ok (.aload_n 0, 1) := by decide +kernel
theorem dX2_passMinutes_62 : decode cX2_passMinutes 62 = .ok (.getfield 21, 3) := by decide +kernel
theorem dX2_passMinutes_65 : decode cX2_passMinutes 65 = .ok (.invokevirtual 126, 3) := by decide +kernel
theorem dX2_passMinutes_68 : decode cX2_passMinutes 68 = .ok (.iadd, 1) := by decide +kernel
theorem dX2_passMinutes_69 : decode cX2_passMinutes 69 = .ok (.istore_n 2, 1) := by decide +kernel
theorem dX2_passMinutes_70 : decode cX2_passMinutes 70 = .ok (.iinc 3 1, 3) := by decide +kernel
theorem dX2_passMinutes_73 : decode cX2_passMinutes 73 = .ok (.goto (-69), 3) := by decide +kernel
theorem dX2_passMinutes_76 : decode cX2_passMinutes 76 = .ok (.iload_n 2, 1) := by decide +kernel
theorem dX2_passMinutes_77 : decode cX2_passMinutes 77 = .ok (.ireturn, 1) := by decide +kernel
theorem dX2_passWeather_0 : decode cX2_passWeather 0 = .ok (.aload_n 0, 1) := by decide +kernel
theorem dX2_passWeather_1 : decode cX2_passWeather 1 = .ok (.getfield 12, 3) := by decide +kernel
theorem dX2_passWeather_4 : decode cX2_passWeather 4 = .ok (.invokevirtual 129, 3) := by decide +kernel
theorem dX2_passWeather_7 : decode cX2_passWeather 7 = .ok (.istore_n 1, 1) := by decide +kernel
theorem dX2_passWeather_8 : decode cX2_passWeather 8 = .ok (.iload_n 1, 1) := by decide +kernel
theorem dX2_passWeather_9 : decode cX2_passWeather 9 = .ok (.ifCond .le 13, 3) := by decide +kernel
theorem dX2_passWeather_12 : decode cX2_passWeather 12 = .ok (.aload_n 0, 1) := by decide +kernel
theorem dX2_passWeather_13 : decode cX2_passWeather 13 = .ok (.getfield 28, 3) := by decide +kernel
theorem dX2_passWeather_16 : decode cX2_passWeather 16 = .ok (.bipush 115, 2) := by decide +kernel
theorem dX2_passWeather_18 : decode cX2_passWeather 18 = .ok (.iload_n 1, 1) := by decide +kernel
theorem dX2_passWeather_19 : decode cX2_passWeather 19 = .ok (.invokevirtual 132, 3) := by decide +kernel
theorem dX2_passWeather_22 : decode cX2_passWeather 22 = .ok (.aload_n 0, 1) := by decide +kernel
theorem dX2_passWeather_23 : decode cX2_passWeather 23 = .ok (.getfield 12, 3) := by decide +kernel
theorem dX2_passWeather_26 : decode cX2_passWeather 26 = .ok (.invokevirtual 136, 3) := by decide +kernel
theorem dX2_passWeather_29 : decode cX2_passWeather 29 = .ok (.return_, 1) := by decide +kernel
theorem dX2_passGates_0 : decode cX2_passGates 0 = .ok (.iconst 0, 1) := by decide +kernel
theorem dX2_passGates_1 : decode cX2_passGates 1 = .ok (.istore_n 1, 1) := by decide +kernel
theorem dX2_passGates_2 : decode cX2_passGates 2 = .ok (.iconst 0, 1) := by decide +kernel
theorem dX2_passGates_3 : decode cX2_passGates 3 = .ok (.istore_n 2, 1) := by decide +kernel
theorem dX2_passGates_4 : decode cX2_passGates 4 = .ok (.iload_n 2, 1) := by decide +kernel
theorem dX2_passGates_5 : decode cX2_passGates 5 = .ok (.iconst 3, 1) := by decide +kernel
theorem dX2_passGates_6 : decode cX2_passGates 6 = .ok (.if_icmp .ge 68, 3) := by decide +kernel
theorem dX2_passGates_9 : decode cX2_passGates 9 = .ok (.iconst 0, 1) := by decide +kernel
theorem dX2_passGates_10 : decode cX2_passGates 10 = .ok (.istore_n 3, 1) := by decide +kernel
theorem dX2_passGates_11 : decode cX2_passGates 11 = .ok (.iload_n 3, 1) := by decide +kernel
theorem dX2_passGates_12 : decode cX2_passGates 12 = .ok (.aload_n 0, 1) := by decide +kernel
theorem dX2_passGates_13 : decode cX2_passGates 13 = .ok (.getfield 21, 3) := by decide +kernel
theorem dX2_passGates_16 : decode cX2_passGates 16 = .ok (.getfield 65, 3) := by decide +kernel
theorem dX2_passGates_19 : decode cX2_passGates 19 = .ok (.if_icmp .ge 49, 3) := by decide +kernel
theorem dX2_passGates_22 : decode cX2_passGates 22 = .ok (.aload_n 0, 1) := by decide +kernel
theorem dX2_passGates_23 : decode cX2_passGates 23 = .ok (.getfield 21, 3) := by decide +kernel
theorem dX2_passGates_26 : decode cX2_passGates 26 = .ok (.getfield 139, 3) := by decide +kernel
theorem dX2_passGates_29 : decode cX2_passGates 29 = .ok (.iload_n 3, 1) := by decide +kernel
theorem dX2_passGates_30 : decode cX2_passGates 30 = .ok (.iaload, 1) := by decide +kernel
theorem dX2_passGates_31 : decode cX2_passGates 31 = .ok (.iload_n 2, 1) := by decide +kernel
theorem dX2_passGates_32 : decode cX2_passGates 32 = .ok (.if_icmp .ne 30, 3) := by decide +kernel
theorem dX2_passGates_35 : decode cX2_passGates 35 = .ok (.aload_n 0, 1) := by decide +kernel
theorem dX2_passGates_36 : decode cX2_passGates 36 = .ok (.iload_n 3, 1) := by decide +kernel
theorem dX2_passGates_37 : decode cX2_passGates 37 = .ok (.iload_n 1, 1) := by decide +kernel
theorem dX2_passGates_38 : decode cX2_passGates 38 = .ok (.invokevirtual 142, 3) := by decide +kernel
theorem dX2_passGates_41 : decode cX2_passGates 41 = .ok (.ifCond .eq 21, 3) := by decide +kernel
theorem dX2_passGates_44 : decode cX2_passGates 44 = .ok (.iload_n 1, 1) := by decide +kernel
theorem dX2_passGates_45 : decode cX2_passGates 45 = .ok (.iconst 1, 1) := by decide +kernel
theorem dX2_passGates_46 : decode cX2_passGates 46 = .ok (.aload_n 0, 1) := by decide +kernel
theorem dX2_passGates_47 : decode cX2_passGates 47 = .ok (.getfield 21, 3) := by decide +kernel
theorem dX2_passGates_50 : decode cX2_passGates 50 = .ok (.iload_n 3, 1) := by decide +kernel
theorem dX2_passGates_51 : decode cX2_passGates 51 = .ok (.invokevirtual 146, 3) := by decide +kernel
theorem dX2_passGates_54 : decode cX2_passGates 54 = .ok (.ishl, 1) := by decide +kernel
theorem dX2_passGates_55 : decode cX2_passGates 55 = .ok (.ior, 1) := by decide +kernel
theorem dX2_passGates_56 : decode cX2_passGates 56 = .ok (.istore_n 1, 1) := by decide +kernel
theorem dX2_passGates_57 : decode cX2_passGates 57 = .ok (.aload_n 0, 1) := by decide +kernel
theorem dX2_passGates_58 : decode cX2_passGates 58 = .ok (.iload_n 3, 1) := by decide +kernel
theorem dX2_passGates_59 : decode cX2_passGates 59 = .ok (.invokevirtual 149, 3) := by decide +kernel
theorem dX2_passGates_62 : decode cX2_passGates 62 = .ok (.iinc 3 1, 3) := by decide +kernel
theorem dX2_passGates_65 : decode cX2_passGates 65 = .ok (.goto (-54), 3) := by decide +kernel
theorem dX2_passGates_68 : decode cX2_passGates 68 = .ok (.iinc 2 1, 3) := by decide +kernel
theorem dX2_passGates_71 : decode cX2_passGates 71 = .ok (.goto (-67), 3) := by decide +kernel
theorem dX2_passGates_74 : decode cX2_passGates 74 = .ok (.return_, 1) := by decide +kernel
theorem dX2_mayPass_0 : decode cX2_mayPass 0 = .ok (.aload_n 0, 1) := by decide +kernel
theorem dX2_mayPass_1 : decode cX2_mayPass 1 = .ok (.getfield 21, 3) := by decide +kernel
theorem dX2_mayPass_4 : decode cX2_mayPass 4 = .ok (.iload_n 1, 1) := by decide +kernel
theorem dX2_mayPass_5 : decode cX2_mayPass 5 = .ok (.invokevirtual 146, 3) := by decide +kernel
theorem dX2_mayPass_8 : decode cX2_mayPass 8 = .ok (.istore_n 3, 1) := by decide +kernel
theorem dX2_mayPass_9 : decode cX2_mayPass 9 = .ok (.aload_n 0, 1) := by decide +kernel
theorem dX2_mayPass_10 : decode cX2_mayPass 10 = .ok (.getfield 21, 3) := by decide +kernel
theorem dX2_mayPass_13 : decode cX2_mayPass 13 = .ok (.iload_n 1, 1) := by decide +kernel
theorem dX2_mayPass_14 : decode cX2_mayPass 14 = .ok (.invokevirtual 153, 3) := by decide +kernel
theorem dX2_mayPass_17 : decode cX2_mayPass 17 = .ok (.istore 4, 2) := by decide +kernel
theorem dX2_mayPass_19 : decode cX2_mayPass 19 = .ok (.iload_n 3, 1) := by decide +kernel
theorem dX2_mayPass_20 : decode cX2_mayPass 20 = .ok (.invokestatic 68, 3) := by decide +kernel
theorem dX2_mayPass_23 : decode cX2_mayPass 23 = .ok (.ifCond .eq 60, 3) := by decide +kernel
theorem dX2_mayPass_26 : decode cX2_mayPass 26 = .ok (.aload_n 0, 1) := by decide +kernel
theorem dX2_mayPass_27 : decode cX2_mayPass 27 = .ok (.getfield 12, 3) := by decide +kernel
theorem dX2_mayPass_30 : decode cX2_mayPass 30 = .ok (.getfield 72, 3) := by decide +kernel
theorem dX2_mayPass_33 : decode cX2_mayPass 33 = .ok (.iload_n 3, 1) := by decide +kernel
theorem dX2_mayPass_34 : decode cX2_mayPass 34 = .ok (.baload, 1) := by decide +kernel
theorem dX2_mayPass_35 : decode cX2_mayPass 35 = .ok (.ifCond .eq 48, 3) := by decide +kernel
theorem dX2_mayPass_38 : decode cX2_mayPass 38 = .ok (.iload_n 2, 1) := by decide +kernel
theorem dX2_mayPass_39 : decode cX2_mayPass 39 = .ok (.iconst 1, 1) := by decide +kernel
theorem dX2_mayPass_40 : decode cX2_mayPass 40 = .ok (.iload_n 3, 1) := by decide +kernel
theorem dX2_mayPass_41 : decode cX2_mayPass 41 = .ok (.ishl, 1) := by decide +kernel
theorem dX2_mayPass_42 : decode cX2_mayPass 42 = .ok (.iand, 1) := by decide +kernel
theorem dX2_mayPass_43 : decode cX2_mayPass 43 = .ok (.ifCond .ne 40, 3) := by decide +kernel
theorem dX2_mayPass_46 : decode cX2_mayPass 46 = .ok (.aload_n 0, 1) := by decide +kernel
theorem dX2_mayPass_47 : decode cX2_mayPass 47 = .ok (.getfield 21, 3) := by decide +kernel
theorem dX2_mayPass_50 : decode cX2_mayPass 50 = .ok (.iload 4, 2) := by decide +kernel
theorem dX2_mayPass_52 : decode cX2_mayPass 52 = .ok (.invokevirtual 156, 3) := by decide +kernel
theorem dX2_mayPass_55 : decode cX2_mayPass 55 = .ok (.ifCond .eq 28, 3) := by decide +kernel
theorem dX2_mayPass_58 : decode cX2_mayPass 58 = .ok (.aload_n 0, 1) := by decide +kernel
theorem dX2_mayPass_59 : decode cX2_mayPass 59 = .ok (.getfield 12, 3) := by decide +kernel
theorem dX2_mayPass_62 : decode cX2_mayPass 62 = .ok (.iload 4, 2) := by decide +kernel
theorem dX2_mayPass_64 : decode cX2_mayPass 64 = .ok (.aload_n 0, 1) := by decide +kernel
theorem dX2_mayPass_65 : decode cX2_mayPass 65 = .ok (.getfield 21, 3) := by decide +kernel
theorem dX2_mayPass_68 : decode cX2_mayPass 68 = .ok (.getfield 159, 3) := by decide +kernel
theorem dX2_mayPass_71 : decode cX2_mayPass 71 = .ok (.iload_n 1, 1) := by decide +kernel
theorem dX2_mayPass_72 : decode cX2_mayPass 72 = .ok (.iaload, 1) := by decide +kernel
theorem dX2_mayPass_73 : decode cX2_mayPass 73 = .ok (.invokevirtual 162, 3) := by decide +kernel
theorem dX2_mayPass_76 : decode cX2_mayPass 76 = .ok (.ifCond .eq 7, 3) := by decide +kernel
theorem dX2_mayPass_79 : decode cX2_mayPass 79 = .ok (.iconst 1, 1) := by decide +kernel
theorem dX2_mayPass_80 : decode cX2_mayPass 80 = .ok (.goto 4, 3) := by decide +kernel
theorem dX2_mayPass_83 : decode cX2_mayPass 83 = .ok (.iconst 0, 1) := by decide +kernel
theorem dX2_mayPass_84 : decode cX2_mayPass 84 = .ok (.ireturn, 1) := by decide +kernel
theorem dX2_pass_0 : decode cX2_pass 0 = .ok (.aload_n 0, 1) := by decide +kernel
theorem dX2_pass_1 : decode cX2_pass 1 = .ok (.getfield 21, 3) := by decide +kernel
theorem dX2_pass_4 : decode cX2_pass 4 = .ok (.iload_n 1, 1) := by decide +kernel
theorem dX2_pass_5 : decode cX2_pass 5 = .ok (.invokevirtual 146, 3) := by decide +kernel
theorem dX2_pass_8 : decode cX2_pass 8 = .ok (.istore_n 2, 1) := by decide +kernel
theorem dX2_pass_9 : decode cX2_pass 9 = .ok (.aload_n 0, 1) := by decide +kernel
theorem dX2_pass_10 : decode cX2_pass 10 = .ok (.getfield 21, 3) := by decide +kernel
theorem dX2_pass_13 : decode cX2_pass 13 = .ok (.getfield 165, 3) := by decide +kernel
theorem dX2_pass_16 : decode cX2_pass 16 = .ok (.iload_n 1, 1) := by decide +kernel
theorem dX2_pass_17 : decode cX2_pass 17 = .ok (.aload_n 0, 1) := by decide +kernel
theorem dX2_pass_18 : decode cX2_pass 18 = .ok (.getfield 21, 3) := by decide +kernel
theorem dX2_pass_21 : decode cX2_pass 21 = .ok (.iload_n 1, 1) := by decide +kernel
theorem dX2_pass_22 : decode cX2_pass 22 = .ok (.invokevirtual 153, 3) := by decide +kernel
theorem dX2_pass_25 : decode cX2_pass 25 = .ok (.iastore, 1) := by decide +kernel
theorem dX2_pass_26 : decode cX2_pass 26 = .ok (.aload_n 0, 1) := by decide +kernel
theorem dX2_pass_27 : decode cX2_pass 27 = .ok (.getfield 21, 3) := by decide +kernel
theorem dX2_pass_30 : decode cX2_pass 30 = .ok (.iload_n 1, 1) := by decide +kernel
theorem dX2_pass_31 : decode cX2_pass 31 = .ok (.invokevirtual 168, 3) := by decide +kernel
theorem dX2_pass_34 : decode cX2_pass 34 = .ok (.ifCond .eq 45, 3) := by decide +kernel
theorem dX2_pass_37 : decode cX2_pass 37 = .ok (.aload_n 0, 1) := by decide +kernel
theorem dX2_pass_38 : decode cX2_pass 38 = .ok (.getfield 21, 3) := by decide +kernel
theorem dX2_pass_41 : decode cX2_pass 41 = .ok (.getfield 171, 3) := by decide +kernel
theorem dX2_pass_44 : decode cX2_pass 44 = .ok (.aload_n 0, 1) := by decide +kernel
theorem dX2_pass_45 : decode cX2_pass 45 = .ok (.getfield 21, 3) := by decide +kernel
theorem dX2_pass_48 : decode cX2_pass 48 = .ok (.getfield 139, 3) := by decide +kernel
theorem dX2_pass_51 : decode cX2_pass 51 = .ok (.iload_n 1, 1) := by decide +kernel
theorem dX2_pass_52 : decode cX2_pass 52 = .ok (.iaload, 1) := by decide +kernel
theorem dX2_pass_53 : decode cX2_pass 53 = .ok (.dup2, 1) := by decide +kernel
theorem dX2_pass_54 : decode cX2_pass 54 = .ok (.iaload, 1) := by decide +kernel
theorem dX2_pass_55 : decode cX2_pass 55 = .ok (.iconst 1, 1) := by decide +kernel
theorem dX2_pass_56 : decode cX2_pass 56 = .ok (.iadd, 1) := by decide +kernel
theorem dX2_pass_57 : decode cX2_pass 57 = .ok (.iastore, 1) := by decide +kernel
theorem dX2_pass_58 : decode cX2_pass 58 = .ok (.aload_n 0, 1) := by decide +kernel
theorem dX2_pass_59 : decode cX2_pass 59 = .ok (.getfield 28, 3) := by decide +kernel
theorem dX2_pass_62 : decode cX2_pass 62 = .ok (.bipush 108, 2) := by decide +kernel
theorem dX2_pass_64 : decode cX2_pass 64 = .ok (.aload_n 0, 1) := by decide +kernel
theorem dX2_pass_65 : decode cX2_pass 65 = .ok (.getfield 21, 3) := by decide +kernel
theorem dX2_pass_68 : decode cX2_pass 68 = .ok (.getfield 159, 3) := by decide +kernel
theorem dX2_pass_71 : decode cX2_pass 71 = .ok (.iload_n 1, 1) := by decide +kernel
theorem dX2_pass_72 : decode cX2_pass 72 = .ok (.iaload, 1) := by decide +kernel
theorem dX2_pass_73 : decode cX2_pass 73 = .ok (.invokevirtual 132, 3) := by decide +kernel
theorem dX2_pass_76 : decode cX2_pass 76 = .ok (.goto 13, 3) := by decide +kernel
theorem dX2_pass_79 : decode cX2_pass 79 = .ok (.aload_n 0, 1) := by decide +kernel
theorem dX2_pass_80 : decode cX2_pass 80 = .ok (.getfield 28, 3) := by decide +kernel
theorem dX2_pass_83 : decode cX2_pass 83 = .ok (.bipush 112, 2) := by decide +kernel
theorem dX2_pass_85 : decode cX2_pass 85 = .ok (.iload_n 2, 1) := by decide +kernel
theorem dX2_pass_86 : decode cX2_pass 86 = .ok (.invokevirtual 132, 3) := by decide +kernel
theorem dX2_pass_89 : decode cX2_pass 89 = .ok (.return_, 1) := by decide +kernel
theorem dX3_init_0 : decode cX3_init 0 = .ok (.aload_n 0, 1) := by decide +kernel
theorem dX3_init_1 : decode cX3_init 1 = .ok (.invokespecial 3, 3) := by decide +kernel
theorem dX3_init_4 : decode cX3_init 4 = .ok (.aload_n 0, 1) := by decide +kernel
theorem dX3_init_5 : decode cX3_init 5 = .ok (.bipush 8, 2) := by decide +kernel
theorem dX3_init_7 : decode cX3_init 7 = .ok (.anewarray 9, 3) := by decide +kernel
theorem dX3_init_10 : decode cX3_init 10 = .ok (.putfield 11, 3) := by decide +kernel
theorem dX3_init_13 : decode cX3_init 13 = .ok (.aload_n 0, 1) := by decide +kernel
theorem dX3_init_14 : decode cX3_init 14 = .ok (.iconst 0, 1) := by decide +kernel
theorem dX3_init_15 : decode cX3_init 15 = .ok (.putfield 17, 3) := by decide +kernel
theorem dX3_init_18 : decode cX3_init 18 = .ok (.aload_n 0, 1) := by decide +kernel
theorem dX3_init_19 : decode cX3_init 19 = .ok (.iconst 0, 1) := by decide +kernel
theorem dX3_init_20 : decode cX3_init 20 = .ok (.putfield 21, 3) := by decide +kernel
theorem dX3_init_23 : decode cX3_init 23 = .ok (.iconst 0, 1) := by decide +kernel
theorem dX3_init_24 : decode cX3_init 24 = .ok (.istore_n 1, 1) := by decide +kernel
theorem dX3_init_25 : decode cX3_init 25 = .ok (.iload_n 1, 1) := by decide +kernel
theorem dX3_init_26 : decode cX3_init 26 = .ok (.bipush 8, 2) := by decide +kernel
theorem dX3_init_28 : decode cX3_init 28 = .ok (.if_icmp .ge 22, 3) := by decide +kernel
theorem dX3_init_31 : decode cX3_init 31 = .ok (.aload_n 0, 1) := by decide +kernel
theorem dX3_init_32 : decode cX3_init 32 = .ok (.getfield 11, 3) := by decide +kernel
theorem dX3_init_35 : decode cX3_init 35 = .ok (.iload_n 1, 1) := by decide +kernel
theorem dX3_init_36 : decode cX3_init 36 = .ok (.new 9, 3) := by decide +kernel
theorem dX3_init_39 : decode cX3_init 39 = .ok (.dup, 1) := by decide +kernel
theorem dX3_init_40 : decode cX3_init 40 = .ok (.invokespecial 24, 3) := by decide +kernel
theorem dX3_init_43 : decode cX3_init 43 = .ok (.aastore, 1) := by decide +kernel
theorem dX3_init_44 : decode cX3_init 44 = .ok (.iinc 1 1, 3) := by decide +kernel
theorem dX3_init_47 : decode cX3_init 47 = .ok (.goto (-22), 3) := by decide +kernel
theorem dX3_init_50 : decode cX3_init 50 = .ok (.return_, 1) := by decide +kernel
theorem dX3_push_0 : decode cX3_push 0 = .ok (.aload_n 0, 1) := by decide +kernel
theorem dX3_push_1 : decode cX3_push 1 = .ok (.getfield 11, 3) := by decide +kernel
theorem dX3_push_4 : decode cX3_push 4 = .ok (.aload_n 0, 1) := by decide +kernel
theorem dX3_push_5 : decode cX3_push 5 = .ok (.getfield 17, 3) := by decide +kernel
theorem dX3_push_8 : decode cX3_push 8 = .ok (.aaload, 1) := by decide +kernel
theorem dX3_push_9 : decode cX3_push 9 = .ok (.aload_n 1, 1) := by decide +kernel
theorem dX3_push_10 : decode cX3_push 10 = .ok (.invokevirtual 25, 3) := by decide +kernel
theorem dX3_push_13 : decode cX3_push 13 = .ok (.aload_n 0, 1) := by decide +kernel
theorem dX3_push_14 : decode cX3_push 14 = .ok (.aload_n 0, 1) := by decide +kernel
theorem dX3_push_15 : decode cX3_push 15 = .ok (.getfield 17, 3) := by decide +kernel
theorem dX3_push_18 : decode cX3_push 18 = .ok (.iconst 1, 1) := by decide +kernel
theorem dX3_push_19 : decode cX3_push 19 = .ok (.iadd, 1) := by decide +kernel
theorem dX3_push_20 : decode cX3_push 20 = .ok (.bipush 8, 2) := by decide +kernel
theorem dX3_push_22 : decode cX3_push 22 = .ok (.irem, 1) := by decide +kernel
theorem dX3_push_23 : decode cX3_push 23 = .ok (.putfield 17, 3) := by decide +kernel
theorem dX3_push_26 : decode cX3_push 26 = .ok (.aload_n 0, 1) := by decide +kernel
theorem dX3_push_27 : decode cX3_push 27 = .ok (.aload_n 0, 1) := by decide +kernel
theorem dX3_push_28 : decode cX3_push 28 = .ok (.getfield 21, 3) := by decide +kernel
theorem dX3_push_31 : decode cX3_push 31 = .ok (.iconst 1, 1) := by decide +kernel
theorem dX3_push_32 : decode cX3_push 32 = .ok (.iadd, 1) := by decide +kernel
theorem dX3_push_33 : decode cX3_push 33 = .ok (.bipush 8, 2) := by decide +kernel
theorem dX3_push_35 : decode cX3_push 35 = .ok (.invokestatic 29, 3) := by decide +kernel
theorem dX3_push_38 : decode cX3_push 38 = .ok (.putfield 21, 3) := by decide +kernel
theorem dX3_push_41 : decode cX3_push 41 = .ok (.return_, 1) := by decide +kernel
theorem dX3_popInto_0 : decode cX3_popInto 0 = .ok (.aload_n 0, 1) := by decide +kernel
theorem dX3_popInto_1 : decode cX3_popInto 1 = .ok (.aload_n 0, 1) := by decide +kernel
theorem dX3_popInto_2 : decode cX3_popInto 2 = .ok (.getfield 17, 3) := by decide +kernel
theorem dX3_popInto_5 : decode cX3_popInto 5 = .ok (.bipush 8, 2) := by decide +kernel
theorem dX3_popInto_7 : decode cX3_popInto 7 = .ok (.iadd, 1) := by decide +kernel
theorem dX3_popInto_8 : decode cX3_popInto 8 = .ok (.iconst 1, 1) := by decide +kernel
theorem dX3_popInto_9 : decode cX3_popInto 9 = .ok (.isub, 1) := by decide +kernel
theorem dX3_popInto_10 : decode cX3_popInto 10 = .ok (.bipush 8, 2) := by decide +kernel
theorem dX3_popInto_12 : decode cX3_popInto 12 = .ok (.irem, 1) := by decide +kernel
theorem dX3_popInto_13 : decode cX3_popInto 13 = .ok (.putfield 17, 3) := by decide +kernel
theorem dX3_popInto_16 : decode cX3_popInto 16 = .ok (.aload_n 1, 1) := by decide +kernel
theorem dX3_popInto_17 : decode cX3_popInto 17 = .ok (.aload_n 0, 1) := by decide +kernel
theorem dX3_popInto_18 : decode cX3_popInto 18 = .ok (.getfield 11, 3) := by decide +kernel
theorem dX3_popInto_21 : decode cX3_popInto 21 = .ok (.aload_n 0, 1) := by decide +kernel
theorem dX3_popInto_22 : decode cX3_popInto 22 = .ok (.getfield 17, 3) := by decide +kernel
theorem dX3_popInto_25 : decode cX3_popInto 25 = .ok (.aaload, 1) := by decide +kernel
theorem dX3_popInto_26 : decode cX3_popInto 26 = .ok (.invokevirtual 25, 3) := by decide +kernel
theorem dX3_popInto_29 : decode cX3_popInto 29 = .ok (.aload_n 0, 1) := by decide +kernel
theorem dX3_popInto_30 : decode cX3_popInto 30 = .ok (.dup, 1) := by decide +kernel
theorem dX3_popInto_31 : decode cX3_popInto 31 = .ok (.getfield 21, 3) := by decide +kernel
theorem dX3_popInto_34 : decode cX3_popInto 34 = .ok (.iconst 1, 1) := by decide +kernel
theorem dX3_popInto_35 : decode cX3_popInto 35 = .ok (.isub, 1) := by decide +kernel
theorem dX3_popInto_36 : decode cX3_popInto 36 = .ok (.putfield 21, 3) := by decide +kernel
theorem dX3_popInto_39 : decode cX3_popInto 39 = .ok (.return_, 1) := by decide +kernel
theorem dX4_init_0 : decode cX4_init 0 = .ok (.aload_n 0, 1) := by decide +kernel
theorem dX4_init_1 : decode cX4_init 1 = .ok (.invokespecial 3, 3) := by decide +kernel
theorem dX4_init_4 : decode cX4_init 4 = .ok (.aload_n 0, 1) := by decide +kernel
theorem dX4_init_5 : decode cX4_init 5 = .ok (.bipush 60, 2) := by decide +kernel
theorem dX4_init_7 : decode cX4_init 7 = .ok (.newarray .char, 2) := by decide +kernel
theorem dX4_init_9 : decode cX4_init 9 = .ok (.putfield 9, 3) := by decide +kernel
theorem dX4_init_12 : decode cX4_init 12 = .ok (.aload_n 0, 1) := by decide +kernel
theorem dX4_init_13 : decode cX4_init 13 = .ok (.iconst 0, 1) := by decide +kernel
theorem dX4_init_14 : decode cX4_init 14 = .ok (.putfield 15, 3) := by decide +kernel
theorem dX4_init_17 : decode cX4_init 17 = .ok (.aload_n 0, 1) := by decide +kernel
theorem dX4_init_18 : decode cX4_init 18 = .ok (.iconst 0, 1) := by decide +kernel
theorem dX4_init_19 : decode cX4_init 19 = .ok (.putfield 19, 3) := by decide +kernel
theorem dX4_init_22 : decode cX4_init 22 = .ok (.aload_n 0, 1) := by decide +kernel
theorem dX4_init_23 : decode cX4_init 23 = .ok (.iconst 0, 1) := by decide +kernel
theorem dX4_init_24 : decode cX4_init 24 = .ok (.putfield 22, 3) := by decide +kernel
theorem dX4_init_27 : decode cX4_init 27 = .ok (.aload_n 0, 1) := by decide +kernel
theorem dX4_init_28 : decode cX4_init 28 = .ok (.iconst 0, 1) := by decide +kernel
theorem dX4_init_29 : decode cX4_init 29 = .ok (.putfield 26, 3) := by decide +kernel
theorem dX4_init_32 : decode cX4_init 32 = .ok (.aload_n 0, 1) := by decide +kernel
theorem dX4_init_33 : decode cX4_init 33 = .ok (.bipush 60, 2) := by decide +kernel
theorem dX4_init_35 : decode cX4_init 35 = .ok (.newarray .int, 2) := by decide +kernel
theorem dX4_init_37 : decode cX4_init 37 = .ok (.putfield 29, 3) := by decide +kernel
theorem dX4_init_40 : decode cX4_init 40 = .ok (.aload_n 0, 1) := by decide +kernel
theorem dX4_init_41 : decode cX4_init 41 = .ok (.bipush 60, 2) := by decide +kernel
theorem dX4_init_43 : decode cX4_init 43 = .ok (.newarray .int, 2) := by decide +kernel
theorem dX4_init_45 : decode cX4_init 45 = .ok (.putfield 33, 3) := by decide +kernel
theorem dX4_init_48 : decode cX4_init 48 = .ok (.aload_n 0, 1) := by decide +kernel
theorem dX4_init_49 : decode cX4_init 49 = .ok (.bipush 60, 2) := by decide +kernel
theorem dX4_init_51 : decode cX4_init 51 = .ok (.newarray .int, 2) := by decide +kernel
theorem dX4_init_53 : decode cX4_init 53 = .ok (.putfield 36, 3) := by decide +kernel
theorem dX4_init_56 : decode cX4_init 56 = .ok (.aload_n 0, 1) := by decide +kernel
theorem dX4_init_57 : decode cX4_init 57 = .ok (.bipush 60, 2) := by decide +kernel
theorem dX4_init_59 : decode cX4_init 59 = .ok (.newarray .int, 2) := by decide +kernel
theorem dX4_init_61 : decode cX4_init 61 = .ok (.putfield 39, 3) := by decide +kernel
theorem dX4_init_64 : decode cX4_init 64 = .ok (.return_, 1) := by decide +kernel
theorem dX4_readAll_0 : decode cX4_readAll 0 = .ok (.aload_n 0, 1) := by decide +kernel
theorem dX4_readAll_1 : decode cX4_readAll 1 = .ok (.iconst 0, 1) := by decide +kernel
theorem dX4_readAll_2 : decode cX4_readAll 2 = .ok (.putfield 19, 3) := by decide +kernel
theorem dX4_readAll_5 : decode cX4_readAll 5 = .ok (.aload_n 0, 1) := by decide +kernel
theorem dX4_readAll_6 : decode cX4_readAll 6 = .ok (.iconst 0, 1) := by decide +kernel
theorem dX4_readAll_7 : decode cX4_readAll 7 = .ok (.putfield 26, 3) := by decide +kernel
theorem dX4_readAll_10 : decode cX4_readAll 10 = .ok (.aload_n 0, 1) := by decide +kernel
theorem dX4_readAll_11 : decode cX4_readAll 11 = .ok (.getfield 26, 3) := by decide +kernel
theorem dX4_readAll_14 : decode cX4_readAll 14 = .ok (.bipush 60, 2) := by decide +kernel
theorem dX4_readAll_16 : decode cX4_readAll 16 = .ok (.if_icmp .ge 44, 3) := by decide +kernel
theorem dX4_readAll_19 : decode cX4_readAll 19 = .ok (.aload_n 0, 1) := by decide +kernel
theorem dX4_readAll_20 : decode cX4_readAll 20 = .ok (.invokevirtual 42, 3) := by decide +kernel
theorem dX4_readAll_23 : decode cX4_readAll 23 = .ok (.ifCond .eq 37, 3) := by decide +kernel
theorem dX4_readAll_26 : decode cX4_readAll 26 = .ok (.aload_n 0, 1) := by decide +kernel
theorem dX4_readAll_27 : decode cX4_readAll 27 = .ok (.dup, 1) := by decide +kernel
theorem dX4_readAll_28 : decode cX4_readAll 28 = .ok (.getfield 26, 3) := by decide +kernel
theorem dX4_readAll_31 : decode cX4_readAll 31 = .ok (.iconst 1, 1) := by decide +kernel
theorem dX4_readAll_32 : decode cX4_readAll 32 = .ok (.iadd, 1) := by decide +kernel
theorem dX4_readAll_33 : decode cX4_readAll 33 = .ok (.putfield 26, 3) := by decide +kernel
theorem dX4_readAll_36 : decode cX4_readAll 36 = .ok (.aload_n 0, 1) := by decide +kernel
theorem dX4_readAll_37 : decode cX4_readAll 37 = .ok (.getfield 19, 3) := by decide +kernel
theorem dX4_readAll_40 : decode cX4_readAll 40 = .ok (.aload_n 0, 1) := by decide +kernel
theorem dX4_readAll_41 : decode cX4_readAll 41 = .ok (.getfield 15, 3) := by decide +kernel
theorem dX4_readAll_44 : decode cX4_readAll 44 = .ok (.if_icmp .ne 5, 3) := by decide +kernel
theorem dX4_readAll_47 : decode cX4_readAll 47 = .ok (.iconst 1, 1) := by decide +kernel
theorem dX4_readAll_48 : decode cX4_readAll 48 = .ok (.ireturn, 1) := by decide +kernel
theorem dX4_readAll_49 : decode cX4_readAll 49 = .ok (.aload_n 0, 1) := by decide +kernel
theorem dX4_readAll_50 : decode cX4_readAll 50 = .ok (.ldc 46, 2) := by decide +kernel
theorem dX4_readAll_52 : decode cX4_readAll 52 = .ok (.invokevirtual 48, 3) := by decide +kernel
theorem dX4_readAll_55 : decode cX4_readAll 55 = .ok (.ifCond .ne (-45), 3) := by decide +kernel
theorem dX4_readAll_58 : decode cX4_readAll 58 = .ok (.iconst 0, 1) := by decide +kernel
theorem dX4_readAll_59 : decode cX4_readAll 59 = .ok (.ireturn, 1) := by decide +kernel
theorem dX4_readAll_60 : decode cX4_readAll 60 = .ok (.iconst 0, 1) := by decide +kernel
theorem dX4_readAll_61 : decode cX4_readAll 61 = .ok (.ireturn, 1) := by decide +kernel
theorem dX4_readCommand_0 : decode cX4_readCommand 0 = .ok (.aload_n 0, 1) := by decide +kernel
theorem dX4_readCommand_1 : decode cX4_readCommand 1 = .ok (.getfield 19, 3) := by decide +kernel
theorem dX4_readCommand_4 : decode cX4_readCommand 4 = .ok (.aload_n 0, 1) := by decide +kernel
theorem dX4_readCommand_5 : decode cX4_readCommand 5 = .ok (.getfield 15, 3) := by decide +kernel
theorem dX4_readCommand_8 : decode cX4_readCommand 8 = .ok (.if_icmp .lt 5, 3) := by decide +kernel
theorem dX4_readCommand_11 : decode cX4_readCommand 11 = .ok (.iconst 0, 1) := by decide +kernel
theorem dX4_readCommand_12 : decode cX4_readCommand 12 = .ok (.ireturn, 1) := by decide +kernel
theorem dX4_readCommand_13 : decode cX4_readCommand 13 = .ok (.aload_n 0, 1) := by decide +kernel
theorem dX4_readCommand_14 : decode cX4_readCommand 14 = .ok (.getfield 29, 3) := by decide +kernel
theorem dX4_readCommand_17 : decode cX4_readCommand 17 = .ok (.aload_n 0, 1) := by decide +kernel
theorem dX4_readCommand_18 : decode cX4_readCommand 18 = .ok (.getfield 26, 3) := by decide +kernel
theorem dX4_readCommand_21 : decode cX4_readCommand 21 = .ok (.aload_n 0, 1) := by decide +kernel
theorem dX4_readCommand_22 : decode cX4_readCommand 22 = .ok (.getfield 9, 3) := by decide +kernel
theorem dX4_readCommand_25 : decode cX4_readCommand 25 = .ok (.aload_n 0, 1) := by decide +kernel
theorem dX4_readCommand_26 : decode cX4_readCommand 26 = .ok (.getfield 19, 3) := by decide +kernel
theorem dX4_readCommand_29 : decode cX4_readCommand 29 = .ok (.caload, 1) := by decide +kernel
theorem dX4_readCommand_30 : decode cX4_readCommand 30 = .ok (.iastore, 1) := by decide +kernel
theorem dX4_readCommand_31 : decode cX4_readCommand 31 = .ok (.aload_n 0, 1) := by decide +kernel
theorem dX4_readCommand_32 : decode cX4_readCommand 32 = .ok (.getfield 29, 3) := by decide +kernel
theorem dX4_readCommand_35 : decode cX4_readCommand 35 = .ok (.aload_n 0, 1) := by decide +kernel
theorem dX4_readCommand_36 : decode cX4_readCommand 36 = .ok (.getfield 26, 3) := by decide +kernel
theorem dX4_readCommand_39 : decode cX4_readCommand 39 = .ok (.iaload, 1) := by decide +kernel
theorem dX4_readCommand_40 : decode cX4_readCommand 40 = .ok (.tableswitch 207 98 119 #[104, 207, 180, 207, 207, 207, 207, 207, 207, 207, 207, 207, 207, 114, 207, 207, 158, 136, 207, 207, 109, 202], 104) := by decide +kernel
theorem dX4_readCommand_144 : decode cX4_readCommand 144 = .ok (.aload_n 0, 1) := by decide +kernel
theorem dX4_readCommand_145 : decode cX4_readCommand 145 = .ok (.invokevirtual 52, 3) := by decide +kernel
theorem dX4_readCommand_148 : decode cX4_readCommand 148 = .ok (.ireturn, 1) := by decide +kernel
theorem dX4_readCommand_149 : decode cX4_readCommand 149 = .ok (.aload_n 0, 1) := by decide +kernel
theorem dX4_readCommand_150 : decode cX4_readCommand 150 = .ok (.invokevirtual 55, 3) := by decide +kernel
theorem dX4_readCommand_153 : decode cX4_readCommand 153 = .ok (.ireturn, 1) := by decide +kernel
theorem dX4_readCommand_154 : decode cX4_readCommand 154 = .ok (.aload_n 0, 1) := by decide +kernel
theorem dX4_readCommand_155 : decode cX4_readCommand 155 = .ok (.ldc 58, 2) := by decide +kernel
theorem dX4_readCommand_157 : decode cX4_readCommand 157 = .ok (.invokevirtual 60, 3) := by decide +kernel
theorem dX4_readCommand_160 : decode cX4_readCommand 160 = .ok (.ifCond .eq 14, 3) := by decide +kernel
theorem dX4_readCommand_163 : decode cX4_readCommand 163 = .ok (.aload_n 0, 1) := by decide +kernel
theorem dX4_readCommand_164 : decode cX4_readCommand 164 = .ok (.invokevirtual 63, 3) := by decide +kernel
theorem dX4_readCommand_167 : decode cX4_readCommand 167 = .ok (.ifCond .eq 7, 3) := by decide +kernel
theorem dX4_readCommand_170 : decode cX4_readCommand 170 = .ok (.iconst 1, 1) := by decide +kernel
theorem dX4_readCommand_171 : decode cX4_readCommand 171 = .ok (.goto 4, 3) := by decide +kernel
theorem dX4_readCommand_174 : decode cX4_readCommand 174 = .ok (.iconst 0, 1) := by decide +kernel
theorem dX4_readCommand_175 : decode cX4_readCommand 175 = .ok (.ireturn, 1) := by decide +kernel
theorem dX4_readCommand_176 : decode cX4_readCommand 176 = .ok (.aload_n 0, 1) := by decide +kernel
theorem dX4_readCommand_177 : decode cX4_readCommand 177 = .ok (.ldc 66, 2) := by decide +kernel
theorem dX4_readCommand_179 : decode cX4_readCommand 179 = .ok (.invokevirtual 60, 3) := by decide +kernel
theorem dX4_readCommand_182 : decode cX4_readCommand 182 = .ok (.ifCond .eq 14, 3) := by decide +kernel
theorem dX4_readCommand_185 : decode cX4_readCommand 185 = .ok (.aload_n 0, 1) := by decide +kernel
theorem dX4_readCommand_186 : decode cX4_readCommand 186 = .ok (.invokevirtual 63, 3) := by decide +kernel
theorem dX4_readCommand_189 : decode cX4_readCommand 189 = .ok (.ifCond .eq 7, 3) := by decide +kernel
theorem dX4_readCommand_192 : decode cX4_readCommand 192 = .ok (.iconst 1, 1) := by decide +kernel
theorem dX4_readCommand_193 : decode cX4_readCommand 193 = .ok (.goto 4, 3) := by decide +kernel
theorem dX4_readCommand_196 : decode cX4_readCommand 196 = .ok (.iconst 0, 1) := by decide +kernel
theorem dX4_readCommand_197 : decode cX4_readCommand 197 = .ok (.ireturn, 1) := by decide +kernel
theorem dX4_readCommand_198 : decode cX4_readCommand 198 = .ok (.aload_n 0, 1) := by decide +kernel
theorem dX4_readCommand_199 : decode cX4_readCommand 199 = .ok (.ldc 68, 2) := by decide +kernel
theorem dX4_readCommand_201 : decode cX4_readCommand 201 = .ok (.invokevirtual 60, 3) := by decide +kernel
theorem dX4_readCommand_204 : decode cX4_readCommand 204 = .ok (.ifCond .eq 14, 3) := by decide +kernel
theorem dX4_readCommand_207 : decode cX4_readCommand 207 = .ok (.aload_n 0, 1) := by decide +kernel
theorem dX4_readCommand_208 : decode cX4_readCommand 208 = .ok (.invokevirtual 63, 3) := by decide +kernel
theorem dX4_readCommand_211 : decode cX4_readCommand 211 = .ok (.ifCond .eq 7, 3) := by decide +kernel
theorem dX4_readCommand_214 : decode cX4_readCommand 214 = .ok (.iconst 1, 1) := by decide +kernel
theorem dX4_readCommand_215 : decode cX4_readCommand 215 = .ok (.goto 4, 3) := by decide +kernel
theorem dX4_readCommand_218 : decode cX4_readCommand 218 = .ok (.iconst 0, 1) := by decide +kernel
theorem dX4_readCommand_219 : decode cX4_readCommand 219 = .ok (.ireturn, 1) := by decide +kernel
theorem dX4_readCommand_220 : decode cX4_readCommand 220 = .ok (.aload_n 0, 1) := by decide +kernel
theorem dX4_readCommand_221 : decode cX4_readCommand 221 = .ok (.ldc 70, 2) := by decide +kernel
theorem dX4_readCommand_223 : decode cX4_readCommand 223 = .ok (.invokevirtual 60, 3) := by decide +kernel
theorem dX4_readCommand_226 : decode cX4_readCommand 226 = .ok (.ifCond .eq 14, 3) := by decide +kernel
theorem dX4_readCommand_229 : decode cX4_readCommand 229 = .ok (.aload_n 0, 1) := by decide +kernel
theorem dX4_readCommand_230 : decode cX4_readCommand 230 = .ok (.invokevirtual 63, 3) := by decide +kernel
theorem dX4_readCommand_233 : decode cX4_readCommand 233 = .ok (.ifCond .eq 7, 3) := by decide +kernel
theorem dX4_readCommand_236 : decode cX4_readCommand 236 = .ok (.iconst 1, 1) := by decide +kernel
theorem dX4_readCommand_237 : decode cX4_readCommand 237 = .ok (.goto 4, 3) := by decide +kernel
theorem dX4_readCommand_240 : decode cX4_readCommand 240 = .ok (.iconst 0, 1) := by decide +kernel
theorem dX4_readCommand_241 : decode cX4_readCommand 241 = .ok (.ireturn, 1) := by decide +kernel
theorem dX4_readCommand_242 : decode cX4_readCommand 242 = .ok (.aload_n 0, 1) := by decide +kernel
theorem dX4_readCommand_243 : decode cX4_readCommand 243 = .ok (.invokevirtual 72, 3) := by decide +kernel
theorem dX4_readCommand_246 : decode cX4_readCommand 246 = .ok (.ireturn, 1) := by decide +kernel
theorem dX4_readCommand_247 : decode cX4_readCommand 247 = .ok (.iconst 0, 1) := by decide +kernel
theorem dX4_readCommand_248 : decode cX4_readCommand 248 = .ok (.ireturn, 1) := by decide +kernel
theorem dX4_readBoat_0 : decode cX4_readBoat 0 = .ok (.aload_n 0, 1) := by decide +kernel
theorem dX4_readBoat_1 : decode cX4_readBoat 1 = .ok (.ldc 75, 2) := by decide +kernel
theorem dX4_readBoat_3 : decode cX4_readBoat 3 = .ok (.invokevirtual 60, 3) := by decide +kernel
theorem dX4_readBoat_6 : decode cX4_readBoat 6 = .ok (.ifCond .eq 12, 3) := by decide +kernel
theorem dX4_readBoat_9 : decode cX4_readBoat 9 = .ok (.aload_n 0, 1) := by decide +kernel
theorem dX4_readBoat_10 : decode cX4_readBoat 10 = .ok (.ldc 77, 2) := by decide +kernel
theorem dX4_readBoat_12 : decode cX4_readBoat 12 = .ok (.invokevirtual 48, 3) := by decide +kernel
theorem dX4_readBoat_15 : decode cX4_readBoat 15 = .ok (.ifCond .ne 5, 3) := by decide +kernel
theorem dX4_readBoat_18 : decode cX4_readBoat 18 = .ok (.iconst 0, 1) := by decide +kernel
theorem dX4_readBoat_19 : decode cX4_readBoat 19 = .ok (.ireturn, 1) := by decide +kernel
theorem dX4_readBoat_20 : decode cX4_readBoat 20 = .ok (.aload_n 0, 1) := by decide +kernel
theorem dX4_readBoat_21 : decode cX4_readBoat 21 = .ok (.getfield 33, 3) := by decide +kernel
theorem dX4_readBoat_24 : decode cX4_readBoat 24 = .ok (.aload_n 0, 1) := by decide +kernel
theorem dX4_readBoat_25 : decode cX4_readBoat 25 = .ok (.getfield 26, 3) := by decide +kernel
theorem dX4_readBoat_28 : decode cX4_readBoat 28 = .ok (.aload_n 0, 1) := by decide +kernel
theorem dX4_readBoat_29 : decode cX4_readBoat 29 = .ok (.getfield 22, 3) := by decide +kernel
theorem dX4_readBoat_32 : decode cX4_readBoat 32 = .ok (.iastore, 1) := by decide +kernel
theorem dX4_readBoat_33 : decode cX4_readBoat 33 = .ok (.aload_n 0, 1) := by decide +kernel
theorem dX4_readBoat_34 : decode cX4_readBoat 34 = .ok (.ldc 79, 2) := by decide +kernel
theorem dX4_readBoat_36 : decode cX4_readBoat 36 = .ok (.invokevirtual 48, 3) := by decide +kernel
theorem dX4_readBoat_39 : decode cX4_readBoat 39 = .ok (.ifCond .ne 5, 3) := by decide +kernel
theorem dX4_readBoat_42 : decode cX4_readBoat 42 = .ok (.iconst 0, 1) := by decide +kernel
theorem dX4_readBoat_43 : decode cX4_readBoat 43 = .ok (.ireturn, 1) := by decide +kernel
theorem dX4_readBoat_44 : decode cX4_readBoat 44 = .ok (.aload_n 0, 1) := by decide +kernel
theorem dX4_readBoat_45 : decode cX4_readBoat 45 = .ok (.getfield 36, 3) := by decide +kernel
theorem dX4_readBoat_48 : decode cX4_readBoat 48 = .ok (.aload_n 0, 1) := by decide +kernel
theorem dX4_readBoat_49 : decode cX4_readBoat 49 = .ok (.getfield 26, 3) := by decide +kernel
theorem dX4_readBoat_52 : decode cX4_readBoat 52 = .ok (.aload_n 0, 1) := by decide +kernel
theorem dX4_readBoat_53 : decode cX4_readBoat 53 = .ok (.getfield 22, 3) := by decide +kernel
theorem dX4_readBoat_56 : decode cX4_readBoat 56 = .ok (.bipush 48, 2) := by decide +kernel
theorem dX4_readBoat_58 : decode cX4_readBoat 58 = .ok (.isub, 1) := by decide +kernel
theorem dX4_readBoat_59 : decode cX4_readBoat 59 = .ok (.iastore, 1) := by decide +kernel
theorem dX4_readBoat_60 : decode cX4_readBoat 60 = .ok (.aload_n 0, 1) := by decide +kernel
theorem dX4_readBoat_61 : decode cX4_readBoat 61 = .ok (.ldc 81, 2) := by decide +kernel
theorem dX4_readBoat_63 : decode cX4_readBoat 63 = .ok (.invokevirtual 48, 3) := by decide +kernel
theorem dX4_readBoat_66 : decode cX4_readBoat 66 = .ok (.ifCond .eq 12, 3) := by decide +kernel
theorem dX4_readBoat_69 : decode cX4_readBoat 69 = .ok (.aload_n 0, 1) := by decide +kernel
theorem dX4_readBoat_70 : decode cX4_readBoat 70 = .ok (.ldc 83, 2) := by decide +kernel
theorem dX4_readBoat_72 : decode cX4_readBoat 72 = .ok (.invokevirtual 48, 3) := by decide +kernel
theorem dX4_readBoat_75 : decode cX4_readBoat 75 = .ok (.ifCond .ne 5, 3) := by decide +kernel
theorem dX4_readBoat_78 : decode cX4_readBoat 78 = .ok (.iconst 0, 1) := by decide +kernel
theorem dX4_readBoat_79 : decode cX4_readBoat 79 = .ok (.ireturn, 1) := by decide +kernel
theorem dX4_readBoat_80 : decode cX4_readBoat 80 = .ok (.aload_n 0, 1) := by decide +kernel
theorem dX4_readBoat_81 : decode cX4_readBoat 81 = .ok (.getfield 39, 3) := by decide +kernel
theorem dX4_readBoat_84 : decode cX4_readBoat 84 = .ok (.aload_n 0, 1) := by decide +kernel
theorem dX4_readBoat_85 : decode cX4_readBoat 85 = .ok (.getfield 26, 3) := by decide +kernel
theorem dX4_readBoat_88 : decode cX4_readBoat 88 = .ok (.aload_n 0, 1) := by decide +kernel
theorem dX4_readBoat_89 : decode cX4_readBoat 89 = .ok (.getfield 22, 3) := by decide +kernel
theorem dX4_readBoat_92 : decode cX4_readBoat 92 = .ok (.bipush 100, 2) := by decide +kernel
theorem dX4_readBoat_94 : decode cX4_readBoat 94 = .ok (.if_icmp .ne 7, 3) := by decide +kernel
theorem dX4_readBoat_97 : decode cX4_readBoat 97 = .ok (.iconst 1, 1) := by decide +kernel
theorem dX4_readBoat_98 : decode cX4_readBoat 98 = .ok (.goto 4, 3) := by decide +kernel
theorem dX4_readBoat_101 : decode cX4_readBoat 101 = .ok (.iconst 0, 1) := by decide +kernel
theorem dX4_readBoat_102 : decode cX4_readBoat 102 = .ok (.iastore, 1) := by decide +kernel
theorem dX4_readBoat_103 : decode cX4_readBoat 103 = .ok (.iconst 1, 1) := by decide +kernel
theorem dX4_readBoat_104 : decode cX4_readBoat 104 = .ok (.ireturn, 1) := by decide +kernel
theorem dX4_readValve_0 : decode cX4_readValve 0 = .ok (.aload_n 0, 1) := by decide +kernel
theorem dX4_readValve_1 : decode cX4_readValve 1 = .ok (.ldc 85, 2) := by decide +kernel
theorem dX4_readValve_3 : decode cX4_readValve 3 = .ok (.invokevirtual 60, 3) := by decide +kernel
theorem dX4_readValve_6 : decode cX4_readValve 6 = .ok (.ifCond .eq 28, 3) := by decide +kernel
theorem dX4_readValve_9 : decode cX4_readValve 9 = .ok (.aload_n 0, 1) := by decide +kernel
theorem dX4_readValve_10 : decode cX4_readValve 10 = .ok (.invokevirtual 63, 3) := by decide +kernel
theorem dX4_readValve_13 : decode cX4_readValve 13 = .ok (.ifCond .eq 21, 3) := by decide +kernel
theorem dX4_readValve_16 : decode cX4_readValve 16 = .ok (.aload_n 0, 1) := by decide +kernel
theorem dX4_readValve_17 : decode cX4_readValve 17 = .ok (.ldc 81, 2) := by decide +kernel
theorem dX4_readValve_19 : decode cX4_readValve 19 = .ok (.invokevirtual 48, 3) := by decide +kernel
theorem dX4_readValve_22 : decode cX4_readValve 22 = .ok (.ifCond .eq 12, 3) := by decide +kernel
theorem dX4_readValve_25 : decode cX4_readValve 25 = .ok (.aload_n 0, 1) := by decide +kernel
theorem dX4_readValve_26 : decode cX4_readValve 26 = .ok (.ldc 79, 2) := by decide +kernel
theorem dX4_readValve_28 : decode cX4_readValve 28 = .ok (.invokevirtual 48, 3) := by decide +kernel
theorem dX4_readValve_31 : decode cX4_readValve 31 = .ok (.ifCond .ne 5, 3) := by decide +kernel
theorem dX4_readValve_34 : decode cX4_readValve 34 = .ok (.iconst 0, 1) := by decide +kernel
theorem dX4_readValve_35 : decode cX4_readValve 35 = .ok (.ireturn, 1) := by decide +kernel
theorem dX4_readValve_36 : decode cX4_readValve 36 = .ok (.aload_n 0, 1) := by decide +kernel
theorem dX4_readValve_37 : decode cX4_readValve 37 = .ok (.getfield 36, 3) := by decide +kernel
theorem dX4_readValve_40 : decode cX4_readValve 40 = .ok (.aload_n 0, 1) := by decide +kernel
theorem dX4_readValve_41 : decode cX4_readValve 41 = .ok (.getfield 26, 3) := by decide +kernel
theorem dX4_readValve_44 : decode cX4_readValve 44 = .ok (.aload_n 0, 1) := by decide +kernel
theorem dX4_readValve_45 : decode cX4_readValve 45 = .ok (.getfield 22, 3) := by decide +kernel
theorem dX4_readValve_48 : decode cX4_readValve 48 = .ok (.bipush 48, 2) := by decide +kernel
theorem dX4_readValve_50 : decode cX4_readValve 50 = .ok (.isub, 1) := by decide +kernel
theorem dX4_readValve_51 : decode cX4_readValve 51 = .ok (.iastore, 1) := by decide +kernel
theorem dX4_readValve_52 : decode cX4_readValve 52 = .ok (.iconst 1, 1) := by decide +kernel
theorem dX4_readValve_53 : decode cX4_readValve 53 = .ok (.ireturn, 1) := by decide +kernel
theorem dX4_readFirst_0 : decode cX4_readFirst 0 = .ok (.aload_n 0, 1) := by decide +kernel
theorem dX4_readFirst_1 : decode cX4_readFirst 1 = .ok (.ldc 79, 2) := by decide +kernel
theorem dX4_readFirst_3 : decode cX4_readFirst 3 = .ok (.invokevirtual 48, 3) := by decide +kernel
theorem dX4_readFirst_6 : decode cX4_readFirst 6 = .ok (.ifCond .ne 5, 3) := by decide +kernel
theorem dX4_readFirst_9 : decode cX4_readFirst 9 = .ok (.iconst 0, 1) := by decide +kernel
theorem dX4_readFirst_10 : decode cX4_readFirst 10 = .ok (.ireturn, 1) := by decide +kernel
theorem dX4_readFirst_11 : decode cX4_readFirst 11 = .ok (.aload_n 0, 1) := by decide +kernel
theorem dX4_readFirst_12 : decode cX4_readFirst 12 = .ok (.getfield 33, 3) := by decide +kernel
theorem dX4_readFirst_15 : decode cX4_readFirst 15 = .ok (.aload_n 0, 1) := by decide +kernel
theorem dX4_readFirst_16 : decode cX4_readFirst 16 = .ok (.getfield 26, 3) := by decide +kernel
theorem dX4_readFirst_19 : decode cX4_readFirst 19 = .ok (.aload_n 0, 1) := by decide +kernel
theorem dX4_readFirst_20 : decode cX4_readFirst 20 = .ok (.getfield 22, 3) := by decide +kernel
theorem dX4_readFirst_23 : decode cX4_readFirst 23 = .ok (.bipush 48, 2) := by decide +kernel
theorem dX4_readFirst_25 : decode cX4_readFirst 25 = .ok (.isub, 1) := by decide +kernel
theorem dX4_readFirst_26 : decode cX4_readFirst 26 = .ok (.iastore, 1) := by decide +kernel
theorem dX4_readFirst_27 : decode cX4_readFirst 27 = .ok (.iconst 1, 1) := by decide +kernel
theorem dX4_readFirst_28 : decode cX4_readFirst 28 = .ok (.ireturn, 1) := by decide +kernel
theorem dX4_readWait_0 : decode cX4_readWait 0 = .ok (.aload_n 0, 1) := by decide +kernel
theorem dX4_readWait_1 : decode cX4_readWait 1 = .ok (.ldc 87, 2) := by decide +kernel
theorem dX4_readWait_3 : decode cX4_readWait 3 = .ok (.invokevirtual 60, 3) := by decide +kernel
theorem dX4_readWait_6 : decode cX4_readWait 6 = .ok (.ifCond .ne 5, 3) := by decide +kernel
theorem dX4_readWait_9 : decode cX4_readWait 9 = .ok (.iconst 0, 1) := by decide +kernel
theorem dX4_readWait_10 : decode cX4_readWait 10 = .ok (.ireturn, 1) := by decide +kernel
theorem dX4_readWait_11 : decode cX4_readWait 11 = .ok (.aload_n 0, 1) := by decide +kernel
theorem dX4_readWait_12 : decode cX4_readWait 12 = .ok (.getfield 33, 3) := by decide +kernel
theorem dX4_readWait_15 : decode cX4_readWait 15 = .ok (.aload_n 0, 1) := by decide +kernel
theorem dX4_readWait_16 : decode cX4_readWait 16 = .ok (.getfield 26, 3) := by decide +kernel
theorem dX4_readWait_19 : decode cX4_readWait 19 = .ok (.iconst 1, 1) := by decide +kernel
theorem dX4_readWait_20 : decode cX4_readWait 20 = .ok (.iastore, 1) := by decide +kernel
theorem dX4_readWait_21 : decode cX4_readWait 21 = .ok (.aload_n 0, 1) := by decide +kernel
theorem dX4_readWait_22 : decode cX4_readWait 22 = .ok (.ldc 81, 2) := by decide +kernel
theorem dX4_readWait_24 : decode cX4_readWait 24 = .ok (.invokevirtual 48, 3) := by decide +kernel
theorem dX4_readWait_27 : decode cX4_readWait 27 = .ok (.ifCond .ne 5, 3) := by decide +kernel
theorem dX4_readWait_30 : decode cX4_readWait 30 = .ok (.iconst 1, 1) := by decide +kernel
theorem dX4_readWait_31 : decode cX4_readWait 31 = .ok (.ireturn, 1) := by decide +kernel
theorem dX4_readWait_32 : decode cX4_readWait 32 = .ok (.aload_n 0, 1) := by decide +kernel
theorem dX4_readWait_33 : decode cX4_readWait 33 = .ok (.invokevirtual 63, 3) := by decide +kernel
theorem dX4_readWait_36 : decode cX4_readWait 36 = .ok (.ifCond .ne 5, 3) := by decide +kernel
theorem dX4_readWait_39 : decode cX4_readWait 39 = .ok (.iconst 0, 1) := by decide +kernel
theorem dX4_readWait_40 : decode cX4_readWait 40 = .ok (.ireturn, 1) := by decide +kernel
theorem dX4_readWait_41 : decode cX4_readWait 41 = .ok (.iconst 1, 1) := by decide +kernel
theorem dX4_readWait_42 : decode cX4_readWait 42 = .ok (.istore_n 1, 1) := by decide +kernel
theorem dX4_readWait_43 : decode cX4_readWait 43 = .ok (.iload_n 1, 1) := by decide +kernel
theorem dX4_readWait_44 : decode cX4_readWait 44 = .ok (.iconst 3, 1) := by decide +kernel
theorem dX4_readWait_45 : decode cX4_readWait 45 = .ok (.if_icmp .ge 47, 3) := by decide +kernel
theorem dX4_readWait_48 : decode cX4_readWait 48 = .ok (.aload_n 0, 1) := by decide +kernel
theorem dX4_readWait_49 : decode cX4_readWait 49 = .ok (.ldc 79, 2) := by decide +kernel
theorem dX4_readWait_51 : decode cX4_readWait 51 = .ok (.invokevirtual 48, 3) := by decide +kernel
theorem dX4_readWait_54 : decode cX4_readWait 54 = .ok (.ifCond .eq 38, 3) := by decide +kernel
theorem dX4_readWait_57 : decode cX4_readWait 57 = .ok (.aload_n 0, 1) := by decide +kernel
theorem dX4_readWait_58 : decode cX4_readWait 58 = .ok (.getfield 33, 3) := by decide +kernel
theorem dX4_readWait_61 : decode cX4_readWait 61 = .ok (.aload_n 0, 1) := by decide +kernel
theorem dX4_readWait_62 : decode cX4_readWait 62 = .ok (.getfield 26, 3) := by decide +kernel
theorem dX4_readWait_65 : decode cX4_readWait 65 = .ok (.bipush 10, 2) := by decide +kernel
theorem dX4_readWait_67 : decode cX4_readWait 67 = .ok (.aload_n 0, 1) := by decide +kernel
theorem dX4_readWait_68 : decode cX4_readWait 68 = .ok (.getfield 33, 3) := by decide +kernel
theorem dX4_readWait_71 : decode cX4_readWait 71 = .ok (.aload_n 0, 1) := by decide +kernel
theorem dX4_readWait_72 : decode cX4_readWait 72 = .ok (.getfield 26, 3) := by decide +kernel
theorem dX4_readWait_75 : decode cX4_readWait 75 = .ok (.iaload, 1) := by decide +kernel
theorem dX4_readWait_76 : decode cX4_readWait 76 = .ok (.imul, 1) := by decide +kernel
theorem dX4_readWait_77 : decode cX4_readWait 77 = .ok (.aload_n 0, 1) := by decide +kernel
theorem dX4_readWait_78 : decode cX4_readWait 78 = .ok (.getfield 22, 3) := by decide +kernel
theorem dX4_readWait_81 : decode cX4_readWait 81 = .ok (.iadd, 1) := by decide +kernel
theorem dX4_readWait_82 : decode cX4_readWait 82 = .ok (.bipush 48, 2) := by decide +kernel
theorem dX4_readWait_84 : decode cX4_readWait 84 = .ok (.isub, 1) := by decide +kernel
theorem dX4_readWait_85 : decode cX4_readWait 85 = .ok (.iastore, 1) := by decide +kernel
theorem dX4_readWait_86 : decode cX4_readWait 86 = .ok (.iinc 1 1, 3) := by decide +kernel
theorem dX4_readWait_89 : decode cX4_readWait 89 = .ok (.goto (-46), 3) := by decide +kernel
theorem dX4_readWait_92 : decode cX4_readWait 92 = .ok (.iconst 1, 1) := by decide +kernel
theorem dX4_readWait_93 : decode cX4_readWait 93 = .ok (.ireturn, 1) := by decide +kernel
theorem dX4_readWord_0 : decode cX4_readWord 0 = .ok (.iconst 0, 1) := by decide +kernel
theorem dX4_readWord_1 : decode cX4_readWord 1 = .ok (.istore_n 2, 1) := by decide +kernel
theorem dX4_readWord_2 : decode cX4_readWord 2 = .ok (.iload_n 2, 1) := by decide +kernel
theorem dX4_readWord_3 : decode cX4_readWord 3 = .ok (.aload_n 1, 1) := by decide +kernel
theorem dX4_readWord_4 : decode cX4_readWord 4 = .ok (.invokevirtual 89, 3) := by decide +kernel
theorem dX4_readWord_7 : decode cX4_readWord 7 = .ok (.if_icmp .ge 49, 3) := by decide +kernel
theorem dX4_readWord_10 : decode cX4_readWord 10 = .ok (.aload_n 0, 1) := by decide +kernel
theorem dX4_readWord_11 : decode cX4_readWord 11 = .ok (.getfield 19, 3) := by decide +kernel
theorem dX4_readWord_14 : decode cX4_readWord 14 = .ok (.aload_n 0, 1) := by decide +kernel
theorem dX4_readWord_15 : decode cX4_readWord 15 = .ok (.getfield 15, 3) := by decide +kernel
theorem dX4_readWord_18 : decode cX4_readWord 18 = .ok (.if_icmp .ge 20, 3) := by decide +kernel
theorem dX4_readWord_21 : decode cX4_readWord 21 = .ok (.aload_n 0, 1) := by decide +kernel
theorem dX4_readWord_22 : decode cX4_readWord 22 = .ok (.getfield 9, 3) := by decide +kernel
theorem dX4_readWord_25 : decode cX4_readWord 25 = .ok (.aload_n 0, 1) := by decide +kernel
theorem dX4_readWord_26 : decode cX4_readWord 26 = .ok (.getfield 19, 3) := by decide +kernel
theorem dX4_readWord_29 : decode cX4_readWord 29 = .ok (.caload, 1) := by decide +kernel
theorem dX4_readWord_30 : decode cX4_readWord 30 = .ok (.aload_n 1, 1) := by decide +kernel
theorem dX4_readWord_31 : decode cX4_readWord 31 = .ok (.iload_n 2, 1) := by decide +kernel
theorem dX4_readWord_32 : decode cX4_readWord 32 = .ok (.invokevirtual 94, 3) := by decide +kernel
theorem dX4_readWord_35 : decode cX4_readWord 35 = .ok (.if_icmp .eq 5, 3) := by decide +kernel
theorem dX4_readWord_38 : decode cX4_readWord 38 = .ok (.iconst 0, 1) := by decide +kernel
theorem dX4_readWord_39 : decode cX4_readWord 39 = .ok (.ireturn, 1) := by decide +kernel
theorem dX4_readWord_40 : decode cX4_readWord 40 = .ok (.aload_n 0, 1) := by decide +kernel
theorem dX4_readWord_41 : decode cX4_readWord 41 = .ok (.dup, 1) := by decide +kernel
theorem dX4_readWord_42 : decode cX4_readWord 42 = .ok (.getfield 19, 3) := by decide +kernel
theorem dX4_readWord_45 : decode cX4_readWord 45 = .ok (.iconst 1, 1) := by decide +kernel
theorem dX4_readWord_46 : decode cX4_readWord 46 = .ok (.iadd, 1) := by decide +kernel
theorem dX4_readWord_47 : decode cX4_readWord 47 = .ok (.putfield 19, 3) := by decide +kernel
theorem dX4_readWord_50 : decode cX4_readWord 50 = .ok (.iinc 2 1, 3) := by decide +kernel
theorem dX4_readWord_53 : decode cX4_readWord 53 = .ok (.goto (-51), 3) := by decide +kernel
theorem dX4_readWord_56 : decode cX4_readWord 56 = .ok (.iconst 1, 1) := by decide +kernel
theorem dX4_readWord_57 : decode cX4_readWord 57 = .ok (.ireturn, 1) := by decide +kernel
theorem dX4_readOneOf_0 : decode cX4_readOneOf 0 = .ok (.aload_n 0, 1) := by decide +kernel
theorem dX4_readOneOf_1 : decode cX4_readOneOf 1 = .ok (.getfield 19, 3) := by decide +kernel
theorem dX4_readOneOf_4 : decode cX4_readOneOf 4 = .ok (.aload_n 0, 1) := by decide +kernel
theorem dX4_readOneOf_5 : decode cX4_readOneOf 5 = .ok (.getfield 15, 3) := by decide +kernel
theorem dX4_readOneOf_8 : decode cX4_readOneOf 8 = .ok (.if_icmp .ge 19, 3) := by decide +kernel
theorem dX4_readOneOf_11 : decode cX4_readOneOf 11 = .ok (.aload_n 1, 1) := by decide +kernel
theorem dX4_readOneOf_12 : decode cX4_readOneOf 12 = .ok (.aload_n 0, 1) := by decide +kernel
theorem dX4_readOneOf_13 : decode cX4_readOneOf 13 = .ok (.getfield 9, 3) := by decide +kernel
theorem dX4_readOneOf_16 : decode cX4_readOneOf 16 = .ok (.aload_n 0, 1) := by decide +kernel
theorem dX4_readOneOf_17 : decode cX4_readOneOf 17 = .ok (.getfield 19, 3) := by decide +kernel
theorem dX4_readOneOf_20 : decode cX4_readOneOf 20 = .ok (.caload, 1) := by decide +kernel
theorem dX4_readOneOf_21 : decode cX4_readOneOf 21 = .ok (.invokevirtual 98, 3) := by decide +kernel
theorem dX4_readOneOf_24 : decode cX4_readOneOf 24 = .ok (.ifCond .ge 5, 3) := by decide +kernel
theorem dX4_readOneOf_27 : decode cX4_readOneOf 27 = .ok (.iconst 0, 1) := by decide +kernel
theorem dX4_readOneOf_28 : decode cX4_readOneOf 28 = .ok (.ireturn, 1) := by decide +kernel
theorem dX4_readOneOf_29 : decode cX4_readOneOf 29 = .ok (.aload_n 0, 1) := by decide +kernel
theorem dX4_readOneOf_30 : decode cX4_readOneOf 30 = .ok (.aload_n 0, 1) := by decide +kernel
theorem dX4_readOneOf_31 : decode cX4_readOneOf 31 = .ok (.getfield 9, 3) := by decide +kernel
theorem dX4_readOneOf_34 : decode cX4_readOneOf 34 = .ok (.aload_n 0, 1) := by decide +kernel
theorem dX4_readOneOf_35 : decode cX4_readOneOf 35 = .ok (.getfield 19, 3) := by decide +kernel
theorem dX4_readOneOf_38 : decode cX4_readOneOf 38 = .ok (.caload, 1) := by decide +kernel
theorem dX4_readOneOf_39 : decode cX4_readOneOf 39 = .ok (.putfield 22, 3) := by decide +kernel
theorem dX4_readOneOf_42 : decode cX4_readOneOf 42 = .ok (.aload_n 0, 1) := by decide +kernel
theorem dX4_readOneOf_43 : decode cX4_readOneOf 43 = .ok (.dup, 1) := by decide +kernel
theorem dX4_readOneOf_44 : decode cX4_readOneOf 44 = .ok (.getfield 19, 3) := by decide +kernel
theorem dX4_readOneOf_47 : decode cX4_readOneOf 47 = .ok (.iconst 1, 1) := by decide +kernel
theorem dX4_readOneOf_48 : decode cX4_readOneOf 48 = .ok (.iadd, 1) := by decide +kernel
theorem dX4_readOneOf_49 : decode cX4_readOneOf 49 = .ok (.putfield 19, 3) := by decide +kernel
theorem dX4_readOneOf_52 : decode cX4_readOneOf 52 = .ok (.iconst 1, 1) := by decide +kernel
theorem dX4_readOneOf_53 : decode cX4_readOneOf 53 = .ok (.ireturn, 1) := by decide +kernel
theorem dX5_init_0 : decode cX5_init 0 = .ok (.aload_n 0, 1) := by decide +kernel
theorem dX5_init_1 : decode cX5_init 1 = .ok (.invokespecial 3, 3) := by decide +kernel
theorem dX5_init_4 : decode cX5_init 4 = .ok (.aload_n 0, 1) := by decide +kernel
theorem dX5_init_5 : decode cX5_init 5 = .ok (.iconst 5, 1) := by decide +kernel
theorem dX5_init_6 : decode cX5_init 6 = .ok (.newarray .int, 2) := by decide +kernel
theorem dX5_init_8 : decode cX5_init 8 = .ok (.putfield 9, 3) := by decide +kernel
theorem dX5_init_11 : decode cX5_init 11 = .ok (.aload_n 0, 1) := by decide +kernel
theorem dX5_init_12 : decode cX5_init 12 = .ok (.iconst 4, 1) := by decide +kernel
theorem dX5_init_13 : decode cX5_init 13 = .ok (.newarray .int, 2) := by decide +kernel
theorem dX5_init_15 : decode cX5_init 15 = .ok (.putfield 15, 3) := by decide +kernel
theorem dX5_init_18 : decode cX5_init 18 = .ok (.aload_n 0, 1) := by decide +kernel
theorem dX5_init_19 : decode cX5_init 19 = .ok (.iconst 4, 1) := by decide +kernel
theorem dX5_init_20 : decode cX5_init 20 = .ok (.newarray .boolean, 2) := by decide +kernel
theorem dX5_init_22 : decode cX5_init 22 = .ok (.putfield 18, 3) := by decide +kernel
theorem dX5_init_25 : decode cX5_init 25 = .ok (.aload_n 0, 1) := by decide +kernel
theorem dX5_init_26 : decode cX5_init 26 = .ok (.iconst 0, 1) := by decide +kernel
theorem dX5_init_27 : decode cX5_init 27 = .ok (.putfield 22, 3) := by decide +kernel
theorem dX5_init_30 : decode cX5_init 30 = .ok (.aload_n 0, 1) := by decide +kernel
theorem dX5_init_31 : decode cX5_init 31 = .ok (.iconst 0, 1) := by decide +kernel
theorem dX5_init_32 : decode cX5_init 32 = .ok (.putfield 26, 3) := by decide +kernel
theorem dX5_init_35 : decode cX5_init 35 = .ok (.aload_n 0, 1) := by decide +kernel
theorem dX5_init_36 : decode cX5_init 36 = .ok (.iconst 0, 1) := by decide +kernel
theorem dX5_init_37 : decode cX5_init 37 = .ok (.putfield 29, 3) := by decide +kernel
theorem dX5_init_40 : decode cX5_init 40 = .ok (.aload_n 0, 1) := by decide +kernel
theorem dX5_init_41 : decode cX5_init 41 = .ok (.iconst 0, 1) := by decide +kernel
theorem dX5_init_42 : decode cX5_init 42 = .ok (.putfield 32, 3) := by decide +kernel
theorem dX5_init_45 : decode cX5_init 45 = .ok (.aload_n 0, 1) := by decide +kernel
theorem dX5_init_46 : decode cX5_init 46 = .ok (.iconst 0, 1) := by decide +kernel
theorem dX5_init_47 : decode cX5_init 47 = .ok (.putfield 35, 3) := by decide +kernel
theorem dX5_init_50 : decode cX5_init 50 = .ok (.iconst 0, 1) := by decide +kernel
theorem dX5_init_51 : decode cX5_init 51 = .ok (.istore_n 1, 1) := by decide +kernel
theorem dX5_init_52 : decode cX5_init 52 = .ok (.iload_n 1, 1) := by decide +kernel
theorem dX5_init_53 : decode cX5_init 53 = .ok (.iconst 5, 1) := by decide +kernel
theorem dX5_init_54 : decode cX5_init 54 = .ok (.if_icmp .ge 20, 3) := by decide +kernel
theorem dX5_init_57 : decode cX5_init 57 = .ok (.aload_n 0, 1) := by decide +kernel
theorem dX5_init_58 : decode cX5_init 58 = .ok (.getfield 9, 3) := by decide +kernel
theorem dX5_init_61 : decode cX5_init 61 = .ok (.iload_n 1, 1) := by decide +kernel
theorem dX5_init_62 : decode cX5_init 62 = .ok (.getstatic 38, 3) := by decide +kernel
theorem dX5_init_65 : decode cX5_init 65 = .ok (.iload_n 1, 1) := by decide +kernel
theorem dX5_init_66 : decode cX5_init 66 = .ok (.iaload, 1) := by decide +kernel
theorem dX5_init_67 : decode cX5_init 67 = .ok (.iastore, 1) := by decide +kernel
theorem dX5_init_68 : decode cX5_init 68 = .ok (.iinc 1 1, 3) := by decide +kernel
theorem dX5_init_71 : decode cX5_init 71 = .ok (.goto (-19), 3) := by decide +kernel
theorem dX5_init_74 : decode cX5_init 74 = .ok (.return_, 1) := by decide +kernel
theorem dX5_copyWater_0 : decode cX5_copyWater 0 = .ok (.iconst 0, 1) := by decide +kernel
theorem dX5_copyWater_1 : decode cX5_copyWater 1 = .ok (.istore_n 2, 1) := by decide +kernel
theorem dX5_copyWater_2 : decode cX5_copyWater 2 = .ok (.iload_n 2, 1) := by decide +kernel
theorem dX5_copyWater_3 : decode cX5_copyWater 3 = .ok (.iconst 5, 1) := by decide +kernel
theorem dX5_copyWater_4 : decode cX5_copyWater 4 = .ok (.if_icmp .ge 21, 3) := by decide +kernel
theorem dX5_copyWater_7 : decode cX5_copyWater 7 = .ok (.aload_n 0, 1) := by decide +kernel
theorem dX5_copyWater_8 : decode cX5_copyWater 8 = .ok (.getfield 9, 3) := by decide +kernel
theorem dX5_copyWater_11 : decode cX5_copyWater 11 = .ok (.iload_n 2, 1) := by decide +kernel
theorem dX5_copyWater_12 : decode cX5_copyWater 12 = .ok (.aload_n 1, 1) := by decide +kernel
theorem dX5_copyWater_13 : decode cX5_copyWater 13 = .ok (.getfield 9, 3) := by decide +kernel
theorem dX5_copyWater_16 : decode cX5_copyWater 16 = .ok (.iload_n 2, 1) := by decide +kernel
theorem dX5_copyWater_17 : decode cX5_copyWater 17 = .ok (.iaload, 1) := by decide +kernel
theorem dX5_copyWater_18 : decode cX5_copyWater 18 = .ok (.iastore, 1) := by decide +kernel
theorem dX5_copyWater_19 : decode cX5_copyWater 19 = .ok (.iinc 2 1, 3) := by decide +kernel
theorem dX5_copyWater_22 : decode cX5_copyWater 22 = .ok (.goto (-20), 3) := by decide +kernel
theorem dX5_copyWater_25 : decode cX5_copyWater 25 = .ok (.iconst 0, 1) := by decide +kernel
theorem dX5_copyWater_26 : decode cX5_copyWater 26 = .ok (.istore_n 2, 1) := by decide +kernel
theorem dX5_copyWater_27 : decode cX5_copyWater 27 = .ok (.iload_n 2, 1) := by decide +kernel
theorem dX5_copyWater_28 : decode cX5_copyWater 28 = .ok (.iconst 4, 1) := by decide +kernel
theorem dX5_copyWater_29 : decode cX5_copyWater 29 = .ok (.if_icmp .ge 33, 3) := by decide +kernel
theorem dX5_copyWater_32 : decode cX5_copyWater 32 = .ok (.aload_n 0, 1) := by decide +kernel
theorem dX5_copyWater_33 : decode cX5_copyWater 33 = .ok (.getfield 15, 3) := by decide +kernel
theorem dX5_copyWater_36 : decode cX5_copyWater 36 = .ok (.iload_n 2, 1) := by decide +kernel
theorem dX5_copyWater_37 : decode cX5_copyWater 37 = .ok (.aload_n 1, 1) := by decide +kernel
theorem dX5_copyWater_38 : decode cX5_copyWater 38 = .ok (.getfield 15, 3) := by decide +kernel
theorem dX5_copyWater_41 : decode cX5_copyWater 41 = .ok (.iload_n 2, 1) := by decide +kernel
theorem dX5_copyWater_42 : decode cX5_copyWater 42 = .ok (.iaload, 1) := by decide +kernel
theorem dX5_copyWater_43 : decode cX5_copyWater 43 = .ok (.iastore, 1) := by decide +kernel
theorem dX5_copyWater_44 : decode cX5_copyWater 44 = .ok (.aload_n 0, 1) := by decide +kernel
theorem dX5_copyWater_45 : decode cX5_copyWater 45 = .ok (.getfield 18, 3) := by decide +kernel
theorem dX5_copyWater_48 : decode cX5_copyWater 48 = .ok (.iload_n 2, 1) := by decide +kernel
theorem dX5_copyWater_49 : decode cX5_copyWater 49 = .ok (.aload_n 1, 1) := by decide +kernel
theorem dX5_copyWater_50 : decode cX5_copyWater 50 = .ok (.getfield 18, 3) := by decide +kernel
theorem dX5_copyWater_53 : decode cX5_copyWater 53 = .ok (.iload_n 2, 1) := by decide +kernel
theorem dX5_copyWater_54 : decode cX5_copyWater 54 = .ok (.baload, 1) := by decide +kernel
theorem dX5_copyWater_55 : decode cX5_copyWater 55 = .ok (.bastore, 1) := by decide +kernel
theorem dX5_copyWater_56 : decode cX5_copyWater 56 = .ok (.iinc 2 1, 3) := by decide +kernel
theorem dX5_copyWater_59 : decode cX5_copyWater 59 = .ok (.goto (-32), 3) := by decide +kernel
theorem dX5_copyWater_62 : decode cX5_copyWater 62 = .ok (.aload_n 0, 1) := by decide +kernel
theorem dX5_copyWater_63 : decode cX5_copyWater 63 = .ok (.aload_n 1, 1) := by decide +kernel
theorem dX5_copyWater_64 : decode cX5_copyWater 64 = .ok (.getfield 22, 3) := by decide +kernel
theorem dX5_copyWater_67 : decode cX5_copyWater 67 = .ok (.putfield 22, 3) := by decide +kernel
theorem dX5_copyWater_70 : decode cX5_copyWater 70 = .ok (.aload_n 0, 1) := by decide +kernel
theorem dX5_copyWater_71 : decode cX5_copyWater 71 = .ok (.aload_n 1, 1) := by decide +kernel
theorem dX5_copyWater_72 : decode cX5_copyWater 72 = .ok (.getfield 26, 3) := by decide +kernel
theorem dX5_copyWater_75 : decode cX5_copyWater 75 = .ok (.putfield 26, 3) := by decide +kernel
theorem dX5_copyWater_78 : decode cX5_copyWater 78 = .ok (.aload_n 0, 1) := by decide +kernel
theorem dX5_copyWater_79 : decode cX5_copyWater 79 = .ok (.aload_n 1, 1) := by decide +kernel
theorem dX5_copyWater_80 : decode cX5_copyWater 80 = .ok (.getfield 29, 3) := by decide +kernel
theorem dX5_copyWater_83 : decode cX5_copyWater 83 = .ok (.putfield 29, 3) := by decide +kernel
theorem dX5_copyWater_86 : decode cX5_copyWater 86 = .ok (.aload_n 0, 1) := by decide +kernel
theorem dX5_copyWater_87 : decode cX5_copyWater 87 = .ok (.aload_n 1, 1) := by decide +kernel
theorem dX5_copyWater_88 : decode cX5_copyWater 88 = .ok (.getfield 32, 3) := by decide +kernel
theorem dX5_copyWater_91 : decode cX5_copyWater 91 = .ok (.putfield 32, 3) := by decide +kernel
theorem dX5_copyWater_94 : decode cX5_copyWater 94 = .ok (.aload_n 0, 1) := by decide +kernel
theorem dX5_copyWater_95 : decode cX5_copyWater 95 = .ok (.aload_n 1, 1) := by decide +kernel
theorem dX5_copyWater_96 : decode cX5_copyWater 96 = .ok (.getfield 35, 3) := by decide +kernel
theorem dX5_copyWater_99 : decode cX5_copyWater 99 = .ok (.putfield 35, 3) := by decide +kernel
theorem dX5_copyWater_102 : decode cX5_copyWater 102 = .ok (.return_, 1) := by decide +kernel
theorem dX5_roundedLevel_0 : decode cX5_roundedLevel 0 = .ok (.aload_n 0, 1) := by decide +kernel
theorem dX5_roundedLevel_1 : decode cX5_roundedLevel 1 = .ok (.getfield 9, 3) := by decide +kernel
theorem dX5_roundedLevel_4 : decode cX5_roundedLevel 4 = .ok (.iload_n 1, 1) := by decide +kernel
theorem dX5_roundedLevel_5 : decode cX5_roundedLevel 5 = .ok (.iaload, 1) := by decide +kernel
theorem dX5_roundedLevel_6 : decode cX5_roundedLevel 6 = .ok (.iload_n 1, 1) := by decide +kernel
theorem dX5_roundedLevel_7 : decode cX5_roundedLevel 7 = .ok (.invokestatic 41, 3) := by decide +kernel
theorem dX5_roundedLevel_10 : decode cX5_roundedLevel 10 = .ok (.idiv, 1) := by decide +kernel
theorem dX5_roundedLevel_11 : decode cX5_roundedLevel 11 = .ok (.ireturn, 1) := by decide +kernel
theorem dX5_difference_0 : decode cX5_difference 0 = .ok (.aload_n 0, 1) := by decide +kernel
theorem dX5_difference_1 : decode cX5_difference 1 = .ok (.getfield 9, 3) := by decide +kernel
theorem dX5_difference_4 : decode cX5_difference 4 = .ok (.iload_n 1, 1) := by decide +kernel
theorem dX5_difference_5 : decode cX5_difference 5 = .ok (.iaload, 1) := by decide +kernel
theorem dX5_difference_6 : decode cX5_difference 6 = .ok (.iload_n 2, 1) := by decide +kernel
theorem dX5_difference_7 : decode cX5_difference 7 = .ok (.invokestatic 41, 3) := by decide +kernel
theorem dX5_difference_10 : decode cX5_difference 10 = .ok (.imul, 1) := by decide +kernel
theorem dX5_difference_11 : decode cX5_difference 11 = .ok (.aload_n 0, 1) := by decide +kernel
theorem dX5_difference_12 : decode cX5_difference 12 = .ok (.getfield 9, 3) := by decide +kernel
theorem dX5_difference_15 : decode cX5_difference 15 = .ok (.iload_n 2, 1) := by decide +kernel
theorem dX5_difference_16 : decode cX5_difference 16 = .ok (.iaload, 1) := by decide +kernel
theorem dX5_difference_17 : decode cX5_difference 17 = .ok (.iload_n 1, 1) := by decide +kernel
theorem dX5_difference_18 : decode cX5_difference 18 = .ok (.invokestatic 41, 3) := by decide +kernel
theorem dX5_difference_21 : decode cX5_difference 21 = .ok (.imul, 1) := by decide +kernel
theorem dX5_difference_22 : decode cX5_difference 22 = .ok (.isub, 1) := by decide +kernel
theorem dX5_difference_23 : decode cX5_difference 23 = .ok (.ireturn, 1) := by decide +kernel
theorem dX5_reaches_0 : decode cX5_reaches 0 = .ok (.aload_n 0, 1) := by decide +kernel
theorem dX5_reaches_1 : decode cX5_reaches 1 = .ok (.getfield 9, 3) := by decide +kernel
theorem dX5_reaches_4 : decode cX5_reaches 4 = .ok (.iload_n 1, 1) := by decide +kernel
theorem dX5_reaches_5 : decode cX5_reaches 5 = .ok (.iaload, 1) := by decide +kernel
theorem dX5_reaches_6 : decode cX5_reaches 6 = .ok (.iload_n 2, 1) := by decide +kernel
theorem dX5_reaches_7 : decode cX5_reaches 7 = .ok (.iload_n 1, 1) := by decide +kernel
theorem dX5_reaches_8 : decode cX5_reaches 8 = .ok (.invokestatic 41, 3) := by decide +kernel
theorem dX5_reaches_11 : decode cX5_reaches 11 = .ok (.imul, 1) := by decide +kernel
theorem dX5_reaches_12 : decode cX5_reaches 12 = .ok (.if_icmp .lt 7, 3) := by decide +kernel
theorem dX5_reaches_15 : decode cX5_reaches 15 = .ok (.iconst 1, 1) := by decide +kernel
theorem dX5_reaches_16 : decode cX5_reaches 16 = .ok (.goto 4, 3) := by decide +kernel
theorem dX5_reaches_19 : decode cX5_reaches 19 = .ok (.iconst 0, 1) := by decide +kernel
theorem dX5_reaches_20 : decode cX5_reaches 20 = .ok (.ireturn, 1) := by decide +kernel
theorem dX5_amountByDivision_0 : decode cX5_amountByDivision 0 = .ok (.aload_n 0, 1) := by decide +kernel
theorem dX5_amountByDivision_1 : decode cX5_amountByDivision 1 = .ok (.iload_n 1, 1) := by decide +kernel
theorem dX5_amountByDivision_2 : decode cX5_amountByDivision 2 = .ok (.iload_n 1, 1) := by decide +kernel
theorem dX5_amountByDivision_3 : decode cX5_amountByDivision 3 = .ok (.iconst 1, 1) := by decide +kernel
theorem dX5_amountByDivision_4 : decode cX5_amountByDivision 4 = .ok (.iadd, 1) := by decide +kernel
theorem dX5_amountByDivision_5 : decode cX5_amountByDivision 5 = .ok (.invokevirtual 45, 3) := by decide +kernel
theorem dX5_amountByDivision_8 : decode cX5_amountByDivision 8 = .ok (.invokestatic 49, 3) := by decide +kernel
theorem dX5_amountByDivision_11 : decode cX5_amountByDivision 11 = .ok (.iload_n 1, 1) := by decide +kernel
theorem dX5_amountByDivision_12 : decode cX5_amountByDivision 12 = .ok (.invokestatic 41, 3) := by decide +kernel
theorem dX5_amountByDivision_15 : decode cX5_amountByDivision 15 = .ok (.iload_n 1, 1) := by decide +kernel
theorem dX5_amountByDivision_16 : decode cX5_amountByDivision 16 = .ok (.iconst 1, 1) := by decide +kernel
theorem dX5_amountByDivision_17 : decode cX5_amountByDivision 17 = .ok (.iadd, 1) := by decide +kernel
theorem dX5_amountByDivision_18 : decode cX5_amountByDivision 18 = .ok (.invokestatic 41, 3) := by decide +kernel
theorem dX5_amountByDivision_21 : decode cX5_amountByDivision 21 = .ok (.iadd, 1) := by decide +kernel
theorem dX5_amountByDivision_22 : decode cX5_amountByDivision 22 = .ok (.idiv, 1) := by decide +kernel
theorem dX5_amountByDivision_23 : decode cX5_amountByDivision 23 = .ok (.ireturn, 1) := by decide +kernel
theorem dX5_amountByLitres_0 : decode cX5_amountByLitres 0 = .ok (.aload_n 0, 1) := by decide +kernel
theorem dX5_amountByLitres_1 : decode cX5_amountByLitres 1 = .ok (.iload_n 1, 1) := by decide +kernel
theorem dX5_amountByLitres_2 : decode cX5_amountByLitres 2 = .ok (.iload_n 1, 1) := by decide +kernel
theorem dX5_amountByLitres_3 : decode cX5_amountByLitres 3 = .ok (.iconst 1, 1) := by decide +kernel
theorem dX5_amountByLitres_4 : decode cX5_amountByLitres 4 = .ok (.iadd, 1) := by decide +kernel
theorem dX5_amountByLitres_5 : decode cX5_amountByLitres 5 = .ok (.invokevirtual 45, 3) := by decide +kernel
theorem dX5_amountByLitres_8 : decode cX5_amountByLitres 8 = .ok (.ifCond .le 7, 3) := by decide +kernel
theorem dX5_amountByLitres_11 : decode cX5_amountByLitres 11 = .ok (.iconst 1, 1) := by decide +kernel
theorem dX5_amountByLitres_12 : decode cX5_amountByLitres 12 = .ok (.goto 4, 3) := by decide +kernel
theorem dX5_amountByLitres_15 : decode cX5_amountByLitres 15 = .ok (.iconst 0, 1) := by decide +kernel
theorem dX5_amountByLitres_16 : decode cX5_amountByLitres 16 = .ok (.istore_n 2, 1) := by decide +kernel
theorem dX5_amountByLitres_17 : decode cX5_amountByLitres 17 = .ok (.iload_n 2, 1) := by decide +kernel
theorem dX5_amountByLitres_18 : decode cX5_amountByLitres 18 = .ok (.ifCond .eq 7, 3) := by decide +kernel
theorem dX5_amountByLitres_21 : decode cX5_amountByLitres 21 = .ok (.iload_n 1, 1) := by decide +kernel
theorem dX5_amountByLitres_22 : decode cX5_amountByLitres 22 = .ok (.goto 6, 3) := by decide +kernel
theorem dX5_amountByLitres_25 : decode cX5_amountByLitres 25 = .ok (.iload_n 1, 1) := by decide +kernel
theorem dX5_amountByLitres_26 : decode cX5_amountByLitres 26 = .ok (.iconst 1, 1) := by decide +kernel
theorem dX5_amountByLitres_27 : decode cX5_amountByLitres 27 = .ok (.iadd, 1) := by decide +kernel
theorem dX5_amountByLitres_28 : decode cX5_amountByLitres 28 = .ok (.istore_n 3, 1) := by decide +kernel
theorem dX5_amountByLitres_29 : decode cX5_amountByLitres 29 = .ok (.iload_n 2, 1) := by decide +kernel
theorem dX5_amountByLitres_30 : decode cX5_amountByLitres 30 = .ok (.ifCond .eq 9, 3) := by decide +kernel
theorem dX5_amountByLitres_33 : decode cX5_amountByLitres 33 = .ok (.iload_n 1, 1) := by decide +kernel
theorem dX5_amountByLitres_34 : decode cX5_amountByLitres 34 = .ok (.iconst 1, 1) := by decide +kernel
theorem dX5_amountByLitres_35 : decode cX5_amountByLitres 35 = .ok (.iadd, 1) := by decide +kernel
theorem dX5_amountByLitres_36 : decode cX5_amountByLitres 36 = .ok (.goto 4, 3) := by decide +kernel
theorem dX5_amountByLitres_39 : decode cX5_amountByLitres 39 = .ok (.iload_n 1, 1) := by decide +kernel
theorem dX5_amountByLitres_40 : decode cX5_amountByLitres 40 = .ok (.istore 4, 2) := by decide +kernel
theorem dX5_amountByLitres_42 : decode cX5_amountByLitres 42 = .ok (.iconst 0, 1) := by decide +kernel
theorem dX5_amountByLitres_43 : decode cX5_amountByLitres 43 = .ok (.istore 5, 2) := by decide +kernel
theorem dX5_amountByLitres_45 : decode cX5_amountByLitres 45 = .ok (.iload 5, 2) := by decide +kernel
theorem dX5_amountByLitres_47 : decode cX5_amountByLitres 47 = .ok (.aload_n 0, 1) := by decide +kernel
theorem dX5_amountByLitres_48 : decode cX5_amountByLitres 48 = .ok (.getfield 9, 3) := by decide +kernel
theorem dX5_amountByLitres_51 : decode cX5_amountByLitres 51 = .ok (.iload_n 3, 1) := by decide +kernel
theorem dX5_amountByLitres_52 : decode cX5_amountByLitres 52 = .ok (.iaload, 1) := by decide +kernel
theorem dX5_amountByLitres_53 : decode cX5_amountByLitres 53 = .ok (.if_icmp .ge 23, 3) := by decide +kernel
theorem dX5_amountByLitres_56 : decode cX5_amountByLitres 56 = .ok (.aload_n 0, 1) := by decide +kernel
theorem dX5_amountByLitres_57 : decode cX5_amountByLitres 57 = .ok (.iload_n 3, 1) := by decide +kernel
theorem dX5_amountByLitres_58 : decode cX5_amountByLitres 58 = .ok (.iload 4, 2) := by decide +kernel
theorem dX5_amountByLitres_60 : decode cX5_amountByLitres 60 = .ok (.iload 5, 2) := by decide +kernel
theorem dX5_amountByLitres_62 : decode cX5_amountByLitres 62 = .ok (.iconst 1, 1) := by decide +kernel
theorem dX5_amountByLitres_63 : decode cX5_amountByLitres 63 = .ok (.iadd, 1) := by decide +kernel
theorem dX5_amountByLitres_64 : decode cX5_amountByLitres 64 = .ok (.invokevirtual 54, 3) := by decide +kernel
theorem dX5_amountByLitres_67 : decode cX5_amountByLitres 67 = .ok (.ifCond .eq 9, 3) := by decide +kernel
theorem dX5_amountByLitres_70 : decode cX5_amountByLitres 70 = .ok (.iinc 5 1, 3) := by decide +kernel
theorem dX5_amountByLitres_73 : decode cX5_amountByLitres 73 = .ok (.goto (-28), 3) := by decide +kernel
theorem dX5_amountByLitres_76 : decode cX5_amountByLitres 76 = .ok (.iload 5, 2) := by decide +kernel
theorem dX5_amountByLitres_78 : decode cX5_amountByLitres 78 = .ok (.ireturn, 1) := by decide +kernel
theorem dX5_staysBelow_0 : decode cX5_staysBelow 0 = .ok (.aload_n 0, 1) := by decide +kernel
theorem dX5_staysBelow_1 : decode cX5_staysBelow 1 = .ok (.getfield 9, 3) := by decide +kernel
theorem dX5_staysBelow_4 : decode cX5_staysBelow 4 = .ok (.iload_n 2, 1) := by decide +kernel
theorem dX5_staysBelow_5 : decode cX5_staysBelow 5 = .ok (.iaload, 1) := by decide +kernel
theorem dX5_staysBelow_6 : decode cX5_staysBelow 6 = .ok (.iload_n 3, 1) := by decide +kernel
theorem dX5_staysBelow_7 : decode cX5_staysBelow 7 = .ok (.iadd, 1) := by decide +kernel
theorem dX5_staysBelow_8 : decode cX5_staysBelow 8 = .ok (.iload_n 1, 1) := by decide +kernel
theorem dX5_staysBelow_9 : decode cX5_staysBelow 9 = .ok (.invokestatic 41, 3) := by decide +kernel
theorem dX5_staysBelow_12 : decode cX5_staysBelow 12 = .ok (.imul, 1) := by decide +kernel
theorem dX5_staysBelow_13 : decode cX5_staysBelow 13 = .ok (.aload_n 0, 1) := by decide +kernel
theorem dX5_staysBelow_14 : decode cX5_staysBelow 14 = .ok (.getfield 9, 3) := by decide +kernel
theorem dX5_staysBelow_17 : decode cX5_staysBelow 17 = .ok (.iload_n 1, 1) := by decide +kernel
theorem dX5_staysBelow_18 : decode cX5_staysBelow 18 = .ok (.iaload, 1) := by decide +kernel
theorem dX5_staysBelow_19 : decode cX5_staysBelow 19 = .ok (.iload_n 3, 1) := by decide +kernel
theorem dX5_staysBelow_20 : decode cX5_staysBelow 20 = .ok (.isub, 1) := by decide +kernel
theorem dX5_staysBelow_21 : decode cX5_staysBelow 21 = .ok (.iload_n 2, 1) := by decide +kernel
theorem dX5_staysBelow_22 : decode cX5_staysBelow 22 = .ok (.invokestatic 41, 3) := by decide +kernel
theorem dX5_staysBelow_25 : decode cX5_staysBelow 25 = .ok (.imul, 1) := by decide +kernel
theorem dX5_staysBelow_26 : decode cX5_staysBelow 26 = .ok (.if_icmp .gt 7, 3) := by decide +kernel
theorem dX5_staysBelow_29 : decode cX5_staysBelow 29 = .ok (.iconst 1, 1) := by decide +kernel
theorem dX5_staysBelow_30 : decode cX5_staysBelow 30 = .ok (.goto 4, 3) := by decide +kernel
theorem dX5_staysBelow_33 : decode cX5_staysBelow 33 = .ok (.iconst 0, 1) := by decide +kernel
theorem dX5_staysBelow_34 : decode cX5_staysBelow 34 = .ok (.ireturn, 1) := by decide +kernel
theorem dX5_flowDown_0 : decode cX5_flowDown 0 = .ok (.aload_n 0, 1) := by decide +kernel
theorem dX5_flowDown_1 : decode cX5_flowDown 1 = .ok (.iload_n 1, 1) := by decide +kernel
theorem dX5_flowDown_2 : decode cX5_flowDown 2 = .ok (.invokevirtual 58, 3) := by decide +kernel
theorem dX5_flowDown_5 : decode cX5_flowDown 5 = .ok (.istore_n 2, 1) := by decide +kernel
theorem dX5_flowDown_6 : decode cX5_flowDown 6 = .ok (.aload_n 0, 1) := by decide +kernel
theorem dX5_flowDown_7 : decode cX5_flowDown 7 = .ok (.getfield 18, 3) := by decide +kernel
theorem dX5_flowDown_10 : decode cX5_flowDown 10 = .ok (.iload_n 1, 1) := by decide +kernel
theorem dX5_flowDown_11 : decode cX5_flowDown 11 = .ok (.baload, 1) := by decide +kernel
theorem dX5_flowDown_12 : decode cX5_flowDown 12 = .ok (.ifCond .ne 16, 3) := by decide +kernel
theorem dX5_flowDown_15 : decode cX5_flowDown 15 = .ok (.iload_n 2, 1) := by decide +kernel
theorem dX5_flowDown_16 : decode cX5_flowDown 16 = .ok (.iconst 5, 1) := by decide +kernel
theorem dX5_flowDown_17 : decode cX5_flowDown 17 = .ok (.aload_n 0, 1) := by decide +kernel
theorem dX5_flowDown_18 : decode cX5_flowDown 18 = .ok (.getfield 15, 3) := by decide +kernel
theorem dX5_flowDown_21 : decode cX5_flowDown 21 = .ok (.iload_n 1, 1) := by decide +kernel
theorem dX5_flowDown_22 : decode cX5_flowDown 22 = .ok (.iaload, 1) := by decide +kernel
theorem dX5_flowDown_23 : decode cX5_flowDown 23 = .ok (.imul, 1) := by decide +kernel
theorem dX5_flowDown_24 : decode cX5_flowDown 24 = .ok (.invokestatic 61, 3) := by decide +kernel
theorem dX5_flowDown_27 : decode cX5_flowDown 27 = .ok (.istore_n 2, 1) := by decide +kernel
theorem dX5_flowDown_28 : decode cX5_flowDown 28 = .ok (.aload_n 0, 1) := by decide +kernel
theorem dX5_flowDown_29 : decode cX5_flowDown 29 = .ok (.iload_n 1, 1) := by decide +kernel
theorem dX5_flowDown_30 : decode cX5_flowDown 30 = .ok (.iload_n 1, 1) := by decide +kernel
theorem dX5_flowDown_31 : decode cX5_flowDown 31 = .ok (.iconst 1, 1) := by decide +kernel
theorem dX5_flowDown_32 : decode cX5_flowDown 32 = .ok (.iadd, 1) := by decide +kernel
theorem dX5_flowDown_33 : decode cX5_flowDown 33 = .ok (.invokevirtual 45, 3) := by decide +kernel
theorem dX5_flowDown_36 : decode cX5_flowDown 36 = .ok (.ifCond .le 7, 3) := by decide +kernel
theorem dX5_flowDown_39 : decode cX5_flowDown 39 = .ok (.iload_n 2, 1) := by decide +kernel
theorem dX5_flowDown_40 : decode cX5_flowDown 40 = .ok (.goto 5, 3) := by decide +kernel
theorem dX5_flowDown_43 : decode cX5_flowDown 43 = .ok (.iload_n 2, 1) := by decide +kernel
theorem dX5_flowDown_44 : decode cX5_flowDown 44 = .ok (.ineg, 1) := by decide +kernel
theorem dX5_flowDown_45 : decode cX5_flowDown 45 = .ok (.ireturn, 1) := by decide +kernel
theorem dX5_moveDown_0 : decode cX5_moveDown 0 = .ok (.aload_n 0, 1) := by decide +kernel
theorem dX5_moveDown_1 : decode cX5_moveDown 1 = .ok (.getfield 9, 3) := by decide +kernel
theorem dX5_moveDown_4 : decode cX5_moveDown 4 = .ok (.iload_n 1, 1) := by decide +kernel
theorem dX5_moveDown_5 : decode cX5_moveDown 5 = .ok (.dup2, 1) := by decide +kernel
theorem dX5_moveDown_6 : decode cX5_moveDown 6 = .ok (.iaload, 1) := by decide +kernel
theorem dX5_moveDown_7 : decode cX5_moveDown 7 = .ok (.iload_n 2, 1) := by decide +kernel
theorem dX5_moveDown_8 : decode cX5_moveDown 8 = .ok (.isub, 1) := by decide +kernel
theorem dX5_moveDown_9 : decode cX5_moveDown 9 = .ok (.iastore, 1) := by decide +kernel
theorem dX5_moveDown_10 : decode cX5_moveDown 10 = .ok (.aload_n 0, 1) := by decide +kernel
theorem dX5_moveDown_11 : decode cX5_moveDown 11 = .ok (.getfield 9, 3) := by decide +kernel
theorem dX5_moveDown_14 : decode cX5_moveDown 14 = .ok (.iload_n 1, 1) := by decide +kernel
theorem dX5_moveDown_15 : decode cX5_moveDown 15 = .ok (.iconst 1, 1) := by decide +kernel
theorem dX5_moveDown_16 : decode cX5_moveDown 16 = .ok (.iadd, 1) := by decide +kernel
theorem dX5_moveDown_17 : decode cX5_moveDown 17 = .ok (.dup2, 1) := by decide +kernel
theorem dX5_moveDown_18 : decode cX5_moveDown 18 = .ok (.iaload, 1) := by decide +kernel
theorem dX5_moveDown_19 : decode cX5_moveDown 19 = .ok (.iload_n 2, 1) := by decide +kernel
theorem dX5_moveDown_20 : decode cX5_moveDown 20 = .ok (.iadd, 1) := by decide +kernel
theorem dX5_moveDown_21 : decode cX5_moveDown 21 = .ok (.iastore, 1) := by decide +kernel
theorem dX5_moveDown_22 : decode cX5_moveDown 22 = .ok (.return_, 1) := by decide +kernel
theorem dX5_letRain_0 : decode cX5_letRain 0 = .ok (.sipush 400, 3) := by decide +kernel
theorem dX5_letRain_3 : decode cX5_letRain 3 = .ok (.aload_n 0, 1) := by decide +kernel
theorem dX5_letRain_4 : decode cX5_letRain 4 = .ok (.getfield 9, 3) := by decide +kernel
theorem dX5_letRain_7 : decode cX5_letRain 7 = .ok (.iconst 0, 1) := by decide +kernel
theorem dX5_letRain_8 : decode cX5_letRain 8 = .ok (.iaload, 1) := by decide +kernel
theorem dX5_letRain_9 : decode cX5_letRain 9 = .ok (.isub, 1) := by decide +kernel
theorem dX5_letRain_10 : decode cX5_letRain 10 = .ok (.istore_n 1, 1) := by decide +kernel
theorem dX5_letRain_11 : decode cX5_letRain 11 = .ok (.aload_n 0, 1) := by decide +kernel
theorem dX5_letRain_12 : decode cX5_letRain 12 = .ok (.getfield 22, 3) := by decide +kernel
theorem dX5_letRain_15 : decode cX5_letRain 15 = .ok (.iload_n 1, 1) := by decide +kernel
theorem dX5_letRain_16 : decode cX5_letRain 16 = .ok (.invokestatic 61, 3) := by decide +kernel
theorem dX5_letRain_19 : decode cX5_letRain 19 = .ok (.istore_n 2, 1) := by decide +kernel
theorem dX5_letRain_20 : decode cX5_letRain 20 = .ok (.aload_n 0, 1) := by decide +kernel
theorem dX5_letRain_21 : decode cX5_letRain 21 = .ok (.getfield 9, 3) := by decide +kernel
theorem dX5_letRain_24 : decode cX5_letRain 24 = .ok (.iconst 0, 1) := by decide +kernel
theorem dX5_letRain_25 : decode cX5_letRain 25 = .ok (.dup2, 1) := by decide +kernel
theorem dX5_letRain_26 : decode cX5_letRain 26 = .ok (.iaload, 1) := by decide +kernel
theorem dX5_letRain_27 : decode cX5_letRain 27 = .ok (.iload_n 2, 1) := by decide +kernel
theorem dX5_letRain_28 : decode cX5_letRain 28 = .ok (.iadd, 1) := by decide +kernel
theorem dX5_letRain_29 : decode cX5_letRain 29 = .ok (.iastore, 1) := by decide +kernel
theorem dX5_letRain_30 : decode cX5_letRain 30 = .ok (.aload_n 0, 1) := by decide +kernel
theorem dX5_letRain_31 : decode cX5_letRain 31 = .ok (.dup, 1) := by decide +kernel
theorem dX5_letRain_32 : decode cX5_letRain 32 = .ok (.getfield 29, 3) := by decide +kernel
theorem dX5_letRain_35 : decode cX5_letRain 35 = .ok (.aload_n 0, 1) := by decide +kernel
theorem dX5_letRain_36 : decode cX5_letRain 36 = .ok (.getfield 22, 3) := by decide +kernel
theorem dX5_letRain_39 : decode cX5_letRain 39 = .ok (.iadd, 1) := by decide +kernel
theorem dX5_letRain_40 : decode cX5_letRain 40 = .ok (.putfield 29, 3) := by decide +kernel
theorem dX5_letRain_43 : decode cX5_letRain 43 = .ok (.aload_n 0, 1) := by decide +kernel
theorem dX5_letRain_44 : decode cX5_letRain 44 = .ok (.dup, 1) := by decide +kernel
theorem dX5_letRain_45 : decode cX5_letRain 45 = .ok (.getfield 35, 3) := by decide +kernel
theorem dX5_letRain_48 : decode cX5_letRain 48 = .ok (.aload_n 0, 1) := by decide +kernel
theorem dX5_letRain_49 : decode cX5_letRain 49 = .ok (.getfield 22, 3) := by decide +kernel
theorem dX5_letRain_52 : decode cX5_letRain 52 = .ok (.iload_n 2, 1) := by decide +kernel
theorem dX5_letRain_53 : decode cX5_letRain 53 = .ok (.isub, 1) := by decide +kernel
theorem dX5_letRain_54 : decode cX5_letRain 54 = .ok (.iadd, 1) := by decide +kernel
theorem dX5_letRain_55 : decode cX5_letRain 55 = .ok (.putfield 35, 3) := by decide +kernel
theorem dX5_letRain_58 : decode cX5_letRain 58 = .ok (.aload_n 0, 1) := by decide +kernel
theorem dX5_letRain_59 : decode cX5_letRain 59 = .ok (.getfield 22, 3) := by decide +kernel
theorem dX5_letRain_62 : decode cX5_letRain 62 = .ok (.iload_n 2, 1) := by decide +kernel
theorem dX5_letRain_63 : decode cX5_letRain 63 = .ok (.isub, 1) := by decide +kernel
theorem dX5_letRain_64 : decode cX5_letRain 64 = .ok (.ireturn, 1) := by decide +kernel
theorem dX5_letDrain_0 : decode cX5_letDrain 0 = .ok (.aload_n 0, 1) := by decide +kernel
theorem dX5_letDrain_1 : decode cX5_letDrain 1 = .ok (.getfield 26, 3) := by decide +kernel
theorem dX5_letDrain_4 : decode cX5_letDrain 4 = .ok (.aload_n 0, 1) := by decide +kernel
theorem dX5_letDrain_5 : decode cX5_letDrain 5 = .ok (.getfield 9, 3) := by decide +kernel
theorem dX5_letDrain_8 : decode cX5_letDrain 8 = .ok (.iconst 4, 1) := by decide +kernel
theorem dX5_letDrain_9 : decode cX5_letDrain 9 = .ok (.iaload, 1) := by decide +kernel
theorem dX5_letDrain_10 : decode cX5_letDrain 10 = .ok (.invokestatic 61, 3) := by decide +kernel
theorem dX5_letDrain_13 : decode cX5_letDrain 13 = .ok (.istore_n 1, 1) := by decide +kernel
theorem dX5_letDrain_14 : decode cX5_letDrain 14 = .ok (.aload_n 0, 1) := by decide +kernel
theorem dX5_letDrain_15 : decode cX5_letDrain 15 = .ok (.getfield 9, 3) := by decide +kernel
theorem dX5_letDrain_18 : decode cX5_letDrain 18 = .ok (.iconst 4, 1) := by decide +kernel
theorem dX5_letDrain_19 : decode cX5_letDrain 19 = .ok (.dup2, 1) := by decide +kernel
theorem dX5_letDrain_20 : decode cX5_letDrain 20 = .ok (.iaload, 1) := by decide +kernel
theorem dX5_letDrain_21 : decode cX5_letDrain 21 = .ok (.iload_n 1, 1) := by decide +kernel
theorem dX5_letDrain_22 : decode cX5_letDrain 22 = .ok (.isub, 1) := by decide +kernel
theorem dX5_letDrain_23 : decode cX5_letDrain 23 = .ok (.iastore, 1) := by decide +kernel
theorem dX5_letDrain_24 : decode cX5_letDrain 24 = .ok (.aload_n 0, 1) := by decide +kernel
theorem dX5_letDrain_25 : decode cX5_letDrain 25 = .ok (.dup, 1) := by decide +kernel
theorem dX5_letDrain_26 : decode cX5_letDrain 26 = .ok (.getfield 32, 3) := by decide +kernel
theorem dX5_letDrain_29 : decode cX5_letDrain 29 = .ok (.iload_n 1, 1) := by decide +kernel
theorem dX5_letDrain_30 : decode cX5_letDrain 30 = .ok (.iadd, 1) := by decide +kernel
theorem dX5_letDrain_31 : decode cX5_letDrain 31 = .ok (.putfield 32, 3) := by decide +kernel
theorem dX5_letDrain_34 : decode cX5_letDrain 34 = .ok (.return_, 1) := by decide +kernel
theorem dX5_sumOfVolumes_0 : decode cX5_sumOfVolumes 0 = .ok (.iconst 0, 1) := by decide +kernel
theorem dX5_sumOfVolumes_1 : decode cX5_sumOfVolumes 1 = .ok (.istore_n 1, 1) := by decide +kernel
theorem dX5_sumOfVolumes_2 : decode cX5_sumOfVolumes 2 = .ok (.iconst 0, 1) := by decide +kernel
theorem dX5_sumOfVolumes_3 : decode cX5_sumOfVolumes 3 = .ok (.istore_n 2, 1) := by decide +kernel
theorem dX5_sumOfVolumes_4 : decode cX5_sumOfVolumes 4 = .ok (.iload_n 2, 1) := by decide +kernel
theorem dX5_sumOfVolumes_5 : decode cX5_sumOfVolumes 5 = .ok (.iconst 5, 1) := by decide +kernel
theorem dX5_sumOfVolumes_6 : decode cX5_sumOfVolumes 6 = .ok (.if_icmp .ge 18, 3) := by decide +kernel
theorem dX5_sumOfVolumes_9 : decode cX5_sumOfVolumes 9 = .ok (.iload_n 1, 1) := by decide +kernel
theorem dX5_sumOfVolumes_10 : decode cX5_sumOfVolumes 10 = .ok (.aload_n 0, 1) := by decide +kernel
theorem dX5_sumOfVolumes_11 : decode cX5_sumOfVolumes 11 = .ok (.getfield 9, 3) := by decide +kernel
theorem dX5_sumOfVolumes_14 : decode cX5_sumOfVolumes 14 = .ok (.iload_n 2, 1) := by decide +kernel
theorem dX5_sumOfVolumes_15 : decode cX5_sumOfVolumes 15 = .ok (.iaload, 1) := by decide +kernel
theorem dX5_sumOfVolumes_16 : decode cX5_sumOfVolumes 16 = .ok (.iadd, 1) := by decide +kernel
theorem dX5_sumOfVolumes_17 : decode cX5_sumOfVolumes 17 = .ok (.istore_n 1, 1) := by decide +kernel
theorem dX5_sumOfVolumes_18 : decode cX5_sumOfVolumes 18 = .ok (.iinc 2 1, 3) := by decide +kernel
theorem dX5_sumOfVolumes_21 : decode cX5_sumOfVolumes 21 = .ok (.goto (-17), 3) := by decide +kernel
theorem dX5_sumOfVolumes_24 : decode cX5_sumOfVolumes 24 = .ok (.iload_n 1, 1) := by decide +kernel
theorem dX5_sumOfVolumes_25 : decode cX5_sumOfVolumes 25 = .ok (.ireturn, 1) := by decide +kernel
theorem dX5_sumByAccounts_0 : decode cX5_sumByAccounts 0 = .ok (.aload_n 0, 1) := by decide +kernel
theorem dX5_sumByAccounts_1 : decode cX5_sumByAccounts 1 = .ok (.getfield 29, 3) := by decide +kernel
theorem dX5_sumByAccounts_4 : decode cX5_sumByAccounts 4 = .ok (.aload_n 0, 1) := by decide +kernel
theorem dX5_sumByAccounts_5 : decode cX5_sumByAccounts 5 = .ok (.getfield 32, 3) := by decide +kernel
theorem dX5_sumByAccounts_8 : decode cX5_sumByAccounts 8 = .ok (.isub, 1) := by decide +kernel
theorem dX5_sumByAccounts_9 : decode cX5_sumByAccounts 9 = .ok (.aload_n 0, 1) := by decide +kernel
theorem dX5_sumByAccounts_10 : decode cX5_sumByAccounts 10 = .ok (.getfield 35, 3) := by decide +kernel
theorem dX5_sumByAccounts_13 : decode cX5_sumByAccounts 13 = .ok (.isub, 1) := by decide +kernel
theorem dX5_sumByAccounts_14 : decode cX5_sumByAccounts 14 = .ok (.istore_n 1, 1) := by decide +kernel
theorem dX5_sumByAccounts_15 : decode cX5_sumByAccounts 15 = .ok (.iconst 0, 1) := by decide +kernel
theorem dX5_sumByAccounts_16 : decode cX5_sumByAccounts 16 = .ok (.istore_n 2, 1) := by decide +kernel
theorem dX5_sumByAccounts_17 : decode cX5_sumByAccounts 17 = .ok (.iload_n 2, 1) := by decide +kernel
theorem dX5_sumByAccounts_18 : decode cX5_sumByAccounts 18 = .ok (.iconst 5, 1) := by decide +kernel
theorem dX5_sumByAccounts_19 : decode cX5_sumByAccounts 19 = .ok (.if_icmp .ge 17, 3) := by decide +kernel
theorem dX5_sumByAccounts_22 : decode cX5_sumByAccounts 22 = .ok (.iload_n 1, 1) := by decide +kernel
theorem dX5_sumByAccounts_23 : decode cX5_sumByAccounts 23 = .ok (.getstatic 38, 3) := by decide +kernel
theorem dX5_sumByAccounts_26 : decode cX5_sumByAccounts 26 = .ok (.iload_n 2, 1) := by decide +kernel
theorem dX5_sumByAccounts_27 : decode cX5_sumByAccounts 27 = .ok (.iaload, 1) := by decide +kernel
theorem dX5_sumByAccounts_28 : decode cX5_sumByAccounts 28 = .ok (.iadd, 1) := by decide +kernel
theorem dX5_sumByAccounts_29 : decode cX5_sumByAccounts 29 = .ok (.istore_n 1, 1) := by decide +kernel
theorem dX5_sumByAccounts_30 : decode cX5_sumByAccounts 30 = .ok (.iinc 2 1, 3) := by decide +kernel
theorem dX5_sumByAccounts_33 : decode cX5_sumByAccounts 33 = .ok (.goto (-16), 3) := by decide +kernel
theorem dX5_sumByAccounts_36 : decode cX5_sumByAccounts 36 = .ok (.iload_n 1, 1) := by decide +kernel
theorem dX5_sumByAccounts_37 : decode cX5_sumByAccounts 37 = .ok (.ireturn, 1) := by decide +kernel
theorem dX5_openGateCount_0 : decode cX5_openGateCount 0 = .ok (.iconst 0, 1) := by decide +kernel
theorem dX5_openGateCount_1 : decode cX5_openGateCount 1 = .ok (.istore_n 1, 1) := by decide +kernel
theorem dX5_openGateCount_2 : decode cX5_openGateCount 2 = .ok (.iconst 0, 1) := by decide +kernel
theorem dX5_openGateCount_3 : decode cX5_openGateCount 3 = .ok (.istore_n 2, 1) := by decide +kernel
theorem dX5_openGateCount_4 : decode cX5_openGateCount 4 = .ok (.iload_n 2, 1) := by decide +kernel
theorem dX5_openGateCount_5 : decode cX5_openGateCount 5 = .ok (.iconst 4, 1) := by decide +kernel
theorem dX5_openGateCount_6 : decode cX5_openGateCount 6 = .ok (.if_icmp .ge 26, 3) := by decide +kernel
theorem dX5_openGateCount_9 : decode cX5_openGateCount 9 = .ok (.iload_n 1, 1) := by decide +kernel
theorem dX5_openGateCount_10 : decode cX5_openGateCount 10 = .ok (.aload_n 0, 1) := by decide +kernel
theorem dX5_openGateCount_11 : decode cX5_openGateCount 11 = .ok (.getfield 18, 3) := by decide +kernel
theorem dX5_openGateCount_14 : decode cX5_openGateCount 14 = .ok (.iload_n 2, 1) := by decide +kernel
theorem dX5_openGateCount_15 : decode cX5_openGateCount 15 = .ok (.baload, 1) := by decide +kernel
theorem dX5_openGateCount_16 : decode cX5_openGateCount 16 = .ok (.ifCond .eq 7, 3) := by decide +kernel
theorem dX5_openGateCount_19 : decode cX5_openGateCount 19 = .ok (.iconst 1, 1) := by decide +kernel
theorem dX5_openGateCount_20 : decode cX5_openGateCount 20 = .ok (.goto 4, 3) := by decide +kernel
theorem dX5_openGateCount_23 : decode cX5_openGateCount 23 = .ok (.iconst 0, 1) := by decide +kernel
theorem dX5_openGateCount_24 : decode cX5_openGateCount 24 = .ok (.iadd, 1) := by decide +kernel
theorem dX5_openGateCount_25 : decode cX5_openGateCount 25 = .ok (.istore_n 1, 1) := by decide +kernel
theorem dX5_openGateCount_26 : decode cX5_openGateCount 26 = .ok (.iinc 2 1, 3) := by decide +kernel
theorem dX5_openGateCount_29 : decode cX5_openGateCount 29 = .ok (.goto (-25), 3) := by decide +kernel
theorem dX5_openGateCount_32 : decode cX5_openGateCount 32 = .ok (.iload_n 1, 1) := by decide +kernel
theorem dX5_openGateCount_33 : decode cX5_openGateCount 33 = .ok (.ireturn, 1) := by decide +kernel
theorem dX5_rankOfBasin_0 : decode cX5_rankOfBasin 0 = .ok (.iconst 0, 1) := by decide +kernel
theorem dX5_rankOfBasin_1 : decode cX5_rankOfBasin 1 = .ok (.istore_n 2, 1) := by decide +kernel
theorem dX5_rankOfBasin_2 : decode cX5_rankOfBasin 2 = .ok (.iconst 0, 1) := by decide +kernel
theorem dX5_rankOfBasin_3 : decode cX5_rankOfBasin 3 = .ok (.istore_n 3, 1) := by decide +kernel
theorem dX5_rankOfBasin_4 : decode cX5_rankOfBasin 4 = .ok (.iload_n 3, 1) := by decide +kernel
theorem dX5_rankOfBasin_5 : decode cX5_rankOfBasin 5 = .ok (.iconst 5, 1) := by decide +kernel
theorem dX5_rankOfBasin_6 : decode cX5_rankOfBasin 6 = .ok (.if_icmp .ge 35, 3) := by decide +kernel
theorem dX5_rankOfBasin_9 : decode cX5_rankOfBasin 9 = .ok (.aload_n 0, 1) := by decide +kernel
theorem dX5_rankOfBasin_10 : decode cX5_rankOfBasin 10 = .ok (.iload_n 3, 1) := by decide +kernel
theorem dX5_rankOfBasin_11 : decode cX5_rankOfBasin 11 = .ok (.iload_n 1, 1) := by decide +kernel
theorem dX5_rankOfBasin_12 : decode cX5_rankOfBasin 12 = .ok (.invokevirtual 45, 3) := by decide +kernel
theorem dX5_rankOfBasin_15 : decode cX5_rankOfBasin 15 = .ok (.istore 4, 2) := by decide +kernel
theorem dX5_rankOfBasin_17 : decode cX5_rankOfBasin 17 = .ok (.iload 4, 2) := by decide +kernel
theorem dX5_rankOfBasin_19 : decode cX5_rankOfBasin 19 = .ok (.ifCond .gt 13, 3) := by decide +kernel
theorem dX5_rankOfBasin_22 : decode cX5_rankOfBasin 22 = .ok (.iload 4, 2) := by decide +kernel
theorem dX5_rankOfBasin_24 : decode cX5_rankOfBasin 24 = .ok (.ifCond .ne 11, 3) := by decide +kernel
theorem dX5_rankOfBasin_27 : decode cX5_rankOfBasin 27 = .ok (.iload_n 3, 1) := by decide +kernel
theorem dX5_rankOfBasin_28 : decode cX5_rankOfBasin 28 = .ok (.iload_n 1, 1) := by decide +kernel
theorem dX5_rankOfBasin_29 : decode cX5_rankOfBasin 29 = .ok (.if_icmp .ge 6, 3) := by decide +kernel
theorem dX5_rankOfBasin_32 : decode cX5_rankOfBasin 32 = .ok (.iinc 2 1, 3) := by decide +kernel
theorem dX5_rankOfBasin_35 : decode cX5_rankOfBasin 35 = .ok (.iinc 3 1, 3) := by decide +kernel
theorem dX5_rankOfBasin_38 : decode cX5_rankOfBasin 38 = .ok (.goto (-34), 3) := by decide +kernel
theorem dX5_rankOfBasin_41 : decode cX5_rankOfBasin 41 = .ok (.iload_n 2, 1) := by decide +kernel
theorem dX5_rankOfBasin_42 : decode cX5_rankOfBasin 42 = .ok (.ireturn, 1) := by decide +kernel
theorem dX5_amountsAgree_0 : decode cX5_amountsAgree 0 = .ok (.iconst 0, 1) := by decide +kernel
theorem dX5_amountsAgree_1 : decode cX5_amountsAgree 1 = .ok (.istore_n 1, 1) := by decide +kernel
theorem dX5_amountsAgree_2 : decode cX5_amountsAgree 2 = .ok (.iload_n 1, 1) := by decide +kernel
theorem dX5_amountsAgree_3 : decode cX5_amountsAgree 3 = .ok (.iconst 4, 1) := by decide +kernel
theorem dX5_amountsAgree_4 : decode cX5_amountsAgree 4 = .ok (.if_icmp .ge 24, 3) := by decide +kernel
theorem dX5_amountsAgree_7 : decode cX5_amountsAgree 7 = .ok (.aload_n 0, 1) := by decide +kernel
theorem dX5_amountsAgree_8 : decode cX5_amountsAgree 8 = .ok (.iload_n 1, 1) := by decide +kernel
theorem dX5_amountsAgree_9 : decode cX5_amountsAgree 9 = .ok (.invokevirtual 58, 3) := by decide +kernel
theorem dX5_amountsAgree_12 : decode cX5_amountsAgree 12 = .ok (.aload_n 0, 1) := by decide +kernel
theorem dX5_amountsAgree_13 : decode cX5_amountsAgree 13 = .ok (.iload_n 1, 1) := by decide +kernel
theorem dX5_amountsAgree_14 : decode cX5_amountsAgree 14 = .ok (.invokevirtual 64, 3) := by decide +kernel
theorem dX5_amountsAgree_17 : decode cX5_amountsAgree 17 = .ok (.if_icmp .eq 5, 3) := by decide +kernel
theorem dX5_amountsAgree_20 : decode cX5_amountsAgree 20 = .ok (.iconst 0, 1) := by decide +kernel
theorem dX5_amountsAgree_21 : decode cX5_amountsAgree 21 = .ok (.ireturn, 1) := by decide +kernel
theorem dX5_amountsAgree_22 : decode cX5_amountsAgree 22 = .ok (.iinc 1 1, 3) := by decide +kernel
theorem dX5_amountsAgree_25 : decode cX5_amountsAgree 25 = .ok (.goto (-23), 3) := by decide +kernel
theorem dX5_amountsAgree_28 : decode cX5_amountsAgree 28 = .ok (.iconst 1, 1) := by decide +kernel
theorem dX5_amountsAgree_29 : decode cX5_amountsAgree 29 = .ok (.ireturn, 1) := by decide +kernel
theorem dX5_isWithinLimits_0 : decode cX5_isWithinLimits 0 = .ok (.iconst 0, 1) := by decide +kernel
theorem dX5_isWithinLimits_1 : decode cX5_isWithinLimits 1 = .ok (.istore_n 1, 1) := by decide +kernel
theorem dX5_isWithinLimits_2 : decode cX5_isWithinLimits 2 = .ok (.iload_n 1, 1) := by decide +kernel
theorem dX5_isWithinLimits_3 : decode cX5_isWithinLimits 3 = .ok (.iconst 5, 1) := by decide +kernel
theorem dX5_isWithinLimits_4 : decode cX5_isWithinLimits 4 = .ok (.if_icmp .ge 27, 3) := by decide +kernel
theorem dX5_isWithinLimits_7 : decode cX5_isWithinLimits 7 = .ok (.aload_n 0, 1) := by decide +kernel
theorem dX5_isWithinLimits_8 : decode cX5_isWithinLimits 8 = .ok (.getfield 9, 3) := by decide +kernel
theorem dX5_isWithinLimits_11 : decode cX5_isWithinLimits 11 = .ok (.iload_n 1, 1) := by decide +kernel
theorem dX5_isWithinLimits_12 : decode cX5_isWithinLimits 12 = .ok (.iaload, 1) := by decide +kernel
theorem dX5_isWithinLimits_13 : decode cX5_isWithinLimits 13 = .ok (.bipush 40, 2) := by decide +kernel
theorem dX5_isWithinLimits_15 : decode cX5_isWithinLimits 15 = .ok (.iload_n 1, 1) := by decide +kernel
theorem dX5_isWithinLimits_16 : decode cX5_isWithinLimits 16 = .ok (.invokestatic 41, 3) := by decide +kernel
theorem dX5_isWithinLimits_19 : decode cX5_isWithinLimits 19 = .ok (.imul, 1) := by decide +kernel
theorem dX5_isWithinLimits_20 : decode cX5_isWithinLimits 20 = .ok (.if_icmp .le 5, 3) := by decide +kernel
theorem dX5_isWithinLimits_23 : decode cX5_isWithinLimits 23 = .ok (.iconst 0, 1) := by decide +kernel
theorem dX5_isWithinLimits_24 : decode cX5_isWithinLimits 24 = .ok (.ireturn, 1) := by decide +kernel
theorem dX5_isWithinLimits_25 : decode cX5_isWithinLimits 25 = .ok (.iinc 1 1, 3) := by decide +kernel
theorem dX5_isWithinLimits_28 : decode cX5_isWithinLimits 28 = .ok (.goto (-26), 3) := by decide +kernel
theorem dX5_isWithinLimits_31 : decode cX5_isWithinLimits 31 = .ok (.iconst 1, 1) := by decide +kernel
theorem dX5_isWithinLimits_32 : decode cX5_isWithinLimits 32 = .ok (.ireturn, 1) := by decide +kernel
theorem dX6_init_0 : decode cX6_init 0 = .ok (.aload_n 0, 1) := by decide +kernel
theorem dX6_init_1 : decode cX6_init 1 = .ok (.invokespecial 3, 3) := by decide +kernel
theorem dX6_init_4 : decode cX6_init 4 = .ok (.aload_n 0, 1) := by decide +kernel
theorem dX6_init_5 : decode cX6_init 5 = .ok (.new 9, 3) := by decide +kernel
theorem dX6_init_8 : decode cX6_init 8 = .ok (.dup, 1) := by decide +kernel
theorem dX6_init_9 : decode cX6_init 9 = .ok (.invokespecial 11, 3) := by decide +kernel
theorem dX6_init_12 : decode cX6_init 12 = .ok (.putfield 12, 3) := by decide +kernel
theorem dX6_init_15 : decode cX6_init 15 = .ok (.aload_n 0, 1) := by decide +kernel
theorem dX6_init_16 : decode cX6_init 16 = .ok (.new 9, 3) := by decide +kernel
theorem dX6_init_19 : decode cX6_init 19 = .ok (.dup, 1) := by decide +kernel
theorem dX6_init_20 : decode cX6_init 20 = .ok (.invokespecial 11, 3) := by decide +kernel
theorem dX6_init_23 : decode cX6_init 23 = .ok (.putfield 16, 3) := by decide +kernel
theorem dX6_init_26 : decode cX6_init 26 = .ok (.aload_n 0, 1) := by decide +kernel
theorem dX6_init_27 : decode cX6_init 27 = .ok (.new 9, 3) := by decide +kernel
theorem dX6_init_30 : decode cX6_init 30 = .ok (.dup, 1) := by decide +kernel
theorem dX6_init_31 : decode cX6_init 31 = .ok (.invokespecial 11, 3) := by decide +kernel
theorem dX6_init_34 : decode cX6_init 34 = .ok (.putfield 19, 3) := by decide +kernel
theorem dX6_init_37 : decode cX6_init 37 = .ok (.aload_n 0, 1) := by decide +kernel
theorem dX6_init_38 : decode cX6_init 38 = .ok (.iconst 0, 1) := by decide +kernel
theorem dX6_init_39 : decode cX6_init 39 = .ok (.putfield 22, 3) := by decide +kernel
theorem dX6_init_42 : decode cX6_init 42 = .ok (.aload_n 0, 1) := by decide +kernel
theorem dX6_init_43 : decode cX6_init 43 = .ok (.new 26, 3) := by decide +kernel
theorem dX6_init_46 : decode cX6_init 46 = .ok (.dup, 1) := by decide +kernel
theorem dX6_init_47 : decode cX6_init 47 = .ok (.invokespecial 28, 3) := by decide +kernel
theorem dX6_init_50 : decode cX6_init 50 = .ok (.putfield 29, 3) := by decide +kernel
theorem dX6_init_53 : decode cX6_init 53 = .ok (.aload_n 0, 1) := by decide +kernel
theorem dX6_init_54 : decode cX6_init 54 = .ok (.new 33, 3) := by decide +kernel
theorem dX6_init_57 : decode cX6_init 57 = .ok (.dup, 1) := by decide +kernel
theorem dX6_init_58 : decode cX6_init 58 = .ok (.invokespecial 35, 3) := by decide +kernel
theorem dX6_init_61 : decode cX6_init 61 = .ok (.putfield 36, 3) := by decide +kernel
theorem dX6_init_64 : decode cX6_init 64 = .ok (.aload_n 0, 1) := by decide +kernel
theorem dX6_init_65 : decode cX6_init 65 = .ok (.new 40, 3) := by decide +kernel
theorem dX6_init_68 : decode cX6_init 68 = .ok (.dup, 1) := by decide +kernel
theorem dX6_init_69 : decode cX6_init 69 = .ok (.invokespecial 42, 3) := by decide +kernel
theorem dX6_init_72 : decode cX6_init 72 = .ok (.putfield 43, 3) := by decide +kernel
theorem dX6_init_75 : decode cX6_init 75 = .ok (.aload_n 0, 1) := by decide +kernel
theorem dX6_init_76 : decode cX6_init 76 = .ok (.iconst (-1), 1) := by decide +kernel
theorem dX6_init_77 : decode cX6_init 77 = .ok (.putfield 47, 3) := by decide +kernel
theorem dX6_init_80 : decode cX6_init 80 = .ok (.aload_n 0, 1) := by decide +kernel
theorem dX6_init_81 : decode cX6_init 81 = .ok (.iconst (-1), 1) := by decide +kernel
theorem dX6_init_82 : decode cX6_init 82 = .ok (.putfield 51, 3) := by decide +kernel
theorem dX6_init_85 : decode cX6_init 85 = .ok (.return_, 1) := by decide +kernel
theorem dX6_addBoat_0 : decode cX6_addBoat 0 = .ok (.aload_n 0, 1) := by decide +kernel
theorem dX6_addBoat_1 : decode cX6_addBoat 1 = .ok (.bipush 98, 2) := by decide +kernel
theorem dX6_addBoat_3 : decode cX6_addBoat 3 = .ok (.iload_n 1, 1) := by decide +kernel
theorem dX6_addBoat_4 : decode cX6_addBoat 4 = .ok (.iload_n 2, 1) := by decide +kernel
theorem dX6_addBoat_5 : decode cX6_addBoat 5 = .ok (.invokevirtual 54, 3) := by decide +kernel
theorem dX6_addBoat_8 : decode cX6_addBoat 8 = .ok (.aload_n 0, 1) := by decide +kernel
theorem dX6_addBoat_9 : decode cX6_addBoat 9 = .ok (.getfield 12, 3) := by decide +kernel
theorem dX6_addBoat_12 : decode cX6_addBoat 12 = .ok (.bipush 98, 2) := by decide +kernel
theorem dX6_addBoat_14 : decode cX6_addBoat 14 = .ok (.iload_n 1, 1) := by decide +kernel
theorem dX6_addBoat_15 : decode cX6_addBoat 15 = .ok (.iload_n 2, 1) := by decide +kernel
theorem dX6_addBoat_16 : decode cX6_addBoat 16 = .ok (.iload_n 3, 1) := by decide +kernel
theorem dX6_addBoat_17 : decode cX6_addBoat 17 = .ok (.ifCond .eq 7, 3) := by decide +kernel
theorem dX6_addBoat_20 : decode cX6_addBoat 20 = .ok (.iconst 1, 1) := by decide +kernel
theorem dX6_addBoat_21 : decode cX6_addBoat 21 = .ok (.goto 4, 3) := by decide +kernel
theorem dX6_addBoat_24 : decode cX6_addBoat 24 = .ok (.iconst 0, 1) := by decide +kernel
theorem dX6_addBoat_25 : decode cX6_addBoat 25 = .ok (.invokevirtual 58, 3) := by decide +kernel
theorem dX6_addBoat_28 : decode cX6_addBoat 28 = .ok (.ireturn, 1) := by decide +kernel
theorem dX6_setValve_0 : decode cX6_setValve 0 = .ok (.aload_n 0, 1) := by decide +kernel
theorem dX6_setValve_1 : decode cX6_setValve 1 = .ok (.bipush 118, 2) := by decide +kernel
theorem dX6_setValve_3 : decode cX6_setValve 3 = .ok (.iload_n 1, 1) := by decide +kernel
theorem dX6_setValve_4 : decode cX6_setValve 4 = .ok (.iload_n 2, 1) := by decide +kernel
theorem dX6_setValve_5 : decode cX6_setValve 5 = .ok (.invokevirtual 54, 3) := by decide +kernel
theorem dX6_setValve_8 : decode cX6_setValve 8 = .ok (.aload_n 0, 1) := by decide +kernel
theorem dX6_setValve_9 : decode cX6_setValve 9 = .ok (.getfield 12, 3) := by decide +kernel
theorem dX6_setValve_12 : decode cX6_setValve 12 = .ok (.bipush 118, 2) := by decide +kernel
theorem dX6_setValve_14 : decode cX6_setValve 14 = .ok (.iload_n 1, 1) := by decide +kernel
theorem dX6_setValve_15 : decode cX6_setValve 15 = .ok (.iload_n 2, 1) := by decide +kernel
theorem dX6_setValve_16 : decode cX6_setValve 16 = .ok (.iconst 0, 1) := by decide +kernel
theorem dX6_setValve_17 : decode cX6_setValve 17 = .ok (.invokevirtual 58, 3) := by decide +kernel
theorem dX6_setValve_20 : decode cX6_setValve 20 = .ok (.ireturn, 1) := by decide +kernel
theorem dX6_openGate_0 : decode cX6_openGate 0 = .ok (.aload_n 0, 1) := by decide +kernel
theorem dX6_openGate_1 : decode cX6_openGate 1 = .ok (.bipush 111, 2) := by decide +kernel
theorem dX6_openGate_3 : decode cX6_openGate 3 = .ok (.iload_n 1, 1) := by decide +kernel
theorem dX6_openGate_4 : decode cX6_openGate 4 = .ok (.iconst 0, 1) := by decide +kernel
theorem dX6_openGate_5 : decode cX6_openGate 5 = .ok (.invokevirtual 54, 3) := by decide +kernel
theorem dX6_openGate_8 : decode cX6_openGate 8 = .ok (.aload_n 0, 1) := by decide +kernel
theorem dX6_openGate_9 : decode cX6_openGate 9 = .ok (.getfield 12, 3) := by decide +kernel
theorem dX6_openGate_12 : decode cX6_openGate 12 = .ok (.bipush 111, 2) := by decide +kernel
theorem dX6_openGate_14 : decode cX6_openGate 14 = .ok (.iload_n 1, 1) := by decide +kernel
theorem dX6_openGate_15 : decode cX6_openGate 15 = .ok (.iconst 0, 1) := by decide +kernel
theorem dX6_openGate_16 : decode cX6_openGate 16 = .ok (.iconst 0, 1) := by decide +kernel
theorem dX6_openGate_17 : decode cX6_openGate 17 = .ok (.invokevirtual 58, 3) := by decide +kernel
theorem dX6_openGate_20 : decode cX6_openGate 20 = .ok (.ireturn, 1) := by decide +kernel
theorem dX6_shutGate_0 : decode cX6_shutGate 0 = .ok (.aload_n 0, 1) := by decide +kernel
theorem dX6_shutGate_1 : decode cX6_shutGate 1 = .ok (.bipush 115, 2) := by decide +kernel
theorem dX6_shutGate_3 : decode cX6_shutGate 3 = .ok (.iload_n 1, 1) := by decide +kernel
theorem dX6_shutGate_4 : decode cX6_shutGate 4 = .ok (.iconst 0, 1) := by decide +kernel
theorem dX6_shutGate_5 : decode cX6_shutGate 5 = .ok (.invokevirtual 54, 3) := by decide +kernel
theorem dX6_shutGate_8 : decode cX6_shutGate 8 = .ok (.aload_n 0, 1) := by decide +kernel
theorem dX6_shutGate_9 : decode cX6_shutGate 9 = .ok (.getfield 12, 3) := by decide +kernel
theorem dX6_shutGate_12 : decode cX6_shutGate 12 = .ok (.bipush 115, 2) := by decide +kernel
theorem dX6_shutGate_14 : decode cX6_shutGate 14 = .ok (.iload_n 1, 1) := by decide +kernel
theorem dX6_shutGate_15 : decode cX6_shutGate 15 = .ok (.iconst 0, 1) := by decide +kernel
theorem dX6_shutGate_16 : decode cX6_shutGate 16 = .ok (.iconst 0, 1) := by decide +kernel
theorem dX6_shutGate_17 : decode cX6_shutGate 17 = .ok (.invokevirtual 58, 3) := by decide +kernel
theorem dX6_shutGate_20 : decode cX6_shutGate 20 = .ok (.ireturn, 1) := by decide +kernel
theorem dX6_setRain_0 : decode cX6_setRain 0 = .ok (.aload_n 0, 1) := by decide +kernel
theorem dX6_setRain_1 : decode cX6_setRain 1 = .ok (.bipush 114, 2) := by decide +kernel
theorem dX6_setRain_3 : decode cX6_setRain 3 = .ok (.iload_n 1, 1) := by decide +kernel
theorem dX6_setRain_4 : decode cX6_setRain 4 = .ok (.iconst 0, 1) := by decide +kernel
theorem dX6_setRain_5 : decode cX6_setRain 5 = .ok (.invokevirtual 54, 3) := by decide +kernel
theorem dX6_setRain_8 : decode cX6_setRain 8 = .ok (.aload_n 0, 1) := by decide +kernel
theorem dX6_setRain_9 : decode cX6_setRain 9 = .ok (.getfield 12, 3) := by decide +kernel
theorem dX6_setRain_12 : decode cX6_setRain 12 = .ok (.bipush 114, 2) := by decide +kernel
theorem dX6_setRain_14 : decode cX6_setRain 14 = .ok (.iload_n 1, 1) := by decide +kernel
theorem dX6_setRain_15 : decode cX6_setRain 15 = .ok (.iconst 0, 1) := by decide +kernel
theorem dX6_setRain_16 : decode cX6_setRain 16 = .ok (.iconst 0, 1) := by decide +kernel
theorem dX6_setRain_17 : decode cX6_setRain 17 = .ok (.invokevirtual 58, 3) := by decide +kernel
theorem dX6_setRain_20 : decode cX6_setRain 20 = .ok (.ireturn, 1) := by decide +kernel
theorem dX6_setDrain_0 : decode cX6_setDrain 0 = .ok (.aload_n 0, 1) := by decide +kernel
theorem dX6_setDrain_1 : decode cX6_setDrain 1 = .ok (.bipush 100, 2) := by decide +kernel
theorem dX6_setDrain_3 : decode cX6_setDrain 3 = .ok (.iload_n 1, 1) := by decide +kernel
theorem dX6_setDrain_4 : decode cX6_setDrain 4 = .ok (.iconst 0, 1) := by decide +kernel
theorem dX6_setDrain_5 : decode cX6_setDrain 5 = .ok (.invokevirtual 54, 3) := by decide +kernel
theorem dX6_setDrain_8 : decode cX6_setDrain 8 = .ok (.aload_n 0, 1) := by decide +kernel
theorem dX6_setDrain_9 : decode cX6_setDrain 9 = .ok (.getfield 12, 3) := by decide +kernel
theorem dX6_setDrain_12 : decode cX6_setDrain 12 = .ok (.bipush 100, 2) := by decide +kernel
theorem dX6_setDrain_14 : decode cX6_setDrain 14 = .ok (.iload_n 1, 1) := by decide +kernel
theorem dX6_setDrain_15 : decode cX6_setDrain 15 = .ok (.iconst 0, 1) := by decide +kernel
theorem dX6_setDrain_16 : decode cX6_setDrain 16 = .ok (.iconst 0, 1) := by decide +kernel
theorem dX6_setDrain_17 : decode cX6_setDrain 17 = .ok (.invokevirtual 58, 3) := by decide +kernel
theorem dX6_setDrain_20 : decode cX6_setDrain 20 = .ok (.ireturn, 1) := by decide +kernel
theorem dX6_advance_0 : decode cX6_advance 0 = .ok (.aload_n 0, 1) := by decide +kernel
theorem dX6_advance_1 : decode cX6_advance 1 = .ok (.bipush 119, 2) := by decide +kernel
theorem dX6_advance_3 : decode cX6_advance 3 = .ok (.iload_n 1, 1) := by decide +kernel
theorem dX6_advance_4 : decode cX6_advance 4 = .ok (.iconst 0, 1) := by decide +kernel
theorem dX6_advance_5 : decode cX6_advance 5 = .ok (.invokevirtual 54, 3) := by decide +kernel
theorem dX6_advance_8 : decode cX6_advance 8 = .ok (.aload_n 0, 1) := by decide +kernel
theorem dX6_advance_9 : decode cX6_advance 9 = .ok (.getfield 12, 3) := by decide +kernel
theorem dX6_advance_12 : decode cX6_advance 12 = .ok (.bipush 119, 2) := by decide +kernel
theorem dX6_advance_14 : decode cX6_advance 14 = .ok (.iload_n 1, 1) := by decide +kernel
theorem dX6_advance_15 : decode cX6_advance 15 = .ok (.iconst 0, 1) := by decide +kernel
theorem dX6_advance_16 : decode cX6_advance 16 = .ok (.iconst 0, 1) := by decide +kernel
theorem dX6_advance_17 : decode cX6_advance 17 = .ok (.invokevirtual 58, 3) := by decide +kernel
theorem dX6_advance_20 : decode cX6_advance 20 = .ok (.ireturn, 1) := by decide +kernel
theorem dX6_area_0 : decode cX6_area 0 = .ok (.iload_n 1, 1) := by decide +kernel
theorem dX6_area_1 : decode cX6_area 1 = .ok (.invokestatic 62, 3) := by decide +kernel
theorem dX6_area_4 : decode cX6_area 4 = .ok (.iload_n 1, 1) := by decide +kernel
theorem dX6_area_5 : decode cX6_area 5 = .ok (.invokestatic 66, 3) := by decide +kernel
theorem dX6_area_8 : decode cX6_area 8 = .ok (.ireturn, 1) := by decide +kernel
theorem dX6_volume_0 : decode cX6_volume 0 = .ok (.iload_n 1, 1) := by decide +kernel
theorem dX6_volume_1 : decode cX6_volume 1 = .ok (.invokestatic 62, 3) := by decide +kernel
theorem dX6_volume_4 : decode cX6_volume 4 = .ok (.aload_n 0, 1) := by decide +kernel
theorem dX6_volume_5 : decode cX6_volume 5 = .ok (.getfield 12, 3) := by decide +kernel
theorem dX6_volume_8 : decode cX6_volume 8 = .ok (.getfield 70, 3) := by decide +kernel
theorem dX6_volume_11 : decode cX6_volume 11 = .ok (.getfield 74, 3) := by decide +kernel
theorem dX6_volume_14 : decode cX6_volume 14 = .ok (.iload_n 1, 1) := by decide +kernel
theorem dX6_volume_15 : decode cX6_volume 15 = .ok (.iaload, 1) := by decide +kernel
theorem dX6_volume_16 : decode cX6_volume 16 = .ok (.ireturn, 1) := by decide +kernel
theorem dX6_level_0 : decode cX6_level 0 = .ok (.iload_n 1, 1) := by decide +kernel
theorem dX6_level_1 : decode cX6_level 1 = .ok (.invokestatic 62, 3) := by decide +kernel
theorem dX6_level_4 : decode cX6_level 4 = .ok (.aload_n 0, 1) := by decide +kernel
theorem dX6_level_5 : decode cX6_level 5 = .ok (.getfield 12, 3) := by decide +kernel
theorem dX6_level_8 : decode cX6_level 8 = .ok (.getfield 70, 3) := by decide +kernel
theorem dX6_level_11 : decode cX6_level 11 = .ok (.iload_n 1, 1) := by decide +kernel
theorem dX6_level_12 : decode cX6_level 12 = .ok (.invokevirtual 80, 3) := by decide +kernel
theorem dX6_level_15 : decode cX6_level 15 = .ok (.ireturn, 1) := by decide +kernel
theorem dX6_exactLevel_0 : decode cX6_exactLevel 0 = .ok (.iload_n 1, 1) := by decide +kernel
theorem dX6_exactLevel_1 : decode cX6_exactLevel 1 = .ok (.invokestatic 62, 3) := by decide +kernel
theorem dX6_exactLevel_4 : decode cX6_exactLevel 4 = .ok (.aload_n 0, 1) := by decide +kernel
theorem dX6_exactLevel_5 : decode cX6_exactLevel 5 = .ok (.getfield 12, 3) := by decide +kernel
theorem dX6_exactLevel_8 : decode cX6_exactLevel 8 = .ok (.getfield 70, 3) := by decide +kernel
theorem dX6_exactLevel_11 : decode cX6_exactLevel 11 = .ok (.getfield 74, 3) := by decide +kernel
theorem dX6_exactLevel_14 : decode cX6_exactLevel 14 = .ok (.iload_n 1, 1) := by decide +kernel
theorem dX6_exactLevel_15 : decode cX6_exactLevel 15 = .ok (.iaload, 1) := by decide +kernel
theorem dX6_exactLevel_16 : decode cX6_exactLevel 16 = .ok (.i2d, 1) := by decide +kernel
theorem dX6_exactLevel_17 : decode cX6_exactLevel 17 = .ok (.iload_n 1, 1) := by decide +kernel
theorem dX6_exactLevel_18 : decode cX6_exactLevel 18 = .ok (.invokestatic 66, 3) := by decide +kernel
theorem dX6_exactLevel_21 : decode cX6_exactLevel 21 = .ok (.i2d, 1) := by decide +kernel
theorem dX6_exactLevel_22 : decode cX6_exactLevel 22 = .ok (.ddiv, 1) := by decide +kernel
theorem dX6_exactLevel_23 : decode cX6_exactLevel 23 = .ok (.dreturn, 1) := by decide +kernel
theorem dX6_isHigher_0 : decode cX6_isHigher 0 = .ok (.iload_n 1, 1) := by decide +kernel
theorem dX6_isHigher_1 : decode cX6_isHigher 1 = .ok (.invokestatic 62, 3) := by decide +kernel
theorem dX6_isHigher_4 : decode cX6_isHigher 4 = .ok (.iload_n 2, 1) := by decide +kernel
theorem dX6_isHigher_5 : decode cX6_isHigher 5 = .ok (.invokestatic 62, 3) := by decide +kernel
theorem dX6_isHigher_8 : decode cX6_isHigher 8 = .ok (.aload_n 0, 1) := by decide +kernel
theorem dX6_isHigher_9 : decode cX6_isHigher 9 = .ok (.getfield 12, 3) := by decide +kernel
theorem dX6_isHigher_12 : decode cX6_isHigher 12 = .ok (.getfield 70, 3) := by decide +kernel
theorem dX6_isHigher_15 : decode cX6_isHigher 15 = .ok (.iload_n 1, 1) := by decide +kernel
theorem dX6_isHigher_16 : decode cX6_isHigher 16 = .ok (.iload_n 2, 1) := by decide +kernel
theorem dX6_isHigher_17 : decode cX6_isHigher 17 = .ok (.invokevirtual 83, 3) := by decide +kernel
theorem dX6_isHigher_20 : decode cX6_isHigher 20 = .ok (.ifCond .le 7, 3) := by decide +kernel
theorem dX6_isHigher_23 : decode cX6_isHigher 23 = .ok (.iconst 1, 1) := by decide +kernel
theorem dX6_isHigher_24 : decode cX6_isHigher 24 = .ok (.goto 4, 3) := by decide +kernel
theorem dX6_isHigher_27 : decode cX6_isHigher 27 = .ok (.iconst 0, 1) := by decide +kernel
theorem dX6_isHigher_28 : decode cX6_isHigher 28 = .ok (.ireturn, 1) := by decide +kernel
theorem dX6_equalizingAmount_0 : decode cX6_equalizingAmount 0 = .ok (.iload_n 1, 1) := by decide +kernel
theorem dX6_equalizingAmount_1 : decode cX6_equalizingAmount 1 = .ok (.invokestatic 87, 3) := by decide +kernel
theorem dX6_equalizingAmount_4 : decode cX6_equalizingAmount 4 = .ok (.aload_n 0, 1) := by decide +kernel
theorem dX6_equalizingAmount_5 : decode cX6_equalizingAmount 5 = .ok (.getfield 12, 3) := by decide +kernel
theorem dX6_equalizingAmount_8 : decode cX6_equalizingAmount 8 = .ok (.getfield 70, 3) := by decide +kernel
theorem dX6_equalizingAmount_11 : decode cX6_equalizingAmount 11 = .ok (.iload_n 1, 1) := by decide +kernel
theorem dX6_equalizingAmount_12 : decode cX6_equalizingAmount 12 = .ok (.invokevirtual 90, 3) := by decide +kernel
theorem dX6_equalizingAmount_15 : decode cX6_equalizingAmount 15 = .ok (.ireturn, 1) := by decide +kernel
theorem dX6_equalizingAmountByLitres_0 : decode cX6_equalizingAmountByLitres 0 = .ok (.iload_n 1, 1) := by decide +kernel
theorem dX6_equalizingAmountByLitres_1 : decode cX6_equalizingAmountByLitres 1 = .ok (.invokestatic 87, 3) := by decide +kernel
theorem dX6_equalizingAmountByLitres_4 : decode cX6_equalizingAmountByLitres 4 = .ok (.aload_n 0, 1) := by decide +kernel
theorem dX6_equalizingAmountByLitres_5 : decode cX6_equalizingAmountByLitres 5 = .ok (.getfield 12, 3) := by decide +kernel
theorem dX6_equalizingAmountByLitres_8 : decode cX6_equalizingAmountByLitres 8 = .ok (.getfield 70, 3) := by decide +kernel
theorem dX6_equalizingAmountByLitres_11 : decode cX6_equalizingAmountByLitres 11 = .ok (.iload_n 1, 1) := by decide +kernel
theorem dX6_equalizingAmountByLitres_12 : decode cX6_equalizingAmountByLitres 12 = .ok (.invokevirtual 93, 3) := by decide +kernel
theorem dX6_equalizingAmountByLitres_15 : decode cX6_equalizingAmountByLitres 15 = .ok (.ireturn, 1) := by decide +kernel
theorem dX6_opening_0 : decode cX6_opening 0 = .ok (.iload_n 1, 1) := by decide +kernel
theorem dX6_opening_1 : decode cX6_opening 1 = .ok (.invokestatic 87, 3) := by decide +kernel
theorem dX6_opening_4 : decode cX6_opening 4 = .ok (.aload_n 0, 1) := by decide +kernel
theorem dX6_opening_5 : decode cX6_opening 5 = .ok (.getfield 12, 3) := by decide +kernel
theorem dX6_opening_8 : decode cX6_opening 8 = .ok (.getfield 70, 3) := by decide +kernel
theorem dX6_opening_11 : decode cX6_opening 11 = .ok (.getfield 96, 3) := by decide +kernel
theorem dX6_opening_14 : decode cX6_opening 14 = .ok (.iload_n 1, 1) := by decide +kernel
theorem dX6_opening_15 : decode cX6_opening 15 = .ok (.iaload, 1) := by decide +kernel
theorem dX6_opening_16 : decode cX6_opening 16 = .ok (.ireturn, 1) := by decide +kernel
theorem dX6_isOpen_0 : decode cX6_isOpen 0 = .ok (.iload_n 1, 1) := by decide +kernel
theorem dX6_isOpen_1 : decode cX6_isOpen 1 = .ok (.invokestatic 87, 3) := by decide +kernel
theorem dX6_isOpen_4 : decode cX6_isOpen 4 = .ok (.aload_n 0, 1) := by decide +kernel
theorem dX6_isOpen_5 : decode cX6_isOpen 5 = .ok (.getfield 12, 3) := by decide +kernel
theorem dX6_isOpen_8 : decode cX6_isOpen 8 = .ok (.getfield 70, 3) := by decide +kernel
theorem dX6_isOpen_11 : decode cX6_isOpen 11 = .ok (.getfield 99, 3) := by decide +kernel
theorem dX6_isOpen_14 : decode cX6_isOpen 14 = .ok (.iload_n 1, 1) := by decide +kernel
theorem dX6_isOpen_15 : decode cX6_isOpen 15 = .ok (.baload, 1) := by decide +kernel
theorem dX6_isOpen_16 : decode cX6_isOpen 16 = .ok (.ireturn, 1) := by decide +kernel
theorem dX6_flow_0 : decode cX6_flow 0 = .ok (.iload_n 1, 1) := by decide +kernel
theorem dX6_flow_1 : decode cX6_flow 1 = .ok (.invokestatic 87, 3) := by decide +kernel
theorem dX6_flow_4 : decode cX6_flow 4 = .ok (.aload_n 0, 1) := by decide +kernel
theorem dX6_flow_5 : decode cX6_flow 5 = .ok (.getfield 12, 3) := by decide +kernel
theorem dX6_flow_8 : decode cX6_flow 8 = .ok (.getfield 70, 3) := by decide +kernel
theorem dX6_flow_11 : decode cX6_flow 11 = .ok (.iload_n 1, 1) := by decide +kernel
theorem dX6_flow_12 : decode cX6_flow 12 = .ok (.invokevirtual 103, 3) := by decide +kernel
theorem dX6_flow_15 : decode cX6_flow 15 = .ok (.ireturn, 1) := by decide +kernel
theorem dX6_rain_0 : decode cX6_rain 0 = .ok (.aload_n 0, 1) := by decide +kernel
theorem dX6_rain_1 : decode cX6_rain 1 = .ok (.getfield 12, 3) := by decide +kernel
theorem dX6_rain_4 : decode cX6_rain 4 = .ok (.getfield 70, 3) := by decide +kernel
theorem dX6_rain_7 : decode cX6_rain 7 = .ok (.getfield 106, 3) := by decide +kernel
theorem dX6_rain_10 : decode cX6_rain 10 = .ok (.ireturn, 1) := by decide +kernel
theorem dX6_drain_0 : decode cX6_drain 0 = .ok (.aload_n 0, 1) := by decide +kernel
theorem dX6_drain_1 : decode cX6_drain 1 = .ok (.getfield 12, 3) := by decide +kernel
theorem dX6_drain_4 : decode cX6_drain 4 = .ok (.getfield 70, 3) := by decide +kernel
theorem dX6_drain_7 : decode cX6_drain 7 = .ok (.getfield 109, 3) := by decide +kernel
theorem dX6_drain_10 : decode cX6_drain 10 = .ok (.ireturn, 1) := by decide +kernel
theorem dX6_totalVolume_0 : decode cX6_totalVolume 0 = .ok (.aload_n 0, 1) := by decide +kernel
theorem dX6_totalVolume_1 : decode cX6_totalVolume 1 = .ok (.getfield 12, 3) := by decide +kernel
theorem dX6_totalVolume_4 : decode cX6_totalVolume 4 = .ok (.getfield 70, 3) := by decide +kernel
theorem dX6_totalVolume_7 : decode cX6_totalVolume 7 = .ok (.invokevirtual 112, 3) := by decide +kernel
theorem dX6_totalVolume_10 : decode cX6_totalVolume 10 = .ok (.ireturn, 1) := by decide +kernel
theorem dX6_totalVolumeByAccounts_0 : decode cX6_totalVolumeByAccounts 0 = .ok (.aload_n 0, 1) := by decide +kernel
theorem dX6_totalVolumeByAccounts_1 : decode cX6_totalVolumeByAccounts 1 = .ok (.getfield 12, 3) := by decide +kernel
theorem dX6_totalVolumeByAccounts_4 : decode cX6_totalVolumeByAccounts 4 = .ok (.getfield 70, 3) := by decide +kernel
theorem dX6_totalVolumeByAccounts_7 : decode cX6_totalVolumeByAccounts 7 = .ok (.invokevirtual 116, 3) := by decide +kernel
theorem dX6_totalVolumeByAccounts_10 : decode cX6_totalVolumeByAccounts 10 = .ok (.ireturn, 1) := by decide +kernel
theorem dX6_rainTotal_0 : decode cX6_rainTotal 0 = .ok (.aload_n 0, 1) := by decide +kernel
theorem dX6_rainTotal_1 : decode cX6_rainTotal 1 = .ok (.getfield 12, 3) := by decide +kernel
theorem dX6_rainTotal_4 : decode cX6_rainTotal 4 = .ok (.getfield 70, 3) := by decide +kernel
theorem dX6_rainTotal_7 : decode cX6_rainTotal 7 = .ok (.getfield 119, 3) := by decide +kernel
theorem dX6_rainTotal_10 : decode cX6_rainTotal 10 = .ok (.ireturn, 1) := by decide +kernel
theorem dX6_drainTotal_0 : decode cX6_drainTotal 0 = .ok (.aload_n 0, 1) := by decide +kernel
theorem dX6_drainTotal_1 : decode cX6_drainTotal 1 = .ok (.getfield 12, 3) := by decide +kernel
theorem dX6_drainTotal_4 : decode cX6_drainTotal 4 = .ok (.getfield 70, 3) := by decide +kernel
theorem dX6_drainTotal_7 : decode cX6_drainTotal 7 = .ok (.getfield 122, 3) := by decide +kernel
theorem dX6_drainTotal_10 : decode cX6_drainTotal 10 = .ok (.ireturn, 1) := by decide +kernel
theorem dX6_spilledTotal_0 : decode cX6_spilledTotal 0 = .ok (.aload_n 0, 1) := by decide +kernel
theorem dX6_spilledTotal_1 : decode cX6_spilledTotal 1 = .ok (.getfield 12, 3) := by decide +kernel
theorem dX6_spilledTotal_4 : decode cX6_spilledTotal 4 = .ok (.getfield 70, 3) := by decide +kernel
theorem dX6_spilledTotal_7 : decode cX6_spilledTotal 7 = .ok (.getfield 125, 3) := by decide +kernel
theorem dX6_spilledTotal_10 : decode cX6_spilledTotal 10 = .ok (.ireturn, 1) := by decide +kernel
theorem dX6_basinByLevel_0 : decode cX6_basinByLevel 0 = .ok (.iconst 0, 1) := by decide +kernel
theorem dX6_basinByLevel_1 : decode cX6_basinByLevel 1 = .ok (.istore_n 2, 1) := by decide +kernel
theorem dX6_basinByLevel_2 : decode cX6_basinByLevel 2 = .ok (.iload_n 2, 1) := by decide +kernel
theorem dX6_basinByLevel_3 : decode cX6_basinByLevel 3 = .ok (.iconst 5, 1) := by decide +kernel
theorem dX6_basinByLevel_4 : decode cX6_basinByLevel 4 = .ok (.if_icmp .ge 26, 3) := by decide +kernel
theorem dX6_basinByLevel_7 : decode cX6_basinByLevel 7 = .ok (.aload_n 0, 1) := by decide +kernel
theorem dX6_basinByLevel_8 : decode cX6_basinByLevel 8 = .ok (.getfield 12, 3) := by decide +kernel
theorem dX6_basinByLevel_11 : decode cX6_basinByLevel 11 = .ok (.getfield 70, 3) := by decide +kernel
theorem dX6_basinByLevel_14 : decode cX6_basinByLevel 14 = .ok (.iload_n 2, 1) := by decide +kernel
theorem dX6_basinByLevel_15 : decode cX6_basinByLevel 15 = .ok (.invokevirtual 128, 3) := by decide +kernel
theorem dX6_basinByLevel_18 : decode cX6_basinByLevel 18 = .ok (.iload_n 1, 1) := by decide +kernel
theorem dX6_basinByLevel_19 : decode cX6_basinByLevel 19 = .ok (.if_icmp .ne 5, 3) := by decide +kernel
theorem dX6_basinByLevel_22 : decode cX6_basinByLevel 22 = .ok (.iload_n 2, 1) := by decide +kernel
theorem dX6_basinByLevel_23 : decode cX6_basinByLevel 23 = .ok (.ireturn, 1) := by decide +kernel
theorem dX6_basinByLevel_24 : decode cX6_basinByLevel 24 = .ok (.iinc 2 1, 3) := by decide +kernel
theorem dX6_basinByLevel_27 : decode cX6_basinByLevel 27 = .ok (.goto (-25), 3) := by decide +kernel
theorem dX6_basinByLevel_30 : decode cX6_basinByLevel 30 = .ok (.new 131, 3) := by decide +kernel
theorem dX6_basinByLevel_33 : decode cX6_basinByLevel 33 = .ok (.dup, 1) := by decide +kernel
theorem dX6_basinByLevel_34 : decode cX6_basinByLevel 34 = .ok (.ldc 133, 2) := by decide +kernel
theorem dX6_basinByLevel_36 : decode cX6_basinByLevel 36 = .ok (.invokespecial 135, 3) := by decide +kernel
theorem dX6_basinByLevel_39 : decode cX6_basinByLevel 39 = .ok (.athrow, 1) := by decide +kernel
theorem dX6_boatCount_0 : decode cX6_boatCount 0 = .ok (.aload_n 0, 1) := by decide +kernel
theorem dX6_boatCount_1 : decode cX6_boatCount 1 = .ok (.getfield 12, 3) := by decide +kernel
theorem dX6_boatCount_4 : decode cX6_boatCount 4 = .ok (.getfield 138, 3) := by decide +kernel
theorem dX6_boatCount_7 : decode cX6_boatCount 7 = .ok (.getfield 142, 3) := by decide +kernel
theorem dX6_boatCount_10 : decode cX6_boatCount 10 = .ok (.ireturn, 1) := by decide +kernel
theorem dX6_colour_0 : decode cX6_colour 0 = .ok (.aload_n 0, 1) := by decide +kernel
theorem dX6_colour_1 : decode cX6_colour 1 = .ok (.iload_n 1, 1) := by decide +kernel
theorem dX6_colour_2 : decode cX6_colour 2 = .ok (.invokevirtual 147, 3) := by decide +kernel
theorem dX6_colour_5 : decode cX6_colour 5 = .ok (.aload_n 0, 1) := by decide +kernel
theorem dX6_colour_6 : decode cX6_colour 6 = .ok (.getfield 12, 3) := by decide +kernel
theorem dX6_colour_9 : decode cX6_colour 9 = .ok (.getfield 138, 3) := by decide +kernel
theorem dX6_colour_12 : decode cX6_colour 12 = .ok (.iload_n 1, 1) := by decide +kernel
theorem dX6_colour_13 : decode cX6_colour 13 = .ok (.invokevirtual 150, 3) := by decide +kernel
theorem dX6_colour_16 : decode cX6_colour 16 = .ok (.ireturn, 1) := by decide +kernel
theorem dX6_draught_0 : decode cX6_draught 0 = .ok (.aload_n 0, 1) := by decide +kernel
theorem dX6_draught_1 : decode cX6_draught 1 = .ok (.iload_n 1, 1) := by decide +kernel
theorem dX6_draught_2 : decode cX6_draught 2 = .ok (.invokevirtual 147, 3) := by decide +kernel
theorem dX6_draught_5 : decode cX6_draught 5 = .ok (.aload_n 0, 1) := by decide +kernel
theorem dX6_draught_6 : decode cX6_draught 6 = .ok (.getfield 12, 3) := by decide +kernel
theorem dX6_draught_9 : decode cX6_draught 9 = .ok (.getfield 138, 3) := by decide +kernel
theorem dX6_draught_12 : decode cX6_draught 12 = .ok (.getfield 154, 3) := by decide +kernel
theorem dX6_draught_15 : decode cX6_draught 15 = .ok (.iload_n 1, 1) := by decide +kernel
theorem dX6_draught_16 : decode cX6_draught 16 = .ok (.iaload, 1) := by decide +kernel
theorem dX6_draught_17 : decode cX6_draught 17 = .ok (.ireturn, 1) := by decide +kernel
theorem dX6_isGoingDown_0 : decode cX6_isGoingDown 0 = .ok (.aload_n 0, 1) := by decide +kernel
theorem dX6_isGoingDown_1 : decode cX6_isGoingDown 1 = .ok (.iload_n 1, 1) := by decide +kernel
theorem dX6_isGoingDown_2 : decode cX6_isGoingDown 2 = .ok (.invokevirtual 147, 3) := by decide +kernel
theorem dX6_isGoingDown_5 : decode cX6_isGoingDown 5 = .ok (.aload_n 0, 1) := by decide +kernel
theorem dX6_isGoingDown_6 : decode cX6_isGoingDown 6 = .ok (.getfield 12, 3) := by decide +kernel
theorem dX6_isGoingDown_9 : decode cX6_isGoingDown 9 = .ok (.getfield 138, 3) := by decide +kernel
theorem dX6_isGoingDown_12 : decode cX6_isGoingDown 12 = .ok (.getfield 157, 3) := by decide +kernel
theorem dX6_isGoingDown_15 : decode cX6_isGoingDown 15 = .ok (.iload_n 1, 1) := by decide +kernel
theorem dX6_isGoingDown_16 : decode cX6_isGoingDown 16 = .ok (.baload, 1) := by decide +kernel
theorem dX6_isGoingDown_17 : decode cX6_isGoingDown 17 = .ok (.ireturn, 1) := by decide +kernel
theorem dX6_basinOf_0 : decode cX6_basinOf 0 = .ok (.aload_n 0, 1) := by decide +kernel
theorem dX6_basinOf_1 : decode cX6_basinOf 1 = .ok (.iload_n 1, 1) := by decide +kernel
theorem dX6_basinOf_2 : decode cX6_basinOf 2 = .ok (.invokevirtual 147, 3) := by decide +kernel
theorem dX6_basinOf_5 : decode cX6_basinOf 5 = .ok (.aload_n 0, 1) := by decide +kernel
theorem dX6_basinOf_6 : decode cX6_basinOf 6 = .ok (.getfield 12, 3) := by decide +kernel
theorem dX6_basinOf_9 : decode cX6_basinOf 9 = .ok (.getfield 138, 3) := by decide +kernel
theorem dX6_basinOf_12 : decode cX6_basinOf 12 = .ok (.getfield 160, 3) := by decide +kernel
theorem dX6_basinOf_15 : decode cX6_basinOf 15 = .ok (.iload_n 1, 1) := by decide +kernel
theorem dX6_basinOf_16 : decode cX6_basinOf 16 = .ok (.iaload, 1) := by decide +kernel
theorem dX6_basinOf_17 : decode cX6_basinOf 17 = .ok (.ireturn, 1) := by decide +kernel
theorem dX6_boatsIn_0 : decode cX6_boatsIn 0 = .ok (.iload_n 1, 1) := by decide +kernel
theorem dX6_boatsIn_1 : decode cX6_boatsIn 1 = .ok (.invokestatic 62, 3) := by decide +kernel
theorem dX6_boatsIn_4 : decode cX6_boatsIn 4 = .ok (.aload_n 0, 1) := by decide +kernel
theorem dX6_boatsIn_5 : decode cX6_boatsIn 5 = .ok (.getfield 12, 3) := by decide +kernel
theorem dX6_boatsIn_8 : decode cX6_boatsIn 8 = .ok (.getfield 138, 3) := by decide +kernel
theorem dX6_boatsIn_11 : decode cX6_boatsIn 11 = .ok (.iload_n 1, 1) := by decide +kernel
theorem dX6_boatsIn_12 : decode cX6_boatsIn 12 = .ok (.invokevirtual 163, 3) := by decide +kernel
theorem dX6_boatsIn_15 : decode cX6_boatsIn 15 = .ok (.ireturn, 1) := by decide +kernel
theorem dX6_boatInOrder_0 : decode cX6_boatInOrder 0 = .ok (.iconst 0, 1) := by decide +kernel
theorem dX6_boatInOrder_1 : decode cX6_boatInOrder 1 = .ok (.istore_n 2, 1) := by decide +kernel
theorem dX6_boatInOrder_2 : decode cX6_boatInOrder 2 = .ok (.iload_n 2, 1) := by decide +kernel
theorem dX6_boatInOrder_3 : decode cX6_boatInOrder 3 = .ok (.aload_n 0, 1) := by decide +kernel
theorem dX6_boatInOrder_4 : decode cX6_boatInOrder 4 = .ok (.getfield 12, 3) := by decide +kernel
theorem dX6_boatInOrder_7 : decode cX6_boatInOrder 7 = .ok (.getfield 138, 3) := by decide +kernel
theorem dX6_boatInOrder_10 : decode cX6_boatInOrder 10 = .ok (.getfield 142, 3) := by decide +kernel
theorem dX6_boatInOrder_13 : decode cX6_boatInOrder 13 = .ok (.if_icmp .ge 26, 3) := by decide +kernel
theorem dX6_boatInOrder_16 : decode cX6_boatInOrder 16 = .ok (.aload_n 0, 1) := by decide +kernel
theorem dX6_boatInOrder_17 : decode cX6_boatInOrder 17 = .ok (.getfield 12, 3) := by decide +kernel
theorem dX6_boatInOrder_20 : decode cX6_boatInOrder 20 = .ok (.getfield 138, 3) := by decide +kernel
theorem dX6_boatInOrder_23 : decode cX6_boatInOrder 23 = .ok (.iload_n 2, 1) := by decide +kernel
theorem dX6_boatInOrder_24 : decode cX6_boatInOrder 24 = .ok (.invokevirtual 166, 3) := by decide +kernel
theorem dX6_boatInOrder_27 : decode cX6_boatInOrder 27 = .ok (.iload_n 1, 1) := by decide +kernel
theorem dX6_boatInOrder_28 : decode cX6_boatInOrder 28 = .ok (.if_icmp .ne 5, 3) := by decide +kernel
theorem dX6_boatInOrder_31 : decode cX6_boatInOrder 31 = .ok (.iload_n 2, 1) := by decide +kernel
theorem dX6_boatInOrder_32 : decode cX6_boatInOrder 32 = .ok (.ireturn, 1) := by decide +kernel
theorem dX6_boatInOrder_33 : decode cX6_boatInOrder 33 = .ok (.iinc 2 1, 3) := by decide +kernel
theorem dX6_boatInOrder_36 : decode cX6_boatInOrder 36 = .ok (.goto (-34), 3) := by decide +kernel
theorem dX6_boatInOrder_39 : decode cX6_boatInOrder 39 = .ok (.new 131, 3) := by decide +kernel
theorem dX6_boatInOrder_42 : decode cX6_boatInOrder 42 = .ok (.dup, 1) := by decide +kernel
theorem dX6_boatInOrder_43 : decode cX6_boatInOrder 43 = .ok (.ldc 133, 2) := by decide +kernel
theorem dX6_boatInOrder_45 : decode cX6_boatInOrder 45 = .ok (.invokespecial 135, 3) := by decide +kernel
theorem dX6_boatInOrder_48 : decode cX6_boatInOrder 48 = .ok (.athrow, 1) := by decide +kernel
theorem dX6_floats_0 : decode cX6_floats 0 = .ok (.aload_n 0, 1) := by decide +kernel
theorem dX6_floats_1 : decode cX6_floats 1 = .ok (.iload_n 1, 1) := by decide +kernel
theorem dX6_floats_2 : decode cX6_floats 2 = .ok (.invokevirtual 147, 3) := by decide +kernel
theorem dX6_floats_5 : decode cX6_floats 5 = .ok (.iload_n 2, 1) := by decide +kernel
theorem dX6_floats_6 : decode cX6_floats 6 = .ok (.invokestatic 62, 3) := by decide +kernel
theorem dX6_floats_9 : decode cX6_floats 9 = .ok (.aload_n 0, 1) := by decide +kernel
theorem dX6_floats_10 : decode cX6_floats 10 = .ok (.getfield 12, 3) := by decide +kernel
theorem dX6_floats_13 : decode cX6_floats 13 = .ok (.getfield 70, 3) := by decide +kernel
theorem dX6_floats_16 : decode cX6_floats 16 = .ok (.iload_n 2, 1) := by decide +kernel
theorem dX6_floats_17 : decode cX6_floats 17 = .ok (.aload_n 0, 1) := by decide +kernel
theorem dX6_floats_18 : decode cX6_floats 18 = .ok (.getfield 12, 3) := by decide +kernel
theorem dX6_floats_21 : decode cX6_floats 21 = .ok (.getfield 138, 3) := by decide +kernel
theorem dX6_floats_24 : decode cX6_floats 24 = .ok (.getfield 154, 3) := by decide +kernel
theorem dX6_floats_27 : decode cX6_floats 27 = .ok (.iload_n 1, 1) := by decide +kernel
theorem dX6_floats_28 : decode cX6_floats 28 = .ok (.iaload, 1) := by decide +kernel
theorem dX6_floats_29 : decode cX6_floats 29 = .ok (.invokevirtual 169, 3) := by decide +kernel
theorem dX6_floats_32 : decode cX6_floats 32 = .ok (.ireturn, 1) := by decide +kernel
theorem dX6_leftTotal_0 : decode cX6_leftTotal 0 = .ok (.iload_n 1, 1) := by decide +kernel
theorem dX6_leftTotal_1 : decode cX6_leftTotal 1 = .ok (.invokestatic 173, 3) := by decide +kernel
theorem dX6_leftTotal_4 : decode cX6_leftTotal 4 = .ok (.istore_n 2, 1) := by decide +kernel
theorem dX6_leftTotal_5 : decode cX6_leftTotal 5 = .ok (.iload_n 2, 1) := by decide +kernel
theorem dX6_leftTotal_6 : decode cX6_leftTotal 6 = .ok (.iconst (-1), 1) := by decide +kernel
theorem dX6_leftTotal_7 : decode cX6_leftTotal 7 = .ok (.if_icmp .ne 13, 3) := by decide +kernel
theorem dX6_leftTotal_10 : decode cX6_leftTotal 10 = .ok (.new 176, 3) := by decide +kernel
theorem dX6_leftTotal_13 : decode cX6_leftTotal 13 = .ok (.dup, 1) := by decide +kernel
theorem dX6_leftTotal_14 : decode cX6_leftTotal 14 = .ok (.ldc 178, 2) := by decide +kernel
theorem dX6_leftTotal_16 : decode cX6_leftTotal 16 = .ok (.invokespecial 180, 3) := by decide +kernel
theorem dX6_leftTotal_19 : decode cX6_leftTotal 19 = .ok (.athrow, 1) := by decide +kernel
theorem dX6_leftTotal_20 : decode cX6_leftTotal 20 = .ok (.aload_n 0, 1) := by decide +kernel
theorem dX6_leftTotal_21 : decode cX6_leftTotal 21 = .ok (.getfield 12, 3) := by decide +kernel
theorem dX6_leftTotal_24 : decode cX6_leftTotal 24 = .ok (.getfield 138, 3) := by decide +kernel
theorem dX6_leftTotal_27 : decode cX6_leftTotal 27 = .ok (.getfield 181, 3) := by decide +kernel
theorem dX6_leftTotal_30 : decode cX6_leftTotal 30 = .ok (.iload_n 2, 1) := by decide +kernel
theorem dX6_leftTotal_31 : decode cX6_leftTotal 31 = .ok (.iaload, 1) := by decide +kernel
theorem dX6_leftTotal_32 : decode cX6_leftTotal 32 = .ok (.ireturn, 1) := by decide +kernel
theorem dX6_minutesUntilLeaving_0 : decode cX6_minutesUntilLeaving 0 = .ok (.aload_n 0, 1) := by decide +kernel
theorem dX6_minutesUntilLeaving_1 : decode cX6_minutesUntilLeaving 1 = .ok (.iload_n 1, 1) := by decide +kernel
theorem dX6_minutesUntilLeaving_2 : decode cX6_minutesUntilLeaving 2 = .ok (.invokevirtual 147, 3) := by decide +kernel
theorem dX6_minutesUntilLeaving_5 : decode cX6_minutesUntilLeaving 5 = .ok (.aload_n 0, 1) := by decide +kernel
theorem dX6_minutesUntilLeaving_6 : decode cX6_minutesUntilLeaving 6 = .ok (.getfield 12, 3) := by decide +kernel
theorem dX6_minutesUntilLeaving_9 : decode cX6_minutesUntilLeaving 9 = .ok (.getfield 138, 3) := by decide +kernel
theorem dX6_minutesUntilLeaving_12 : decode cX6_minutesUntilLeaving 12 = .ok (.getfield 184, 3) := by decide +kernel
theorem dX6_minutesUntilLeaving_15 : decode cX6_minutesUntilLeaving 15 = .ok (.iload_n 1, 1) := by decide +kernel
theorem dX6_minutesUntilLeaving_16 : decode cX6_minutesUntilLeaving 16 = .ok (.iaload, 1) := by decide +kernel
theorem dX6_minutesUntilLeaving_17 : decode cX6_minutesUntilLeaving 17 = .ok (.istore_n 2, 1) := by decide +kernel
theorem dX6_minutesUntilLeaving_18 : decode cX6_minutesUntilLeaving 18 = .ok (.aload_n 0, 1) := by decide +kernel
theorem dX6_minutesUntilLeaving_19 : decode cX6_minutesUntilLeaving 19 = .ok (.getfield 16, 3) := by decide +kernel
theorem dX6_minutesUntilLeaving_22 : decode cX6_minutesUntilLeaving 22 = .ok (.aload_n 0, 1) := by decide +kernel
theorem dX6_minutesUntilLeaving_23 : decode cX6_minutesUntilLeaving 23 = .ok (.getfield 12, 3) := by decide +kernel
theorem dX6_minutesUntilLeaving_26 : decode cX6_minutesUntilLeaving 26 = .ok (.invokevirtual 187, 3) := by decide +kernel
theorem dX6_minutesUntilLeaving_29 : decode cX6_minutesUntilLeaving 29 = .ok (.iconst 1, 1) := by decide +kernel
theorem dX6_minutesUntilLeaving_30 : decode cX6_minutesUntilLeaving 30 = .ok (.istore_n 3, 1) := by decide +kernel
theorem dX6_minutesUntilLeaving_31 : decode cX6_minutesUntilLeaving 31 = .ok (.iload_n 3, 1) := by decide +kernel
theorem dX6_minutesUntilLeaving_32 : decode cX6_minutesUntilLeaving 32 = .ok (.sipush 200, 3) := by decide +kernel
theorem dX6_minutesUntilLeaving_35 : decode cX6_minutesUntilLeaving 35 = .ok (.if_icmp .gt 34, 3) := by decide +kernel
theorem dX6_minutesUntilLeaving_38 : decode cX6_minutesUntilLeaving 38 = .ok (.aload_n 0, 1) := by decide +kernel
theorem dX6_minutesUntilLeaving_39 : decode cX6_minutesUntilLeaving 39 = .ok (.getfield 16, 3) := by decide +kernel
theorem dX6_minutesUntilLeaving_42 : decode cX6_minutesUntilLeaving 42 = .ok (.iconst 1, 1) := by decide +kernel
theorem dX6_minutesUntilLeaving_43 : decode cX6_minutesUntilLeaving 43 = .ok (.invokevirtual 191, 3) := by decide +kernel
theorem dX6_minutesUntilLeaving_46 : decode cX6_minutesUntilLeaving 46 = .ok (.pop, 1) := by decide +kernel
theorem dX6_minutesUntilLeaving_47 : decode cX6_minutesUntilLeaving 47 = .ok (.aload_n 0, 1) := by decide +kernel
theorem dX6_minutesUntilLeaving_48 : decode cX6_minutesUntilLeaving 48 = .ok (.getfield 16, 3) := by decide +kernel
theorem dX6_minutesUntilLeaving_51 : decode cX6_minutesUntilLeaving 51 = .ok (.getfield 138, 3) := by decide +kernel
theorem dX6_minutesUntilLeaving_54 : decode cX6_minutesUntilLeaving 54 = .ok (.iload_n 2, 1) := by decide +kernel
theorem dX6_minutesUntilLeaving_55 : decode cX6_minutesUntilLeaving 55 = .ok (.invokevirtual 194, 3) := by decide +kernel
theorem dX6_minutesUntilLeaving_58 : decode cX6_minutesUntilLeaving 58 = .ok (.ifCond .ne 5, 3) := by decide +kernel
theorem dX6_minutesUntilLeaving_61 : decode cX6_minutesUntilLeaving 61 = .ok (.iload_n 3, 1) := by decide +kernel
theorem dX6_minutesUntilLeaving_62 : decode cX6_minutesUntilLeaving 62 = .ok (.ireturn, 1) := by decide +kernel
theorem dX6_minutesUntilLeaving_63 : decode cX6_minutesUntilLeaving 63 = .ok (.iinc 3 1, 3) := by decide +kernel
theorem dX6_minutesUntilLeaving_66 : decode cX6_minutesUntilLeaving 66 = .ok (.goto (-35), 3) := by decide +kernel
theorem dX6_minutesUntilLeaving_69 : decode cX6_minutesUntilLeaving 69 = .ok (.new 131, 3) := by decide +kernel
theorem dX6_minutesUntilLeaving_72 : decode cX6_minutesUntilLeaving 72 = .ok (.dup, 1) := by decide +kernel
theorem dX6_minutesUntilLeaving_73 : decode cX6_minutesUntilLeaving 73 = .ok (.ldc 198, 2) := by decide +kernel
theorem dX6_minutesUntilLeaving_75 : decode cX6_minutesUntilLeaving 75 = .ok (.invokespecial 135, 3) := by decide +kernel
theorem dX6_minutesUntilLeaving_78 : decode cX6_minutesUntilLeaving 78 = .ok (.athrow, 1) := by decide +kernel
theorem dX6_minutesUntilEqual_0 : decode cX6_minutesUntilEqual 0 = .ok (.iload_n 1, 1) := by decide +kernel
theorem dX6_minutesUntilEqual_1 : decode cX6_minutesUntilEqual 1 = .ok (.invokestatic 87, 3) := by decide +kernel
theorem dX6_minutesUntilEqual_4 : decode cX6_minutesUntilEqual 4 = .ok (.aload_n 0, 1) := by decide +kernel
theorem dX6_minutesUntilEqual_5 : decode cX6_minutesUntilEqual 5 = .ok (.getfield 16, 3) := by decide +kernel
theorem dX6_minutesUntilEqual_8 : decode cX6_minutesUntilEqual 8 = .ok (.aload_n 0, 1) := by decide +kernel
theorem dX6_minutesUntilEqual_9 : decode cX6_minutesUntilEqual 9 = .ok (.getfield 12, 3) := by decide +kernel
theorem dX6_minutesUntilEqual_12 : decode cX6_minutesUntilEqual 12 = .ok (.invokevirtual 187, 3) := by decide +kernel
theorem dX6_minutesUntilEqual_15 : decode cX6_minutesUntilEqual 15 = .ok (.iconst 0, 1) := by decide +kernel
theorem dX6_minutesUntilEqual_16 : decode cX6_minutesUntilEqual 16 = .ok (.istore_n 2, 1) := by decide +kernel
theorem dX6_minutesUntilEqual_17 : decode cX6_minutesUntilEqual 17 = .ok (.iload_n 2, 1) := by decide +kernel
theorem dX6_minutesUntilEqual_18 : decode cX6_minutesUntilEqual 18 = .ok (.sipush 200, 3) := by decide +kernel
theorem dX6_minutesUntilEqual_21 : decode cX6_minutesUntilEqual 21 = .ok (.if_icmp .gt 34, 3) := by decide +kernel
theorem dX6_minutesUntilEqual_24 : decode cX6_minutesUntilEqual 24 = .ok (.aload_n 0, 1) := by decide +kernel
theorem dX6_minutesUntilEqual_25 : decode cX6_minutesUntilEqual 25 = .ok (.getfield 16, 3) := by decide +kernel
theorem dX6_minutesUntilEqual_28 : decode cX6_minutesUntilEqual 28 = .ok (.getfield 70, 3) := by decide +kernel
theorem dX6_minutesUntilEqual_31 : decode cX6_minutesUntilEqual 31 = .ok (.iload_n 1, 1) := by decide +kernel
theorem dX6_minutesUntilEqual_32 : decode cX6_minutesUntilEqual 32 = .ok (.invokevirtual 90, 3) := by decide +kernel
theorem dX6_minutesUntilEqual_35 : decode cX6_minutesUntilEqual 35 = .ok (.ifCond .ne 5, 3) := by decide +kernel
theorem dX6_minutesUntilEqual_38 : decode cX6_minutesUntilEqual 38 = .ok (.iload_n 2, 1) := by decide +kernel
theorem dX6_minutesUntilEqual_39 : decode cX6_minutesUntilEqual 39 = .ok (.ireturn, 1) := by decide +kernel
theorem dX6_minutesUntilEqual_40 : decode cX6_minutesUntilEqual 40 = .ok (.aload_n 0, 1) := by decide +kernel
theorem dX6_minutesUntilEqual_41 : decode cX6_minutesUntilEqual 41 = .ok (.getfield 16, 3) := by decide +kernel
theorem dX6_minutesUntilEqual_44 : decode cX6_minutesUntilEqual 44 = .ok (.iconst 1, 1) := by decide +kernel
theorem dX6_minutesUntilEqual_45 : decode cX6_minutesUntilEqual 45 = .ok (.invokevirtual 191, 3) := by decide +kernel
theorem dX6_minutesUntilEqual_48 : decode cX6_minutesUntilEqual 48 = .ok (.pop, 1) := by decide +kernel
theorem dX6_minutesUntilEqual_49 : decode cX6_minutesUntilEqual 49 = .ok (.iinc 2 1, 3) := by decide +kernel
theorem dX6_minutesUntilEqual_52 : decode cX6_minutesUntilEqual 52 = .ok (.goto (-35), 3) := by decide +kernel
theorem dX6_minutesUntilEqual_55 : decode cX6_minutesUntilEqual 55 = .ok (.new 131, 3) := by decide +kernel
theorem dX6_minutesUntilEqual_58 : decode cX6_minutesUntilEqual 58 = .ok (.dup, 1) := by decide +kernel
theorem dX6_minutesUntilEqual_59 : decode cX6_minutesUntilEqual 59 = .ok (.ldc 200, 2) := by decide +kernel
theorem dX6_minutesUntilEqual_61 : decode cX6_minutesUntilEqual 61 = .ok (.invokespecial 135, 3) := by decide +kernel
theorem dX6_minutesUntilEqual_64 : decode cX6_minutesUntilEqual 64 = .ok (.athrow, 1) := by decide +kernel
theorem dX6_volumeAfter_0 : decode cX6_volumeAfter 0 = .ok (.iload_n 1, 1) := by decide +kernel
theorem dX6_volumeAfter_1 : decode cX6_volumeAfter 1 = .ok (.invokestatic 62, 3) := by decide +kernel
theorem dX6_volumeAfter_4 : decode cX6_volumeAfter 4 = .ok (.iload_n 2, 1) := by decide +kernel
theorem dX6_volumeAfter_5 : decode cX6_volumeAfter 5 = .ok (.ifCond .lt 10, 3) := by decide +kernel
theorem dX6_volumeAfter_8 : decode cX6_volumeAfter 8 = .ok (.iload_n 2, 1) := by decide +kernel
theorem dX6_volumeAfter_9 : decode cX6_volumeAfter 9 = .ok (.sipush 200, 3) := by decide +kernel
theorem dX6_volumeAfter_12 : decode cX6_volumeAfter 12 = .ok (.if_icmp .le 13, 3) := by decide +kernel
theorem dX6_volumeAfter_15 : decode cX6_volumeAfter 15 = .ok (.new 176, 3) := by decide +kernel
theorem dX6_volumeAfter_18 : decode cX6_volumeAfter 18 = .ok (.dup, 1) := by decide +kernel
theorem dX6_volumeAfter_19 : decode cX6_volumeAfter 19 = .ok (.ldc 202, 2) := by decide +kernel
theorem dX6_volumeAfter_21 : decode cX6_volumeAfter 21 = .ok (.invokespecial 180, 3) := by decide +kernel
theorem dX6_volumeAfter_24 : decode cX6_volumeAfter 24 = .ok (.athrow, 1) := by decide +kernel
theorem dX6_volumeAfter_25 : decode cX6_volumeAfter 25 = .ok (.aload_n 0, 1) := by decide +kernel
theorem dX6_volumeAfter_26 : decode cX6_volumeAfter 26 = .ok (.getfield 16, 3) := by decide +kernel
theorem dX6_volumeAfter_29 : decode cX6_volumeAfter 29 = .ok (.aload_n 0, 1) := by decide +kernel
theorem dX6_volumeAfter_30 : decode cX6_volumeAfter 30 = .ok (.getfield 12, 3) := by decide +kernel
theorem dX6_volumeAfter_33 : decode cX6_volumeAfter 33 = .ok (.invokevirtual 187, 3) := by decide +kernel
theorem dX6_volumeAfter_36 : decode cX6_volumeAfter 36 = .ok (.aload_n 0, 1) := by decide +kernel
theorem dX6_volumeAfter_37 : decode cX6_volumeAfter 37 = .ok (.getfield 16, 3) := by decide +kernel
theorem dX6_volumeAfter_40 : decode cX6_volumeAfter 40 = .ok (.iload_n 2, 1) := by decide +kernel
theorem dX6_volumeAfter_41 : decode cX6_volumeAfter 41 = .ok (.invokevirtual 191, 3) := by decide +kernel
theorem dX6_volumeAfter_44 : decode cX6_volumeAfter 44 = .ok (.pop, 1) := by decide +kernel
theorem dX6_volumeAfter_45 : decode cX6_volumeAfter 45 = .ok (.aload_n 0, 1) := by decide +kernel
theorem dX6_volumeAfter_46 : decode cX6_volumeAfter 46 = .ok (.getfield 16, 3) := by decide +kernel
theorem dX6_volumeAfter_49 : decode cX6_volumeAfter 49 = .ok (.getfield 70, 3) := by decide +kernel
theorem dX6_volumeAfter_52 : decode cX6_volumeAfter 52 = .ok (.getfield 74, 3) := by decide +kernel
theorem dX6_volumeAfter_55 : decode cX6_volumeAfter 55 = .ok (.iload_n 1, 1) := by decide +kernel
theorem dX6_volumeAfter_56 : decode cX6_volumeAfter 56 = .ok (.iaload, 1) := by decide +kernel
theorem dX6_volumeAfter_57 : decode cX6_volumeAfter 57 = .ok (.ireturn, 1) := by decide +kernel
theorem dX6_eventCount_0 : decode cX6_eventCount 0 = .ok (.aload_n 0, 1) := by decide +kernel
theorem dX6_eventCount_1 : decode cX6_eventCount 1 = .ok (.getfield 12, 3) := by decide +kernel
theorem dX6_eventCount_4 : decode cX6_eventCount 4 = .ok (.getfield 204, 3) := by decide +kernel
theorem dX6_eventCount_7 : decode cX6_eventCount 7 = .ok (.getfield 208, 3) := by decide +kernel
theorem dX6_eventCount_10 : decode cX6_eventCount 10 = .ok (.ireturn, 1) := by decide +kernel
theorem dX6_eventKind_0 : decode cX6_eventKind 0 = .ok (.aload_n 0, 1) := by decide +kernel
theorem dX6_eventKind_1 : decode cX6_eventKind 1 = .ok (.iload_n 1, 1) := by decide +kernel
theorem dX6_eventKind_2 : decode cX6_eventKind 2 = .ok (.invokevirtual 211, 3) := by decide +kernel
theorem dX6_eventKind_5 : decode cX6_eventKind 5 = .ok (.aload_n 0, 1) := by decide +kernel
theorem dX6_eventKind_6 : decode cX6_eventKind 6 = .ok (.getfield 12, 3) := by decide +kernel
theorem dX6_eventKind_9 : decode cX6_eventKind 9 = .ok (.getfield 204, 3) := by decide +kernel
theorem dX6_eventKind_12 : decode cX6_eventKind 12 = .ok (.getfield 214, 3) := by decide +kernel
theorem dX6_eventKind_15 : decode cX6_eventKind 15 = .ok (.aload_n 0, 1) := by decide +kernel
theorem dX6_eventKind_16 : decode cX6_eventKind 16 = .ok (.getfield 12, 3) := by decide +kernel
theorem dX6_eventKind_19 : decode cX6_eventKind 19 = .ok (.getfield 204, 3) := by decide +kernel
theorem dX6_eventKind_22 : decode cX6_eventKind 22 = .ok (.iload_n 1, 1) := by decide +kernel
theorem dX6_eventKind_23 : decode cX6_eventKind 23 = .ok (.invokevirtual 218, 3) := by decide +kernel
theorem dX6_eventKind_26 : decode cX6_eventKind 26 = .ok (.caload, 1) := by decide +kernel
theorem dX6_eventKind_27 : decode cX6_eventKind 27 = .ok (.ireturn, 1) := by decide +kernel
theorem dX6_eventNumber_0 : decode cX6_eventNumber 0 = .ok (.aload_n 0, 1) := by decide +kernel
theorem dX6_eventNumber_1 : decode cX6_eventNumber 1 = .ok (.iload_n 1, 1) := by decide +kernel
theorem dX6_eventNumber_2 : decode cX6_eventNumber 2 = .ok (.invokevirtual 211, 3) := by decide +kernel
theorem dX6_eventNumber_5 : decode cX6_eventNumber 5 = .ok (.aload_n 0, 1) := by decide +kernel
theorem dX6_eventNumber_6 : decode cX6_eventNumber 6 = .ok (.getfield 12, 3) := by decide +kernel
theorem dX6_eventNumber_9 : decode cX6_eventNumber 9 = .ok (.getfield 204, 3) := by decide +kernel
theorem dX6_eventNumber_12 : decode cX6_eventNumber 12 = .ok (.getfield 221, 3) := by decide +kernel
theorem dX6_eventNumber_15 : decode cX6_eventNumber 15 = .ok (.aload_n 0, 1) := by decide +kernel
theorem dX6_eventNumber_16 : decode cX6_eventNumber 16 = .ok (.getfield 12, 3) := by decide +kernel
theorem dX6_eventNumber_19 : decode cX6_eventNumber 19 = .ok (.getfield 204, 3) := by decide +kernel
theorem dX6_eventNumber_22 : decode cX6_eventNumber 22 = .ok (.iload_n 1, 1) := by decide +kernel
theorem dX6_eventNumber_23 : decode cX6_eventNumber 23 = .ok (.invokevirtual 218, 3) := by decide +kernel
theorem dX6_eventNumber_26 : decode cX6_eventNumber 26 = .ok (.iaload, 1) := by decide +kernel
theorem dX6_eventNumber_27 : decode cX6_eventNumber 27 = .ok (.ireturn, 1) := by decide +kernel
theorem dX6_time_0 : decode cX6_time 0 = .ok (.aload_n 0, 1) := by decide +kernel
theorem dX6_time_1 : decode cX6_time 1 = .ok (.getfield 12, 3) := by decide +kernel
theorem dX6_time_4 : decode cX6_time 4 = .ok (.getfield 224, 3) := by decide +kernel
theorem dX6_time_7 : decode cX6_time 7 = .ok (.ireturn, 1) := by decide +kernel
theorem dX6_meanLevel_0 : decode cX6_meanLevel 0 = .ok (.aload_n 0, 1) := by decide +kernel
theorem dX6_meanLevel_1 : decode cX6_meanLevel 1 = .ok (.getfield 12, 3) := by decide +kernel
theorem dX6_meanLevel_4 : decode cX6_meanLevel 4 = .ok (.getfield 70, 3) := by decide +kernel
theorem dX6_meanLevel_7 : decode cX6_meanLevel 7 = .ok (.invokevirtual 112, 3) := by decide +kernel
theorem dX6_meanLevel_10 : decode cX6_meanLevel 10 = .ok (.i2f, 1) := by decide +kernel
theorem dX6_meanLevel_11 : decode cX6_meanLevel 11 = .ok (.ldc 227, 2) := by decide +kernel
theorem dX6_meanLevel_13 : decode cX6_meanLevel 13 = .ok (.fdiv, 1) := by decide +kernel
theorem dX6_meanLevel_14 : decode cX6_meanLevel 14 = .ok (.freturn, 1) := by decide +kernel
theorem dX6_isConsistent_0 : decode cX6_isConsistent 0 = .ok (.aload_n 0, 1) := by decide +kernel
theorem dX6_isConsistent_1 : decode cX6_isConsistent 1 = .ok (.getfield 12, 3) := by decide +kernel
theorem dX6_isConsistent_4 : decode cX6_isConsistent 4 = .ok (.getfield 70, 3) := by decide +kernel
theorem dX6_isConsistent_7 : decode cX6_isConsistent 7 = .ok (.invokevirtual 228, 3) := by decide +kernel
theorem dX6_isConsistent_10 : decode cX6_isConsistent 10 = .ok (.ifCond .eq 56, 3) := by decide +kernel
theorem dX6_isConsistent_13 : decode cX6_isConsistent 13 = .ok (.aload_n 0, 1) := by decide +kernel
theorem dX6_isConsistent_14 : decode cX6_isConsistent 14 = .ok (.getfield 12, 3) := by decide +kernel
theorem dX6_isConsistent_17 : decode cX6_isConsistent 17 = .ok (.getfield 70, 3) := by decide +kernel
theorem dX6_isConsistent_20 : decode cX6_isConsistent 20 = .ok (.invokevirtual 112, 3) := by decide +kernel
theorem dX6_isConsistent_23 : decode cX6_isConsistent 23 = .ok (.aload_n 0, 1) := by decide +kernel
theorem dX6_isConsistent_24 : decode cX6_isConsistent 24 = .ok (.getfield 12, 3) := by decide +kernel
theorem dX6_isConsistent_27 : decode cX6_isConsistent 27 = .ok (.getfield 70, 3) := by decide +kernel
theorem dX6_isConsistent_30 : decode cX6_isConsistent 30 = .ok (.invokevirtual 116, 3) := by decide +kernel
theorem dX6_isConsistent_33 : decode cX6_isConsistent 33 = .ok (.if_icmp .ne 33, 3) := by decide +kernel
theorem dX6_isConsistent_36 : decode cX6_isConsistent 36 = .ok (.aload_n 0, 1) := by decide +kernel
theorem dX6_isConsistent_37 : decode cX6_isConsistent 37 = .ok (.getfield 12, 3) := by decide +kernel
theorem dX6_isConsistent_40 : decode cX6_isConsistent 40 = .ok (.getfield 70, 3) := by decide +kernel
theorem dX6_isConsistent_43 : decode cX6_isConsistent 43 = .ok (.invokevirtual 232, 3) := by decide +kernel
theorem dX6_isConsistent_46 : decode cX6_isConsistent 46 = .ok (.ifCond .eq 20, 3) := by decide +kernel
theorem dX6_isConsistent_49 : decode cX6_isConsistent 49 = .ok (.aload_n 0, 1) := by decide +kernel
theorem dX6_isConsistent_50 : decode cX6_isConsistent 50 = .ok (.getfield 12, 3) := by decide +kernel
theorem dX6_isConsistent_53 : decode cX6_isConsistent 53 = .ok (.getfield 138, 3) := by decide +kernel
theorem dX6_isConsistent_56 : decode cX6_isConsistent 56 = .ok (.invokevirtual 235, 3) := by decide +kernel
theorem dX6_isConsistent_59 : decode cX6_isConsistent 59 = .ok (.ifCond .eq 7, 3) := by decide +kernel
theorem dX6_isConsistent_62 : decode cX6_isConsistent 62 = .ok (.iconst 1, 1) := by decide +kernel
theorem dX6_isConsistent_63 : decode cX6_isConsistent 63 = .ok (.goto 4, 3) := by decide +kernel
theorem dX6_isConsistent_66 : decode cX6_isConsistent 66 = .ok (.iconst 0, 1) := by decide +kernel
theorem dX6_isConsistent_67 : decode cX6_isConsistent 67 = .ok (.ireturn, 1) := by decide +kernel
theorem dX6_renderLevels_0 : decode cX6_renderLevels 0 = .ok (.aload_n 0, 1) := by decide +kernel
theorem dX6_renderLevels_1 : decode cX6_renderLevels 1 = .ok (.getfield 43, 3) := by decide +kernel
theorem dX6_renderLevels_4 : decode cX6_renderLevels 4 = .ok (.iconst 0, 1) := by decide +kernel
theorem dX6_renderLevels_5 : decode cX6_renderLevels 5 = .ok (.invokevirtual 238, 3) := by decide +kernel
theorem dX6_renderLevels_8 : decode cX6_renderLevels 8 = .ok (.iconst 0, 1) := by decide +kernel
theorem dX6_renderLevels_9 : decode cX6_renderLevels 9 = .ok (.istore_n 1, 1) := by decide +kernel
theorem dX6_renderLevels_10 : decode cX6_renderLevels 10 = .ok (.iload_n 1, 1) := by decide +kernel
theorem dX6_renderLevels_11 : decode cX6_renderLevels 11 = .ok (.iconst 5, 1) := by decide +kernel
theorem dX6_renderLevels_12 : decode cX6_renderLevels 12 = .ok (.if_icmp .ge 64, 3) := by decide +kernel
theorem dX6_renderLevels_15 : decode cX6_renderLevels 15 = .ok (.iload_n 1, 1) := by decide +kernel
theorem dX6_renderLevels_16 : decode cX6_renderLevels 16 = .ok (.ifCond .le 35, 3) := by decide +kernel
theorem dX6_renderLevels_19 : decode cX6_renderLevels 19 = .ok (.aload_n 0, 1) := by decide +kernel
theorem dX6_renderLevels_20 : decode cX6_renderLevels 20 = .ok (.getfield 43, 3) := by decide +kernel
theorem dX6_renderLevels_23 : decode cX6_renderLevels 23 = .ok (.aload_n 0, 1) := by decide +kernel
theorem dX6_renderLevels_24 : decode cX6_renderLevels 24 = .ok (.getfield 12, 3) := by decide +kernel
theorem dX6_renderLevels_27 : decode cX6_renderLevels 27 = .ok (.getfield 70, 3) := by decide +kernel
theorem dX6_renderLevels_30 : decode cX6_renderLevels 30 = .ok (.getfield 99, 3) := by decide +kernel
theorem dX6_renderLevels_33 : decode cX6_renderLevels 33 = .ok (.iload_n 1, 1) := by decide +kernel
theorem dX6_renderLevels_34 : decode cX6_renderLevels 34 = .ok (.iconst 1, 1) := by decide +kernel
theorem dX6_renderLevels_35 : decode cX6_renderLevels 35 = .ok (.isub, 1) := by decide +kernel
theorem dX6_renderLevels_36 : decode cX6_renderLevels 36 = .ok (.baload, 1) := by decide +kernel
theorem dX6_renderLevels_37 : decode cX6_renderLevels 37 = .ok (.ifCond .eq 8, 3) := by decide +kernel
theorem dX6_renderLevels_40 : decode cX6_renderLevels 40 = .ok (.bipush 47, 2) := by decide +kernel
theorem dX6_renderLevels_42 : decode cX6_renderLevels 42 = .ok (.goto 5, 3) := by decide +kernel
theorem dX6_renderLevels_45 : decode cX6_renderLevels 45 = .ok (.bipush 124, 2) := by decide +kernel
theorem dX6_renderLevels_47 : decode cX6_renderLevels 47 = .ok (.invokevirtual 241, 3) := by decide +kernel
theorem dX6_renderLevels_50 : decode cX6_renderLevels 50 = .ok (.pop, 1) := by decide +kernel
theorem dX6_renderLevels_51 : decode cX6_renderLevels 51 = .ok (.aload_n 0, 1) := by decide +kernel
theorem dX6_renderLevels_52 : decode cX6_renderLevels 52 = .ok (.getfield 43, 3) := by decide +kernel
theorem dX6_renderLevels_55 : decode cX6_renderLevels 55 = .ok (.aload_n 0, 1) := by decide +kernel
theorem dX6_renderLevels_56 : decode cX6_renderLevels 56 = .ok (.getfield 12, 3) := by decide +kernel
theorem dX6_renderLevels_59 : decode cX6_renderLevels 59 = .ok (.getfield 70, 3) := by decide +kernel
theorem dX6_renderLevels_62 : decode cX6_renderLevels 62 = .ok (.iload_n 1, 1) := by decide +kernel
theorem dX6_renderLevels_63 : decode cX6_renderLevels 63 = .ok (.invokevirtual 80, 3) := by decide +kernel
theorem dX6_renderLevels_66 : decode cX6_renderLevels 66 = .ok (.invokevirtual 245, 3) := by decide +kernel
theorem dX6_renderLevels_69 : decode cX6_renderLevels 69 = .ok (.pop, 1) := by decide +kernel
theorem dX6_renderLevels_70 : decode cX6_renderLevels 70 = .ok (.iinc 1 1, 3) := by decide +kernel
theorem dX6_renderLevels_73 : decode cX6_renderLevels 73 = .ok (.goto (-63), 3) := by decide +kernel
theorem dX6_renderLevels_76 : decode cX6_renderLevels 76 = .ok (.aload_n 0, 1) := by decide +kernel
theorem dX6_renderLevels_77 : decode cX6_renderLevels 77 = .ok (.getfield 43, 3) := by decide +kernel
theorem dX6_renderLevels_80 : decode cX6_renderLevels 80 = .ok (.invokevirtual 248, 3) := by decide +kernel
theorem dX6_renderLevels_83 : decode cX6_renderLevels 83 = .ok (.ireturn, 1) := by decide +kernel
theorem dX6_renderBoat_0 : decode cX6_renderBoat 0 = .ok (.aload_n 0, 1) := by decide +kernel
theorem dX6_renderBoat_1 : decode cX6_renderBoat 1 = .ok (.iload_n 1, 1) := by decide +kernel
theorem dX6_renderBoat_2 : decode cX6_renderBoat 2 = .ok (.invokevirtual 147, 3) := by decide +kernel
theorem dX6_renderBoat_5 : decode cX6_renderBoat 5 = .ok (.aload_n 0, 1) := by decide +kernel
theorem dX6_renderBoat_6 : decode cX6_renderBoat 6 = .ok (.getfield 43, 3) := by decide +kernel
theorem dX6_renderBoat_9 : decode cX6_renderBoat 9 = .ok (.iconst 0, 1) := by decide +kernel
theorem dX6_renderBoat_10 : decode cX6_renderBoat 10 = .ok (.invokevirtual 238, 3) := by decide +kernel
theorem dX6_renderBoat_13 : decode cX6_renderBoat 13 = .ok (.aload_n 0, 1) := by decide +kernel
theorem dX6_renderBoat_14 : decode cX6_renderBoat 14 = .ok (.getfield 43, 3) := by decide +kernel
theorem dX6_renderBoat_17 : decode cX6_renderBoat 17 = .ok (.aload_n 0, 1) := by decide +kernel
theorem dX6_renderBoat_18 : decode cX6_renderBoat 18 = .ok (.getfield 12, 3) := by decide +kernel
theorem dX6_renderBoat_21 : decode cX6_renderBoat 21 = .ok (.getfield 138, 3) := by decide +kernel
theorem dX6_renderBoat_24 : decode cX6_renderBoat 24 = .ok (.iload_n 1, 1) := by decide +kernel
theorem dX6_renderBoat_25 : decode cX6_renderBoat 25 = .ok (.invokevirtual 150, 3) := by decide +kernel
theorem dX6_renderBoat_28 : decode cX6_renderBoat 28 = .ok (.invokevirtual 241, 3) := by decide +kernel
theorem dX6_renderBoat_31 : decode cX6_renderBoat 31 = .ok (.pop, 1) := by decide +kernel
theorem dX6_renderBoat_32 : decode cX6_renderBoat 32 = .ok (.aload_n 0, 1) := by decide +kernel
theorem dX6_renderBoat_33 : decode cX6_renderBoat 33 = .ok (.getfield 43, 3) := by decide +kernel
theorem dX6_renderBoat_36 : decode cX6_renderBoat 36 = .ok (.aload_n 0, 1) := by decide +kernel
theorem dX6_renderBoat_37 : decode cX6_renderBoat 37 = .ok (.getfield 12, 3) := by decide +kernel
theorem dX6_renderBoat_40 : decode cX6_renderBoat 40 = .ok (.getfield 138, 3) := by decide +kernel
theorem dX6_renderBoat_43 : decode cX6_renderBoat 43 = .ok (.getfield 154, 3) := by decide +kernel
theorem dX6_renderBoat_46 : decode cX6_renderBoat 46 = .ok (.iload_n 1, 1) := by decide +kernel
theorem dX6_renderBoat_47 : decode cX6_renderBoat 47 = .ok (.iaload, 1) := by decide +kernel
theorem dX6_renderBoat_48 : decode cX6_renderBoat 48 = .ok (.invokevirtual 245, 3) := by decide +kernel
theorem dX6_renderBoat_51 : decode cX6_renderBoat 51 = .ok (.pop, 1) := by decide +kernel
theorem dX6_renderBoat_52 : decode cX6_renderBoat 52 = .ok (.aload_n 0, 1) := by decide +kernel
theorem dX6_renderBoat_53 : decode cX6_renderBoat 53 = .ok (.getfield 43, 3) := by decide +kernel
theorem dX6_renderBoat_56 : decode cX6_renderBoat 56 = .ok (.aload_n 0, 1) := by decide +kernel
theorem dX6_renderBoat_57 : decode cX6_renderBoat 57 = .ok (.getfield 12, 3) := by decide +kernel
theorem dX6_renderBoat_60 : decode cX6_renderBoat 60 = .ok (.getfield 138, 3) := by decide +kernel
theorem dX6_renderBoat_63 : decode cX6_renderBoat 63 = .ok (.getfield 157, 3) := by decide +kernel
theorem dX6_renderBoat_66 : decode cX6_renderBoat 66 = .ok (.iload_n 1, 1) := by decide +kernel
theorem dX6_renderBoat_67 : decode cX6_renderBoat 67 = .ok (.baload, 1) := by decide +kernel
theorem dX6_renderBoat_68 : decode cX6_renderBoat 68 = .ok (.ifCond .eq 8, 3) := by decide +kernel
theorem dX6_renderBoat_71 : decode cX6_renderBoat 71 = .ok (.bipush 118, 2) := by decide +kernel
theorem dX6_renderBoat_73 : decode cX6_renderBoat 73 = .ok (.goto 5, 3) := by decide +kernel
theorem dX6_renderBoat_76 : decode cX6_renderBoat 76 = .ok (.bipush 94, 2) := by decide +kernel
theorem dX6_renderBoat_78 : decode cX6_renderBoat 78 = .ok (.invokevirtual 241, 3) := by decide +kernel
theorem dX6_renderBoat_81 : decode cX6_renderBoat 81 = .ok (.pop, 1) := by decide +kernel
theorem dX6_renderBoat_82 : decode cX6_renderBoat 82 = .ok (.aload_n 0, 1) := by decide +kernel
theorem dX6_renderBoat_83 : decode cX6_renderBoat 83 = .ok (.getfield 43, 3) := by decide +kernel
theorem dX6_renderBoat_86 : decode cX6_renderBoat 86 = .ok (.aload_n 0, 1) := by decide +kernel
theorem dX6_renderBoat_87 : decode cX6_renderBoat 87 = .ok (.getfield 12, 3) := by decide +kernel
theorem dX6_renderBoat_90 : decode cX6_renderBoat 90 = .ok (.getfield 138, 3) := by decide +kernel
theorem dX6_renderBoat_93 : decode cX6_renderBoat 93 = .ok (.getfield 160, 3) := by decide +kernel
theorem dX6_renderBoat_96 : decode cX6_renderBoat 96 = .ok (.iload_n 1, 1) := by decide +kernel
theorem dX6_renderBoat_97 : decode cX6_renderBoat 97 = .ok (.iaload, 1) := by decide +kernel
theorem dX6_renderBoat_98 : decode cX6_renderBoat 98 = .ok (.invokevirtual 245, 3) := by decide +kernel
theorem dX6_renderBoat_101 : decode cX6_renderBoat 101 = .ok (.pop, 1) := by decide +kernel
theorem dX6_renderBoat_102 : decode cX6_renderBoat 102 = .ok (.aload_n 0, 1) := by decide +kernel
theorem dX6_renderBoat_103 : decode cX6_renderBoat 103 = .ok (.getfield 43, 3) := by decide +kernel
theorem dX6_renderBoat_106 : decode cX6_renderBoat 106 = .ok (.invokevirtual 248, 3) := by decide +kernel
theorem dX6_renderBoat_109 : decode cX6_renderBoat 109 = .ok (.ireturn, 1) := by decide +kernel
theorem dX6_outputAt_0 : decode cX6_outputAt 0 = .ok (.iload_n 1, 1) := by decide +kernel
theorem dX6_outputAt_1 : decode cX6_outputAt 1 = .ok (.ifCond .lt 14, 3) := by decide +kernel
theorem dX6_outputAt_4 : decode cX6_outputAt 4 = .ok (.iload_n 1, 1) := by decide +kernel
theorem dX6_outputAt_5 : decode cX6_outputAt 5 = .ok (.aload_n 0, 1) := by decide +kernel
theorem dX6_outputAt_6 : decode cX6_outputAt 6 = .ok (.getfield 43, 3) := by decide +kernel
theorem dX6_outputAt_9 : decode cX6_outputAt 9 = .ok (.invokevirtual 248, 3) := by decide +kernel
theorem dX6_outputAt_12 : decode cX6_outputAt 12 = .ok (.if_icmp .lt 13, 3) := by decide +kernel
theorem dX6_outputAt_15 : decode cX6_outputAt 15 = .ok (.new 251, 3) := by decide +kernel
theorem dX6_outputAt_18 : decode cX6_outputAt 18 = .ok (.dup, 1) := by decide +kernel
theorem dX6_outputAt_19 : decode cX6_outputAt 19 = .ok (.ldc 253, 2) := by decide +kernel
theorem dX6_outputAt_21 : decode cX6_outputAt 21 = .ok (.invokespecial 255, 3) := by decide +kernel
theorem dX6_outputAt_24 : decode cX6_outputAt 24 = .ok (.athrow, 1) := by decide +kernel
theorem dX6_outputAt_25 : decode cX6_outputAt 25 = .ok (.aload_n 0, 1) := by decide +kernel
theorem dX6_outputAt_26 : decode cX6_outputAt 26 = .ok (.getfield 43, 3) := by decide +kernel
theorem dX6_outputAt_29 : decode cX6_outputAt 29 = .ok (.iload_n 1, 1) := by decide +kernel
theorem dX6_outputAt_30 : decode cX6_outputAt 30 = .ok (.invokevirtual 256, 3) := by decide +kernel
theorem dX6_outputAt_33 : decode cX6_outputAt 33 = .ok (.ireturn, 1) := by decide +kernel
theorem dX6_type_0 : decode cX6_type 0 = .ok (.iload_n 1, 1) := by decide +kernel
theorem dX6_type_1 : decode cX6_type 1 = .ok (.bipush 32, 2) := by decide +kernel
theorem dX6_type_3 : decode cX6_type 3 = .ok (.if_icmp .lt 9, 3) := by decide +kernel
theorem dX6_type_6 : decode cX6_type 6 = .ok (.iload_n 1, 1) := by decide +kernel
theorem dX6_type_7 : decode cX6_type 7 = .ok (.bipush 126, 2) := by decide +kernel
theorem dX6_type_9 : decode cX6_type 9 = .ok (.if_icmp .le 14, 3) := by decide +kernel
theorem dX6_type_12 : decode cX6_type 12 = .ok (.new 176, 3) := by decide +kernel
theorem dX6_type_15 : decode cX6_type 15 = .ok (.dup, 1) := by decide +kernel
theorem dX6_type_16 : decode cX6_type 16 = .ok (.ldc_w 259, 3) := by decide +kernel
theorem dX6_type_19 : decode cX6_type 19 = .ok (.invokespecial 180, 3) := by decide +kernel
theorem dX6_type_22 : decode cX6_type 22 = .ok (.athrow, 1) := by decide +kernel
theorem dX6_type_23 : decode cX6_type 23 = .ok (.aload_n 0, 1) := by decide +kernel
theorem dX6_type_24 : decode cX6_type 24 = .ok (.getfield 36, 3) := by decide +kernel
theorem dX6_type_27 : decode cX6_type 27 = .ok (.getfield 261, 3) := by decide +kernel
theorem dX6_type_30 : decode cX6_type 30 = .ok (.bipush 60, 2) := by decide +kernel
theorem dX6_type_32 : decode cX6_type 32 = .ok (.if_icmp .lt 14, 3) := by decide +kernel
theorem dX6_type_35 : decode cX6_type 35 = .ok (.new 263, 3) := by decide +kernel
theorem dX6_type_38 : decode cX6_type 38 = .ok (.dup, 1) := by decide +kernel
theorem dX6_type_39 : decode cX6_type 39 = .ok (.ldc_w 265, 3) := by decide +kernel
theorem dX6_type_42 : decode cX6_type 42 = .ok (.invokespecial 267, 3) := by decide +kernel
theorem dX6_type_45 : decode cX6_type 45 = .ok (.athrow, 1) := by decide +kernel
theorem dX6_type_46 : decode cX6_type 46 = .ok (.aload_n 0, 1) := by decide +kernel
theorem dX6_type_47 : decode cX6_type 47 = .ok (.getfield 36, 3) := by decide +kernel
theorem dX6_type_50 : decode cX6_type 50 = .ok (.getfield 268, 3) := by decide +kernel
theorem dX6_type_53 : decode cX6_type 53 = .ok (.aload_n 0, 1) := by decide +kernel
theorem dX6_type_54 : decode cX6_type 54 = .ok (.getfield 36, 3) := by decide +kernel
theorem dX6_type_57 : decode cX6_type 57 = .ok (.getfield 261, 3) := by decide +kernel
theorem dX6_type_60 : decode cX6_type 60 = .ok (.iload_n 1, 1) := by decide +kernel
theorem dX6_type_61 : decode cX6_type 61 = .ok (.castore, 1) := by decide +kernel
theorem dX6_type_62 : decode cX6_type 62 = .ok (.aload_n 0, 1) := by decide +kernel
theorem dX6_type_63 : decode cX6_type 63 = .ok (.getfield 36, 3) := by decide +kernel
theorem dX6_type_66 : decode cX6_type 66 = .ok (.dup, 1) := by decide +kernel
theorem dX6_type_67 : decode cX6_type 67 = .ok (.getfield 261, 3) := by decide +kernel
theorem dX6_type_70 : decode cX6_type 70 = .ok (.iconst 1, 1) := by decide +kernel
theorem dX6_type_71 : decode cX6_type 71 = .ok (.iadd, 1) := by decide +kernel
theorem dX6_type_72 : decode cX6_type 72 = .ok (.putfield 261, 3) := by decide +kernel
theorem dX6_type_75 : decode cX6_type 75 = .ok (.aload_n 0, 1) := by decide +kernel
theorem dX6_type_76 : decode cX6_type 76 = .ok (.getfield 36, 3) := by decide +kernel
theorem dX6_type_79 : decode cX6_type 79 = .ok (.getfield 261, 3) := by decide +kernel
theorem dX6_type_82 : decode cX6_type 82 = .ok (.ireturn, 1) := by decide +kernel
theorem dX6_runScript_0 : decode cX6_runScript 0 = .ok (.aload_n 0, 1) := by decide +kernel
theorem dX6_runScript_1 : decode cX6_runScript 1 = .ok (.getfield 36, 3) := by decide +kernel
theorem dX6_runScript_4 : decode cX6_runScript 4 = .ok (.invokevirtual 271, 3) := by decide +kernel
theorem dX6_runScript_7 : decode cX6_runScript 7 = .ok (.istore_n 1, 1) := by decide +kernel
theorem dX6_runScript_8 : decode cX6_runScript 8 = .ok (.aload_n 0, 1) := by decide +kernel
theorem dX6_runScript_9 : decode cX6_runScript 9 = .ok (.getfield 36, 3) := by decide +kernel
theorem dX6_runScript_12 : decode cX6_runScript 12 = .ok (.iconst 0, 1) := by decide +kernel
theorem dX6_runScript_13 : decode cX6_runScript 13 = .ok (.putfield 261, 3) := by decide +kernel
theorem dX6_runScript_16 : decode cX6_runScript 16 = .ok (.iload_n 1, 1) := by decide +kernel
theorem dX6_runScript_17 : decode cX6_runScript 17 = .ok (.ifCond .ne 25, 3) := by decide +kernel
theorem dX6_runScript_20 : decode cX6_runScript 20 = .ok (.aload_n 0, 1) := by decide +kernel
theorem dX6_runScript_21 : decode cX6_runScript 21 = .ok (.aload_n 0, 1) := by decide +kernel
theorem dX6_runScript_22 : decode cX6_runScript 22 = .ok (.getfield 36, 3) := by decide +kernel
theorem dX6_runScript_25 : decode cX6_runScript 25 = .ok (.getfield 274, 3) := by decide +kernel
theorem dX6_runScript_28 : decode cX6_runScript 28 = .ok (.putfield 47, 3) := by decide +kernel
theorem dX6_runScript_31 : decode cX6_runScript 31 = .ok (.new 176, 3) := by decide +kernel
theorem dX6_runScript_34 : decode cX6_runScript 34 = .ok (.dup, 1) := by decide +kernel
theorem dX6_runScript_35 : decode cX6_runScript 35 = .ok (.ldc_w 277, 3) := by decide +kernel
theorem dX6_runScript_38 : decode cX6_runScript 38 = .ok (.invokespecial 180, 3) := by decide +kernel
theorem dX6_runScript_41 : decode cX6_runScript 41 = .ok (.athrow, 1) := by decide +kernel
theorem dX6_runScript_42 : decode cX6_runScript 42 = .ok (.aload_n 0, 1) := by decide +kernel
theorem dX6_runScript_43 : decode cX6_runScript 43 = .ok (.getfield 16, 3) := by decide +kernel
theorem dX6_runScript_46 : decode cX6_runScript 46 = .ok (.aload_n 0, 1) := by decide +kernel
theorem dX6_runScript_47 : decode cX6_runScript 47 = .ok (.getfield 12, 3) := by decide +kernel
theorem dX6_runScript_50 : decode cX6_runScript 50 = .ok (.invokevirtual 187, 3) := by decide +kernel
theorem dX6_runScript_53 : decode cX6_runScript 53 = .ok (.iconst 0, 1) := by decide +kernel
theorem dX6_runScript_54 : decode cX6_runScript 54 = .ok (.istore_n 2, 1) := by decide +kernel
theorem dX6_runScript_55 : decode cX6_runScript 55 = .ok (.iload_n 2, 1) := by decide +kernel
theorem dX6_runScript_56 : decode cX6_runScript 56 = .ok (.aload_n 0, 1) := by decide +kernel
theorem dX6_runScript_57 : decode cX6_runScript 57 = .ok (.getfield 36, 3) := by decide +kernel
theorem dX6_runScript_60 : decode cX6_runScript 60 = .ok (.getfield 279, 3) := by decide +kernel
theorem dX6_runScript_63 : decode cX6_runScript 63 = .ok (.if_icmp .ge 94, 3) := by decide +kernel
theorem dX6_runScript_66 : decode cX6_runScript 66 = .ok (.aload_n 0, 1) := by decide +kernel
theorem dX6_runScript_67 : decode cX6_runScript 67 = .ok (.getfield 36, 3) := by decide +kernel
theorem dX6_runScript_70 : decode cX6_runScript 70 = .ok (.getfield 280, 3) := by decide +kernel
theorem dX6_runScript_73 : decode cX6_runScript 73 = .ok (.iload_n 2, 1) := by decide +kernel
theorem dX6_runScript_74 : decode cX6_runScript 74 = .ok (.iaload, 1) := by decide +kernel
theorem dX6_runScript_75 : decode cX6_runScript 75 = .ok (.istore_n 3, 1) := by decide +kernel
theorem dX6_runScript_76 : decode cX6_runScript 76 = .ok (.aload_n 0, 1) := by decide +kernel
theorem dX6_runScript_77 : decode cX6_runScript 77 = .ok (.getfield 36, 3) := by decide +kernel
theorem dX6_runScript_80 : decode cX6_runScript 80 = .ok (.getfield 282, 3) := by decide +kernel
theorem dX6_runScript_83 : decode cX6_runScript 83 = .ok (.iload_n 2, 1) := by decide +kernel
theorem dX6_runScript_84 : decode cX6_runScript 84 = .ok (.iaload, 1) := by decide +kernel
theorem dX6_runScript_85 : decode cX6_runScript 85 = .ok (.istore 4, 2) := by decide +kernel
theorem dX6_runScript_87 : decode cX6_runScript 87 = .ok (.aload_n 0, 1) := by decide +kernel
theorem dX6_runScript_88 : decode cX6_runScript 88 = .ok (.getfield 36, 3) := by decide +kernel
theorem dX6_runScript_91 : decode cX6_runScript 91 = .ok (.getfield 285, 3) := by decide +kernel
theorem dX6_runScript_94 : decode cX6_runScript 94 = .ok (.iload_n 2, 1) := by decide +kernel
theorem dX6_runScript_95 : decode cX6_runScript 95 = .ok (.iaload, 1) := by decide +kernel
theorem dX6_runScript_96 : decode cX6_runScript 96 = .ok (.istore 5, 2) := by decide +kernel
theorem dX6_runScript_98 : decode cX6_runScript 98 = .ok (.aload_n 0, 1) := by decide +kernel
theorem dX6_runScript_99 : decode cX6_runScript 99 = .ok (.getfield 16, 3) := by decide +kernel
theorem dX6_runScript_102 : decode cX6_runScript 102 = .ok (.iload_n 3, 1) := by decide +kernel
theorem dX6_runScript_103 : decode cX6_runScript 103 = .ok (.iload 4, 2) := by decide +kernel
theorem dX6_runScript_105 : decode cX6_runScript 105 = .ok (.iload 5, 2) := by decide +kernel
theorem dX6_runScript_107 : decode cX6_runScript 107 = .ok (.invokevirtual 288, 3) := by decide +kernel
theorem dX6_runScript_110 : decode cX6_runScript 110 = .ok (.ifCond .eq 19, 3) := by decide +kernel
theorem dX6_runScript_113 : decode cX6_runScript 113 = .ok (.aload_n 0, 1) := by decide +kernel
theorem dX6_runScript_114 : decode cX6_runScript 114 = .ok (.iload_n 2, 1) := by decide +kernel
theorem dX6_runScript_115 : decode cX6_runScript 115 = .ok (.putfield 51, 3) := by decide +kernel
theorem dX6_runScript_118 : decode cX6_runScript 118 = .ok (.new 263, 3) := by decide +kernel
theorem dX6_runScript_121 : decode cX6_runScript 121 = .ok (.dup, 1) := by decide +kernel
theorem dX6_runScript_122 : decode cX6_runScript 122 = .ok (.ldc_w 292, 3) := by decide +kernel
theorem dX6_runScript_125 : decode cX6_runScript 125 = .ok (.invokespecial 267, 3) := by decide +kernel
theorem dX6_runScript_128 : decode cX6_runScript 128 = .ok (.athrow, 1) := by decide +kernel
theorem dX6_runScript_129 : decode cX6_runScript 129 = .ok (.aload_n 0, 1) := by decide +kernel
theorem dX6_runScript_130 : decode cX6_runScript 130 = .ok (.getfield 16, 3) := by decide +kernel
theorem dX6_runScript_133 : decode cX6_runScript 133 = .ok (.iload_n 3, 1) := by decide +kernel
theorem dX6_runScript_134 : decode cX6_runScript 134 = .ok (.iload 4, 2) := by decide +kernel
theorem dX6_runScript_136 : decode cX6_runScript 136 = .ok (.iload 5, 2) := by decide +kernel
theorem dX6_runScript_138 : decode cX6_runScript 138 = .ok (.aload_n 0, 1) := by decide +kernel
theorem dX6_runScript_139 : decode cX6_runScript 139 = .ok (.getfield 36, 3) := by decide +kernel
theorem dX6_runScript_142 : decode cX6_runScript 142 = .ok (.getfield 294, 3) := by decide +kernel
theorem dX6_runScript_145 : decode cX6_runScript 145 = .ok (.iload_n 2, 1) := by decide +kernel
theorem dX6_runScript_146 : decode cX6_runScript 146 = .ok (.iaload, 1) := by decide +kernel
theorem dX6_runScript_147 : decode cX6_runScript 147 = .ok (.invokevirtual 58, 3) := by decide +kernel
theorem dX6_runScript_150 : decode cX6_runScript 150 = .ok (.pop, 1) := by decide +kernel
theorem dX6_runScript_151 : decode cX6_runScript 151 = .ok (.iinc 2 1, 3) := by decide +kernel
theorem dX6_runScript_154 : decode cX6_runScript 154 = .ok (.goto (-99), 3) := by decide +kernel
theorem dX6_runScript_157 : decode cX6_runScript 157 = .ok (.aload_n 0, 1) := by decide +kernel
theorem dX6_runScript_158 : decode cX6_runScript 158 = .ok (.getfield 29, 3) := by decide +kernel
theorem dX6_runScript_161 : decode cX6_runScript 161 = .ok (.aload_n 0, 1) := by decide +kernel
theorem dX6_runScript_162 : decode cX6_runScript 162 = .ok (.getfield 12, 3) := by decide +kernel
theorem dX6_runScript_165 : decode cX6_runScript 165 = .ok (.invokevirtual 297, 3) := by decide +kernel
theorem dX6_runScript_168 : decode cX6_runScript 168 = .ok (.aload_n 0, 1) := by decide +kernel
theorem dX6_runScript_169 : decode cX6_runScript 169 = .ok (.getfield 12, 3) := by decide +kernel
theorem dX6_runScript_172 : decode cX6_runScript 172 = .ok (.aload_n 0, 1) := by decide +kernel
theorem dX6_runScript_173 : decode cX6_runScript 173 = .ok (.getfield 16, 3) := by decide +kernel
theorem dX6_runScript_176 : decode cX6_runScript 176 = .ok (.invokevirtual 187, 3) := by decide +kernel
theorem dX6_runScript_179 : decode cX6_runScript 179 = .ok (.aload_n 0, 1) := by decide +kernel
theorem dX6_runScript_180 : decode cX6_runScript 180 = .ok (.getfield 36, 3) := by decide +kernel
theorem dX6_runScript_183 : decode cX6_runScript 183 = .ok (.getfield 279, 3) := by decide +kernel
theorem dX6_runScript_186 : decode cX6_runScript 186 = .ok (.ireturn, 1) := by decide +kernel
theorem dX6_errorPosition_0 : decode cX6_errorPosition 0 = .ok (.aload_n 0, 1) := by decide +kernel
theorem dX6_errorPosition_1 : decode cX6_errorPosition 1 = .ok (.getfield 47, 3) := by decide +kernel
theorem dX6_errorPosition_4 : decode cX6_errorPosition 4 = .ok (.iconst (-1), 1) := by decide +kernel
theorem dX6_errorPosition_5 : decode cX6_errorPosition 5 = .ok (.if_icmp .ne 14, 3) := by decide +kernel
theorem dX6_errorPosition_8 : decode cX6_errorPosition 8 = .ok (.new 131, 3) := by decide +kernel
theorem dX6_errorPosition_11 : decode cX6_errorPosition 11 = .ok (.dup, 1) := by decide +kernel
theorem dX6_errorPosition_12 : decode cX6_errorPosition 12 = .ok (.ldc_w 300, 3) := by decide +kernel
theorem dX6_errorPosition_15 : decode cX6_errorPosition 15 = .ok (.invokespecial 135, 3) := by decide +kernel
theorem dX6_errorPosition_18 : decode cX6_errorPosition 18 = .ok (.athrow, 1) := by decide +kernel
theorem dX6_errorPosition_19 : decode cX6_errorPosition 19 = .ok (.aload_n 0, 1) := by decide +kernel
theorem dX6_errorPosition_20 : decode cX6_errorPosition 20 = .ok (.getfield 47, 3) := by decide +kernel
theorem dX6_errorPosition_23 : decode cX6_errorPosition 23 = .ok (.ireturn, 1) := by decide +kernel
theorem dX6_failedCommand_0 : decode cX6_failedCommand 0 = .ok (.aload_n 0, 1) := by decide +kernel
theorem dX6_failedCommand_1 : decode cX6_failedCommand 1 = .ok (.getfield 51, 3) := by decide +kernel
theorem dX6_failedCommand_4 : decode cX6_failedCommand 4 = .ok (.iconst (-1), 1) := by decide +kernel
theorem dX6_failedCommand_5 : decode cX6_failedCommand 5 = .ok (.if_icmp .ne 14, 3) := by decide +kernel
theorem dX6_failedCommand_8 : decode cX6_failedCommand 8 = .ok (.new 131, 3) := by decide +kernel
theorem dX6_failedCommand_11 : decode cX6_failedCommand 11 = .ok (.dup, 1) := by decide +kernel
theorem dX6_failedCommand_12 : decode cX6_failedCommand 12 = .ok (.ldc_w 302, 3) := by decide +kernel
theorem dX6_failedCommand_15 : decode cX6_failedCommand 15 = .ok (.invokespecial 135, 3) := by decide +kernel
theorem dX6_failedCommand_18 : decode cX6_failedCommand 18 = .ok (.athrow, 1) := by decide +kernel
theorem dX6_failedCommand_19 : decode cX6_failedCommand 19 = .ok (.aload_n 0, 1) := by decide +kernel
theorem dX6_failedCommand_20 : decode cX6_failedCommand 20 = .ok (.getfield 51, 3) := by decide +kernel
theorem dX6_failedCommand_23 : decode cX6_failedCommand 23 = .ok (.ireturn, 1) := by decide +kernel
theorem dX6_undo_0 : decode cX6_undo 0 = .ok (.aload_n 0, 1) := by decide +kernel
theorem dX6_undo_1 : decode cX6_undo 1 = .ok (.getfield 29, 3) := by decide +kernel
theorem dX6_undo_4 : decode cX6_undo 4 = .ok (.getfield 304, 3) := by decide +kernel
theorem dX6_undo_7 : decode cX6_undo 7 = .ok (.ifCond .ne 14, 3) := by decide +kernel
theorem dX6_undo_10 : decode cX6_undo 10 = .ok (.new 131, 3) := by decide +kernel
theorem dX6_undo_13 : decode cX6_undo 13 = .ok (.dup, 1) := by decide +kernel
theorem dX6_undo_14 : decode cX6_undo 14 = .ok (.ldc_w 305, 3) := by decide +kernel
theorem dX6_undo_17 : decode cX6_undo 17 = .ok (.invokespecial 135, 3) := by decide +kernel
theorem dX6_undo_20 : decode cX6_undo 20 = .ok (.athrow, 1) := by decide +kernel
theorem dX6_undo_21 : decode cX6_undo 21 = .ok (.aload_n 0, 1) := by decide +kernel
theorem dX6_undo_22 : decode cX6_undo 22 = .ok (.getfield 29, 3) := by decide +kernel
theorem dX6_undo_25 : decode cX6_undo 25 = .ok (.aload_n 0, 1) := by decide +kernel
theorem dX6_undo_26 : decode cX6_undo 26 = .ok (.getfield 12, 3) := by decide +kernel
theorem dX6_undo_29 : decode cX6_undo 29 = .ok (.invokevirtual 307, 3) := by decide +kernel
theorem dX6_undo_32 : decode cX6_undo 32 = .ok (.aload_n 0, 1) := by decide +kernel
theorem dX6_undo_33 : decode cX6_undo 33 = .ok (.getfield 29, 3) := by decide +kernel
theorem dX6_undo_36 : decode cX6_undo 36 = .ok (.getfield 304, 3) := by decide +kernel
theorem dX6_undo_39 : decode cX6_undo 39 = .ok (.ireturn, 1) := by decide +kernel
theorem dX6_save_0 : decode cX6_save 0 = .ok (.aload_n 0, 1) := by decide +kernel
theorem dX6_save_1 : decode cX6_save 1 = .ok (.getfield 19, 3) := by decide +kernel
theorem dX6_save_4 : decode cX6_save 4 = .ok (.aload_n 0, 1) := by decide +kernel
theorem dX6_save_5 : decode cX6_save 5 = .ok (.getfield 12, 3) := by decide +kernel
theorem dX6_save_8 : decode cX6_save 8 = .ok (.invokevirtual 187, 3) := by decide +kernel
theorem dX6_save_11 : decode cX6_save 11 = .ok (.aload_n 0, 1) := by decide +kernel
theorem dX6_save_12 : decode cX6_save 12 = .ok (.iconst 1, 1) := by decide +kernel
theorem dX6_save_13 : decode cX6_save 13 = .ok (.putfield 22, 3) := by decide +kernel
theorem dX6_save_16 : decode cX6_save 16 = .ok (.aload_n 0, 1) := by decide +kernel
theorem dX6_save_17 : decode cX6_save 17 = .ok (.getfield 12, 3) := by decide +kernel
theorem dX6_save_20 : decode cX6_save 20 = .ok (.getfield 138, 3) := by decide +kernel
theorem dX6_save_23 : decode cX6_save 23 = .ok (.getfield 142, 3) := by decide +kernel
theorem dX6_save_26 : decode cX6_save 26 = .ok (.ireturn, 1) := by decide +kernel
theorem dX6_restore_0 : decode cX6_restore 0 = .ok (.aload_n 0, 1) := by decide +kernel
theorem dX6_restore_1 : decode cX6_restore 1 = .ok (.getfield 22, 3) := by decide +kernel
theorem dX6_restore_4 : decode cX6_restore 4 = .ok (.ifCond .ne 14, 3) := by decide +kernel
theorem dX6_restore_7 : decode cX6_restore 7 = .ok (.new 263, 3) := by decide +kernel
theorem dX6_restore_10 : decode cX6_restore 10 = .ok (.dup, 1) := by decide +kernel
theorem dX6_restore_11 : decode cX6_restore 11 = .ok (.ldc_w 310, 3) := by decide +kernel
theorem dX6_restore_14 : decode cX6_restore 14 = .ok (.invokespecial 267, 3) := by decide +kernel
theorem dX6_restore_17 : decode cX6_restore 17 = .ok (.athrow, 1) := by decide +kernel
theorem dX6_restore_18 : decode cX6_restore 18 = .ok (.aload_n 0, 1) := by decide +kernel
theorem dX6_restore_19 : decode cX6_restore 19 = .ok (.getfield 12, 3) := by decide +kernel
theorem dX6_restore_22 : decode cX6_restore 22 = .ok (.aload_n 0, 1) := by decide +kernel
theorem dX6_restore_23 : decode cX6_restore 23 = .ok (.getfield 19, 3) := by decide +kernel
theorem dX6_restore_26 : decode cX6_restore 26 = .ok (.invokevirtual 187, 3) := by decide +kernel
theorem dX6_restore_29 : decode cX6_restore 29 = .ok (.aload_n 0, 1) := by decide +kernel
theorem dX6_restore_30 : decode cX6_restore 30 = .ok (.getfield 29, 3) := by decide +kernel
theorem dX6_restore_33 : decode cX6_restore 33 = .ok (.iconst 0, 1) := by decide +kernel
theorem dX6_restore_34 : decode cX6_restore 34 = .ok (.putfield 304, 3) := by decide +kernel
theorem dX6_restore_37 : decode cX6_restore 37 = .ok (.aload_n 0, 1) := by decide +kernel
theorem dX6_restore_38 : decode cX6_restore 38 = .ok (.getfield 12, 3) := by decide +kernel
theorem dX6_restore_41 : decode cX6_restore 41 = .ok (.getfield 138, 3) := by decide +kernel
theorem dX6_restore_44 : decode cX6_restore 44 = .ok (.getfield 142, 3) := by decide +kernel
theorem dX6_restore_47 : decode cX6_restore 47 = .ok (.ireturn, 1) := by decide +kernel
theorem dX6_beginChange_0 : decode cX6_beginChange 0 = .ok (.aload_n 0, 1) := by decide +kernel
theorem dX6_beginChange_1 : decode cX6_beginChange 1 = .ok (.getfield 12, 3) := by decide +kernel
theorem dX6_beginChange_4 : decode cX6_beginChange 4 = .ok (.iload_n 1, 1) := by decide +kernel
theorem dX6_beginChange_5 : decode cX6_beginChange 5 = .ok (.iload_n 2, 1) := by decide +kernel
theorem dX6_beginChange_6 : decode cX6_beginChange 6 = .ok (.iload_n 3, 1) := by decide +kernel
theorem dX6_beginChange_7 : decode cX6_beginChange 7 = .ok (.invokevirtual 288, 3) := by decide +kernel
theorem dX6_beginChange_10 : decode cX6_beginChange 10 = .ok (.invokestatic 312, 3) := by decide +kernel
theorem dX6_beginChange_13 : decode cX6_beginChange 13 = .ok (.aload_n 0, 1) := by decide +kernel
theorem dX6_beginChange_14 : decode cX6_beginChange 14 = .ok (.getfield 29, 3) := by decide +kernel
theorem dX6_beginChange_17 : decode cX6_beginChange 17 = .ok (.aload_n 0, 1) := by decide +kernel
theorem dX6_beginChange_18 : decode cX6_beginChange 18 = .ok (.getfield 12, 3) := by decide +kernel
theorem dX6_beginChange_21 : decode cX6_beginChange 21 = .ok (.invokevirtual 297, 3) := by decide +kernel
theorem dX6_beginChange_24 : decode cX6_beginChange 24 = .ok (.return_, 1) := by decide +kernel
theorem dX6_refuse_0 : decode cX6_refuse 0 = .ok (.iload_n 0, 1) := by decide +kernel
theorem dX6_refuse_1 : decode cX6_refuse 1 = .ok (.iconst 1, 1) := by decide +kernel
theorem dX6_refuse_2 : decode cX6_refuse 2 = .ok (.if_icmp .ne 14, 3) := by decide +kernel
theorem dX6_refuse_5 : decode cX6_refuse 5 = .ok (.new 251, 3) := by decide +kernel
theorem dX6_refuse_8 : decode cX6_refuse 8 = .ok (.dup, 1) := by decide +kernel
theorem dX6_refuse_9 : decode cX6_refuse 9 = .ok (.ldc_w 315, 3) := by decide +kernel
theorem dX6_refuse_12 : decode cX6_refuse 12 = .ok (.invokespecial 255, 3) := by decide +kernel
theorem dX6_refuse_15 : decode cX6_refuse 15 = .ok (.athrow, 1) := by decide +kernel
theorem dX6_refuse_16 : decode cX6_refuse 16 = .ok (.iload_n 0, 1) := by decide +kernel
theorem dX6_refuse_17 : decode cX6_refuse 17 = .ok (.iconst 2, 1) := by decide +kernel
theorem dX6_refuse_18 : decode cX6_refuse 18 = .ok (.if_icmp .ne 14, 3) := by decide +kernel
theorem dX6_refuse_21 : decode cX6_refuse 21 = .ok (.new 176, 3) := by decide +kernel
theorem dX6_refuse_24 : decode cX6_refuse 24 = .ok (.dup, 1) := by decide +kernel
theorem dX6_refuse_25 : decode cX6_refuse 25 = .ok (.ldc_w 317, 3) := by decide +kernel
theorem dX6_refuse_28 : decode cX6_refuse 28 = .ok (.invokespecial 180, 3) := by decide +kernel
theorem dX6_refuse_31 : decode cX6_refuse 31 = .ok (.athrow, 1) := by decide +kernel
theorem dX6_refuse_32 : decode cX6_refuse 32 = .ok (.iload_n 0, 1) := by decide +kernel
theorem dX6_refuse_33 : decode cX6_refuse 33 = .ok (.iconst 3, 1) := by decide +kernel
theorem dX6_refuse_34 : decode cX6_refuse 34 = .ok (.if_icmp .ne 14, 3) := by decide +kernel
theorem dX6_refuse_37 : decode cX6_refuse 37 = .ok (.new 263, 3) := by decide +kernel
theorem dX6_refuse_40 : decode cX6_refuse 40 = .ok (.dup, 1) := by decide +kernel
theorem dX6_refuse_41 : decode cX6_refuse 41 = .ok (.ldc_w 319, 3) := by decide +kernel
theorem dX6_refuse_44 : decode cX6_refuse 44 = .ok (.invokespecial 267, 3) := by decide +kernel
theorem dX6_refuse_47 : decode cX6_refuse 47 = .ok (.athrow, 1) := by decide +kernel
theorem dX6_refuse_48 : decode cX6_refuse 48 = .ok (.iload_n 0, 1) := by decide +kernel
theorem dX6_refuse_49 : decode cX6_refuse 49 = .ok (.iconst 4, 1) := by decide +kernel
theorem dX6_refuse_50 : decode cX6_refuse 50 = .ok (.if_icmp .ne 14, 3) := by decide +kernel
theorem dX6_refuse_53 : decode cX6_refuse 53 = .ok (.new 321, 3) := by decide +kernel
theorem dX6_refuse_56 : decode cX6_refuse 56 = .ok (.dup, 1) := by decide +kernel
theorem dX6_refuse_57 : decode cX6_refuse 57 = .ok (.ldc_w 323, 3) := by decide +kernel
theorem dX6_refuse_60 : decode cX6_refuse 60 = .ok (.invokespecial 325, 3) := by decide +kernel
theorem dX6_refuse_63 : decode cX6_refuse 63 = .ok (.athrow, 1) := by decide +kernel
theorem dX6_refuse_64 : decode cX6_refuse 64 = .ok (.return_, 1) := by decide +kernel
theorem dX6_needBasin_0 : decode cX6_needBasin 0 = .ok (.iload_n 0, 1) := by decide +kernel
theorem dX6_needBasin_1 : decode cX6_needBasin 1 = .ok (.ifCond .lt 8, 3) := by decide +kernel
theorem dX6_needBasin_4 : decode cX6_needBasin 4 = .ok (.iload_n 0, 1) := by decide +kernel
theorem dX6_needBasin_5 : decode cX6_needBasin 5 = .ok (.iconst 5, 1) := by decide +kernel
theorem dX6_needBasin_6 : decode cX6_needBasin 6 = .ok (.if_icmp .lt 14, 3) := by decide +kernel
theorem dX6_needBasin_9 : decode cX6_needBasin 9 = .ok (.new 251, 3) := by decide +kernel
theorem dX6_needBasin_12 : decode cX6_needBasin 12 = .ok (.dup, 1) := by decide +kernel
theorem dX6_needBasin_13 : decode cX6_needBasin 13 = .ok (.ldc_w 326, 3) := by decide +kernel
theorem dX6_needBasin_16 : decode cX6_needBasin 16 = .ok (.invokespecial 255, 3) := by decide +kernel
theorem dX6_needBasin_19 : decode cX6_needBasin 19 = .ok (.athrow, 1) := by decide +kernel
theorem dX6_needBasin_20 : decode cX6_needBasin 20 = .ok (.return_, 1) := by decide +kernel
theorem dX6_needGate_0 : decode cX6_needGate 0 = .ok (.iload_n 0, 1) := by decide +kernel
theorem dX6_needGate_1 : decode cX6_needGate 1 = .ok (.invokestatic 328, 3) := by decide +kernel
theorem dX6_needGate_4 : decode cX6_needGate 4 = .ok (.ifCond .ne 14, 3) := by decide +kernel
theorem dX6_needGate_7 : decode cX6_needGate 7 = .ok (.new 251, 3) := by decide +kernel
theorem dX6_needGate_10 : decode cX6_needGate 10 = .ok (.dup, 1) := by decide +kernel
theorem dX6_needGate_11 : decode cX6_needGate 11 = .ok (.ldc_w 315, 3) := by decide +kernel
theorem dX6_needGate_14 : decode cX6_needGate 14 = .ok (.invokespecial 255, 3) := by decide +kernel
theorem dX6_needGate_17 : decode cX6_needGate 17 = .ok (.athrow, 1) := by decide +kernel
theorem dX6_needGate_18 : decode cX6_needGate 18 = .ok (.return_, 1) := by decide +kernel
theorem dX6_needBoat_0 : decode cX6_needBoat 0 = .ok (.iload_n 1, 1) := by decide +kernel
theorem dX6_needBoat_1 : decode cX6_needBoat 1 = .ok (.ifCond .lt 17, 3) := by decide +kernel
theorem dX6_needBoat_4 : decode cX6_needBoat 4 = .ok (.iload_n 1, 1) := by decide +kernel
theorem dX6_needBoat_5 : decode cX6_needBoat 5 = .ok (.aload_n 0, 1) := by decide +kernel
theorem dX6_needBoat_6 : decode cX6_needBoat 6 = .ok (.getfield 12, 3) := by decide +kernel
theorem dX6_needBoat_9 : decode cX6_needBoat 9 = .ok (.getfield 138, 3) := by decide +kernel
theorem dX6_needBoat_12 : decode cX6_needBoat 12 = .ok (.getfield 142, 3) := by decide +kernel
theorem dX6_needBoat_15 : decode cX6_needBoat 15 = .ok (.if_icmp .lt 14, 3) := by decide +kernel
theorem dX6_needBoat_18 : decode cX6_needBoat 18 = .ok (.new 251, 3) := by decide +kernel
theorem dX6_needBoat_21 : decode cX6_needBoat 21 = .ok (.dup, 1) := by decide +kernel
theorem dX6_needBoat_22 : decode cX6_needBoat 22 = .ok (.ldc_w 331, 3) := by decide +kernel
theorem dX6_needBoat_25 : decode cX6_needBoat 25 = .ok (.invokespecial 255, 3) := by decide +kernel
theorem dX6_needBoat_28 : decode cX6_needBoat 28 = .ok (.athrow, 1) := by decide +kernel
theorem dX6_needBoat_29 : decode cX6_needBoat 29 = .ok (.return_, 1) := by decide +kernel
theorem dX6_needEvent_0 : decode cX6_needEvent 0 = .ok (.iload_n 1, 1) := by decide +kernel
theorem dX6_needEvent_1 : decode cX6_needEvent 1 = .ok (.ifCond .lt 17, 3) := by decide +kernel
theorem dX6_needEvent_4 : decode cX6_needEvent 4 = .ok (.iload_n 1, 1) := by decide +kernel
theorem dX6_needEvent_5 : decode cX6_needEvent 5 = .ok (.aload_n 0, 1) := by decide +kernel
theorem dX6_needEvent_6 : decode cX6_needEvent 6 = .ok (.getfield 12, 3) := by decide +kernel
theorem dX6_needEvent_9 : decode cX6_needEvent 9 = .ok (.getfield 204, 3) := by decide +kernel
theorem dX6_needEvent_12 : decode cX6_needEvent 12 = .ok (.getfield 208, 3) := by decide +kernel
theorem dX6_needEvent_15 : decode cX6_needEvent 15 = .ok (.if_icmp .lt 14, 3) := by decide +kernel
theorem dX6_needEvent_18 : decode cX6_needEvent 18 = .ok (.new 131, 3) := by decide +kernel
theorem dX6_needEvent_21 : decode cX6_needEvent 21 = .ok (.dup, 1) := by decide +kernel
theorem dX6_needEvent_22 : decode cX6_needEvent 22 = .ok (.ldc_w 333, 3) := by decide +kernel
theorem dX6_needEvent_25 : decode cX6_needEvent 25 = .ok (.invokespecial 135, 3) := by decide +kernel
theorem dX6_needEvent_28 : decode cX6_needEvent 28 = .ok (.athrow, 1) := by decide +kernel
theorem dX6_needEvent_29 : decode cX6_needEvent 29 = .ok (.return_, 1) := by decide +kernel
theorem dX6_isGate_0 : decode cX6_isGate 0 = .ok (.iload_n 0, 1) := by decide +kernel
theorem dX6_isGate_1 : decode cX6_isGate 1 = .ok (.ifCond .lt 12, 3) := by decide +kernel
theorem dX6_isGate_4 : decode cX6_isGate 4 = .ok (.iload_n 0, 1) := by decide +kernel
theorem dX6_isGate_5 : decode cX6_isGate 5 = .ok (.iconst 4, 1) := by decide +kernel
theorem dX6_isGate_6 : decode cX6_isGate 6 = .ok (.if_icmp .ge 7, 3) := by decide +kernel
theorem dX6_isGate_9 : decode cX6_isGate 9 = .ok (.iconst 1, 1) := by decide +kernel
theorem dX6_isGate_10 : decode cX6_isGate 10 = .ok (.goto 4, 3) := by decide +kernel
theorem dX6_isGate_13 : decode cX6_isGate 13 = .ok (.iconst 0, 1) := by decide +kernel
theorem dX6_isGate_14 : decode cX6_isGate 14 = .ok (.ireturn, 1) := by decide +kernel
theorem dX6_areaOf_0 : decode cX6_areaOf 0 = .ok (.iload_n 0, 1) := by decide +kernel
theorem dX6_areaOf_1 : decode cX6_areaOf 1 = .ok (.ifCond .eq 8, 3) := by decide +kernel
theorem dX6_areaOf_4 : decode cX6_areaOf 4 = .ok (.iload_n 0, 1) := by decide +kernel
theorem dX6_areaOf_5 : decode cX6_areaOf 5 = .ok (.iconst 4, 1) := by decide +kernel
theorem dX6_areaOf_6 : decode cX6_areaOf 6 = .ok (.if_icmp .ne 8, 3) := by decide +kernel
theorem dX6_areaOf_9 : decode cX6_areaOf 9 = .ok (.bipush 10, 2) := by decide +kernel
theorem dX6_areaOf_11 : decode cX6_areaOf 11 = .ok (.goto 5, 3) := by decide +kernel
theorem dX6_areaOf_14 : decode cX6_areaOf 14 = .ok (.bipush 6, 2) := by decide +kernel
theorem dX6_areaOf_16 : decode cX6_areaOf 16 = .ok (.ireturn, 1) := by decide +kernel
theorem dX6_colourNumber_0 : decode cX6_colourNumber 0 = .ok (.iconst 0, 1) := by decide +kernel
theorem dX6_colourNumber_1 : decode cX6_colourNumber 1 = .ok (.istore_n 1, 1) := by decide +kernel
theorem dX6_colourNumber_2 : decode cX6_colourNumber 2 = .ok (.iload_n 1, 1) := by decide +kernel
theorem dX6_colourNumber_3 : decode cX6_colourNumber 3 = .ok (.iconst 3, 1) := by decide +kernel
theorem dX6_colourNumber_4 : decode cX6_colourNumber 4 = .ok (.if_icmp .ge 20, 3) := by decide +kernel
theorem dX6_colourNumber_7 : decode cX6_colourNumber 7 = .ok (.getstatic 335, 3) := by decide +kernel
theorem dX6_colourNumber_10 : decode cX6_colourNumber 10 = .ok (.iload_n 1, 1) := by decide +kernel
theorem dX6_colourNumber_11 : decode cX6_colourNumber 11 = .ok (.caload, 1) := by decide +kernel
theorem dX6_colourNumber_12 : decode cX6_colourNumber 12 = .ok (.iload_n 0, 1) := by decide +kernel
theorem dX6_colourNumber_13 : decode cX6_colourNumber 13 = .ok (.if_icmp .ne 5, 3) := by decide +kernel
theorem dX6_colourNumber_16 : decode cX6_colourNumber 16 = .ok (.iload_n 1, 1) := by decide +kernel
theorem dX6_colourNumber_17 : decode cX6_colourNumber 17 = .ok (.ireturn, 1) := by decide +kernel
theorem dX6_colourNumber_18 : decode cX6_colourNumber 18 = .ok (.iinc 1 1, 3) := by decide +kernel
theorem dX6_colourNumber_21 : decode cX6_colourNumber 21 = .ok (.goto (-19), 3) := by decide +kernel
theorem dX6_colourNumber_24 : decode cX6_colourNumber 24 = .ok (.iconst (-1), 1) := by decide +kernel
theorem dX6_colourNumber_25 : decode cX6_colourNumber 25 = .ok (.ireturn, 1) := by decide +kernel
theorem dX7_init_0 : decode cX7_init 0 = .ok (.aload_n 0, 1) := by decide +kernel
theorem dX7_init_1 : decode cX7_init 1 = .ok (.invokespecial 1, 3) := by decide +kernel
theorem dX7_init_4 : decode cX7_init 4 = .ok (.aload_n 0, 1) := by decide +kernel
theorem dX7_init_5 : decode cX7_init 5 = .ok (.sipush 960, 3) := by decide +kernel
theorem dX7_init_8 : decode cX7_init 8 = .ok (.newarray .int, 2) := by decide +kernel
theorem dX7_init_10 : decode cX7_init 10 = .ok (.putfield 9, 3) := by decide +kernel
theorem dX7_init_13 : decode cX7_init 13 = .ok (.aload_n 0, 1) := by decide +kernel
theorem dX7_init_14 : decode cX7_init 14 = .ok (.bipush 40, 2) := by decide +kernel
theorem dX7_init_16 : decode cX7_init 16 = .ok (.newarray .char, 2) := by decide +kernel
theorem dX7_init_18 : decode cX7_init 18 = .ok (.putfield 13, 3) := by decide +kernel
theorem dX7_init_21 : decode cX7_init 21 = .ok (.aload_n 0, 1) := by decide +kernel
theorem dX7_init_22 : decode cX7_init 22 = .ok (.bipush 60, 2) := by decide +kernel
theorem dX7_init_24 : decode cX7_init 24 = .ok (.newarray .char, 2) := by decide +kernel
theorem dX7_init_26 : decode cX7_init 26 = .ok (.putfield 17, 3) := by decide +kernel
theorem dX7_init_29 : decode cX7_init 29 = .ok (.aload_n 0, 1) := by decide +kernel
theorem dX7_init_30 : decode cX7_init 30 = .ok (.iconst (-1), 1) := by decide +kernel
theorem dX7_init_31 : decode cX7_init 31 = .ok (.putfield 20, 3) := by decide +kernel
theorem dX7_init_34 : decode cX7_init 34 = .ok (.aload_n 0, 1) := by decide +kernel
theorem dX7_init_35 : decode cX7_init 35 = .ok (.iconst (-1), 1) := by decide +kernel
theorem dX7_init_36 : decode cX7_init 36 = .ok (.putfield 24, 3) := by decide +kernel
theorem dX7_init_39 : decode cX7_init 39 = .ok (.aload_n 0, 1) := by decide +kernel
theorem dX7_init_40 : decode cX7_init 40 = .ok (.sipush 244, 3) := by decide +kernel
theorem dX7_init_43 : decode cX7_init 43 = .ok (.newarray .int, 2) := by decide +kernel
theorem dX7_init_45 : decode cX7_init 45 = .ok (.putfield 27, 3) := by decide +kernel
theorem dX7_init_48 : decode cX7_init 48 = .ok (.aload_n 0, 1) := by decide +kernel
theorem dX7_init_49 : decode cX7_init 49 = .ok (.getfield 9, 3) := by decide +kernel
theorem dX7_init_52 : decode cX7_init 52 = .ok (.bipush 11, 2) := by decide +kernel
theorem dX7_init_54 : decode cX7_init 54 = .ok (.sipush 300, 3) := by decide +kernel
theorem dX7_init_57 : decode cX7_init 57 = .ok (.iastore, 1) := by decide +kernel
theorem dX7_init_58 : decode cX7_init 58 = .ok (.aload_n 0, 1) := by decide +kernel
theorem dX7_init_59 : decode cX7_init 59 = .ok (.getfield 9, 3) := by decide +kernel
theorem dX7_init_62 : decode cX7_init 62 = .ok (.bipush 12, 2) := by decide +kernel
theorem dX7_init_64 : decode cX7_init 64 = .ok (.sipush 144, 3) := by decide +kernel
theorem dX7_init_67 : decode cX7_init 67 = .ok (.iastore, 1) := by decide +kernel
theorem dX7_init_68 : decode cX7_init 68 = .ok (.aload_n 0, 1) := by decide +kernel
theorem dX7_init_69 : decode cX7_init 69 = .ok (.getfield 9, 3) := by decide +kernel
theorem dX7_init_72 : decode cX7_init 72 = .ok (.bipush 13, 2) := by decide +kernel
theorem dX7_init_74 : decode cX7_init 74 = .ok (.bipush 108, 2) := by decide +kernel
theorem dX7_init_76 : decode cX7_init 76 = .ok (.iastore, 1) := by decide +kernel
theorem dX7_init_77 : decode cX7_init 77 = .ok (.aload_n 0, 1) := by decide +kernel
theorem dX7_init_78 : decode cX7_init 78 = .ok (.getfield 9, 3) := by decide +kernel
theorem dX7_init_81 : decode cX7_init 81 = .ok (.bipush 14, 2) := by decide +kernel
theorem dX7_init_83 : decode cX7_init 83 = .ok (.bipush 72, 2) := by decide +kernel
theorem dX7_init_85 : decode cX7_init 85 = .ok (.iastore, 1) := by decide +kernel
theorem dX7_init_86 : decode cX7_init 86 = .ok (.aload_n 0, 1) := by decide +kernel
theorem dX7_init_87 : decode cX7_init 87 = .ok (.getfield 9, 3) := by decide +kernel
theorem dX7_init_90 : decode cX7_init 90 = .ok (.bipush 15, 2) := by decide +kernel
theorem dX7_init_92 : decode cX7_init 92 = .ok (.bipush 60, 2) := by decide +kernel
theorem dX7_init_94 : decode cX7_init 94 = .ok (.iastore, 1) := by decide +kernel
theorem dX7_init_95 : decode cX7_init 95 = .ok (.return_, 1) := by decide +kernel
theorem dX7_thrown_0 : decode cX7_thrown 0 = .ok (.aload_n 0, 1) := by decide +kernel
theorem dX7_thrown_1 : decode cX7_thrown 1 = .ok (.getfield 30, 3) := by decide +kernel
theorem dX7_thrown_4 : decode cX7_thrown 4 = .ok (.ireturn, 1) := by decide +kernel
theorem dX7_in_0 : decode cX7_in 0 = .ok (.iload_n 0, 1) := by decide +kernel
theorem dX7_in_1 : decode cX7_in 1 = .ok (.iload_n 1, 1) := by decide +kernel
theorem dX7_in_2 : decode cX7_in 2 = .ok (.if_icmp .lt 12, 3) := by decide +kernel
theorem dX7_in_5 : decode cX7_in 5 = .ok (.iload_n 0, 1) := by decide +kernel
theorem dX7_in_6 : decode cX7_in 6 = .ok (.iload_n 2, 1) := by decide +kernel
theorem dX7_in_7 : decode cX7_in 7 = .ok (.if_icmp .gt 7, 3) := by decide +kernel
theorem dX7_in_10 : decode cX7_in 10 = .ok (.iconst 1, 1) := by decide +kernel
theorem dX7_in_11 : decode cX7_in 11 = .ok (.goto 4, 3) := by decide +kernel
theorem dX7_in_14 : decode cX7_in 14 = .ok (.iconst 0, 1) := by decide +kernel
theorem dX7_in_15 : decode cX7_in 15 = .ok (.ireturn, 1) := by decide +kernel
theorem dX7_copies_0 : decode cX7_copies 0 = .ok (.iconst 0, 1) := by decide +kernel
theorem dX7_copies_1 : decode cX7_copies 1 = .ok (.istore_n 3, 1) := by decide +kernel
theorem dX7_copies_2 : decode cX7_copies 2 = .ok (.iload_n 3, 1) := by decide +kernel
theorem dX7_copies_3 : decode cX7_copies 3 = .ok (.bipush 80, 2) := by decide +kernel
theorem dX7_copies_5 : decode cX7_copies 5 = .ok (.if_icmp .ge 31, 3) := by decide +kernel
theorem dX7_copies_8 : decode cX7_copies 8 = .ok (.aload_n 0, 1) := by decide +kernel
theorem dX7_copies_9 : decode cX7_copies 9 = .ok (.getfield 9, 3) := by decide +kernel
theorem dX7_copies_12 : decode cX7_copies 12 = .ok (.bipush 80, 2) := by decide +kernel
theorem dX7_copies_14 : decode cX7_copies 14 = .ok (.iload_n 2, 1) := by decide +kernel
theorem dX7_copies_15 : decode cX7_copies 15 = .ok (.imul, 1) := by decide +kernel
theorem dX7_copies_16 : decode cX7_copies 16 = .ok (.iload_n 3, 1) := by decide +kernel
theorem dX7_copies_17 : decode cX7_copies 17 = .ok (.iadd, 1) := by decide +kernel
theorem dX7_copies_18 : decode cX7_copies 18 = .ok (.aload_n 0, 1) := by decide +kernel
theorem dX7_copies_19 : decode cX7_copies 19 = .ok (.getfield 9, 3) := by decide +kernel
theorem dX7_copies_22 : decode cX7_copies 22 = .ok (.bipush 80, 2) := by decide +kernel
theorem dX7_copies_24 : decode cX7_copies 24 = .ok (.iload_n 1, 1) := by decide +kernel
theorem dX7_copies_25 : decode cX7_copies 25 = .ok (.imul, 1) := by decide +kernel
theorem dX7_copies_26 : decode cX7_copies 26 = .ok (.iload_n 3, 1) := by decide +kernel
theorem dX7_copies_27 : decode cX7_copies 27 = .ok (.iadd, 1) := by decide +kernel
theorem dX7_copies_28 : decode cX7_copies 28 = .ok (.iaload, 1) := by decide +kernel
theorem dX7_copies_29 : decode cX7_copies 29 = .ok (.iastore, 1) := by decide +kernel
theorem dX7_copies_30 : decode cX7_copies 30 = .ok (.iinc 3 1, 3) := by decide +kernel
theorem dX7_copies_33 : decode cX7_copies 33 = .ok (.goto (-31), 3) := by decide +kernel
theorem dX7_copies_36 : decode cX7_copies 36 = .ok (.return_, 1) := by decide +kernel
theorem dX7_begins_0 : decode cX7_begins 0 = .ok (.aload_n 0, 1) := by decide +kernel
theorem dX7_begins_1 : decode cX7_begins 1 = .ok (.iconst 0, 1) := by decide +kernel
theorem dX7_begins_2 : decode cX7_begins 2 = .ok (.bipush 10, 2) := by decide +kernel
theorem dX7_begins_4 : decode cX7_begins 4 = .ok (.invokevirtual 33, 3) := by decide +kernel
theorem dX7_begins_7 : decode cX7_begins 7 = .ok (.return_, 1) := by decide +kernel
theorem dX7_ends_0 : decode cX7_ends 0 = .ok (.aload_n 0, 1) := by decide +kernel
theorem dX7_ends_1 : decode cX7_ends 1 = .ok (.iload_n 1, 1) := by decide +kernel
theorem dX7_ends_2 : decode cX7_ends 2 = .ok (.iconst 1, 1) := by decide +kernel
theorem dX7_ends_3 : decode cX7_ends 3 = .ok (.if_icmp .ne 7, 3) := by decide +kernel
theorem dX7_ends_6 : decode cX7_ends 6 = .ok (.iload_n 2, 1) := by decide +kernel
theorem dX7_ends_7 : decode cX7_ends 7 = .ok (.goto 33, 3) := by decide +kernel
theorem dX7_ends_10 : decode cX7_ends 10 = .ok (.iload_n 1, 1) := by decide +kernel
theorem dX7_ends_11 : decode cX7_ends 11 = .ok (.iconst 2, 1) := by decide +kernel
theorem dX7_ends_12 : decode cX7_ends 12 = .ok (.if_icmp .ne 7, 3) := by decide +kernel
theorem dX7_ends_15 : decode cX7_ends 15 = .ok (.iload_n 3, 1) := by decide +kernel
theorem dX7_ends_16 : decode cX7_ends 16 = .ok (.goto 24, 3) := by decide +kernel
theorem dX7_ends_19 : decode cX7_ends 19 = .ok (.iload_n 1, 1) := by decide +kernel
theorem dX7_ends_20 : decode cX7_ends 20 = .ok (.iconst 3, 1) := by decide +kernel
theorem dX7_ends_21 : decode cX7_ends 21 = .ok (.if_icmp .ne 8, 3) := by decide +kernel
theorem dX7_ends_24 : decode cX7_ends 24 = .ok (.iload 4, 2) := by decide +kernel
theorem dX7_ends_26 : decode cX7_ends 26 = .ok (.goto 14, 3) := by decide +kernel
theorem dX7_ends_29 : decode cX7_ends 29 = .ok (.iload_n 1, 1) := by decide +kernel
theorem dX7_ends_30 : decode cX7_ends 30 = .ok (.iconst 4, 1) := by decide +kernel
theorem dX7_ends_31 : decode cX7_ends 31 = .ok (.if_icmp .ne 8, 3) := by decide +kernel
theorem dX7_ends_34 : decode cX7_ends 34 = .ok (.iload 5, 2) := by decide +kernel
theorem dX7_ends_36 : decode cX7_ends 36 = .ok (.goto 4, 3) := by decide +kernel
theorem dX7_ends_39 : decode cX7_ends 39 = .ok (.iconst 0, 1) := by decide +kernel
theorem dX7_ends_40 : decode cX7_ends 40 = .ok (.putfield 30, 3) := by decide +kernel
theorem dX7_ends_43 : decode cX7_ends 43 = .ok (.aload_n 0, 1) := by decide +kernel
theorem dX7_ends_44 : decode cX7_ends 44 = .ok (.getfield 30, 3) := by decide +kernel
theorem dX7_ends_47 : decode cX7_ends 47 = .ok (.ifCond .eq 12, 3) := by decide +kernel
theorem dX7_ends_50 : decode cX7_ends 50 = .ok (.aload_n 0, 1) := by decide +kernel
theorem dX7_ends_51 : decode cX7_ends 51 = .ok (.bipush 10, 2) := by decide +kernel
theorem dX7_ends_53 : decode cX7_ends 53 = .ok (.iconst 0, 1) := by decide +kernel
theorem dX7_ends_54 : decode cX7_ends 54 = .ok (.invokevirtual 33, 3) := by decide +kernel
theorem dX7_ends_57 : decode cX7_ends 57 = .ok (.iconst 0, 1) := by decide +kernel
theorem dX7_ends_58 : decode cX7_ends 58 = .ok (.ireturn, 1) := by decide +kernel
theorem dX7_ends_59 : decode cX7_ends 59 = .ok (.aload_n 0, 1) := by decide +kernel
theorem dX7_ends_60 : decode cX7_ends 60 = .ok (.getfield 37, 3) := by decide +kernel
theorem dX7_ends_63 : decode cX7_ends 63 = .ok (.bipush 8, 2) := by decide +kernel
theorem dX7_ends_65 : decode cX7_ends 65 = .ok (.if_icmp .ne 39, 3) := by decide +kernel
theorem dX7_ends_68 : decode cX7_ends 68 = .ok (.iconst 1, 1) := by decide +kernel
theorem dX7_ends_69 : decode cX7_ends 69 = .ok (.istore 6, 2) := by decide +kernel
theorem dX7_ends_71 : decode cX7_ends 71 = .ok (.iload 6, 2) := by decide +kernel
theorem dX7_ends_73 : decode cX7_ends 73 = .ok (.bipush 8, 2) := by decide +kernel
theorem dX7_ends_75 : decode cX7_ends 75 = .ok (.if_icmp .ge 19, 3) := by decide +kernel
theorem dX7_ends_78 : decode cX7_ends 78 = .ok (.aload_n 0, 1) := by decide +kernel
theorem dX7_ends_79 : decode cX7_ends 79 = .ok (.iload 6, 2) := by decide +kernel
theorem dX7_ends_81 : decode cX7_ends 81 = .ok (.iconst 1, 1) := by decide +kernel
theorem dX7_ends_82 : decode cX7_ends 82 = .ok (.iadd, 1) := by decide +kernel
theorem dX7_ends_83 : decode cX7_ends 83 = .ok (.iload 6, 2) := by decide +kernel
theorem dX7_ends_85 : decode cX7_ends 85 = .ok (.invokevirtual 33, 3) := by decide +kernel
theorem dX7_ends_88 : decode cX7_ends 88 = .ok (.iinc 6 1, 3) := by decide +kernel
theorem dX7_ends_91 : decode cX7_ends 91 = .ok (.goto (-20), 3) := by decide +kernel
theorem dX7_ends_94 : decode cX7_ends 94 = .ok (.aload_n 0, 1) := by decide +kernel
theorem dX7_ends_95 : decode cX7_ends 95 = .ok (.dup, 1) := by decide +kernel
theorem dX7_ends_96 : decode cX7_ends 96 = .ok (.getfield 37, 3) := by decide +kernel
theorem dX7_ends_99 : decode cX7_ends 99 = .ok (.iconst 1, 1) := by decide +kernel
theorem dX7_ends_100 : decode cX7_ends 100 = .ok (.isub, 1) := by decide +kernel
theorem dX7_ends_101 : decode cX7_ends 101 = .ok (.putfield 37, 3) := by decide +kernel
theorem dX7_ends_104 : decode cX7_ends 104 = .ok (.aload_n 0, 1) := by decide +kernel
theorem dX7_ends_105 : decode cX7_ends 105 = .ok (.dup, 1) := by decide +kernel
theorem dX7_ends_106 : decode cX7_ends 106 = .ok (.getfield 37, 3) := by decide +kernel
theorem dX7_ends_109 : decode cX7_ends 109 = .ok (.iconst 1, 1) := by decide +kernel
theorem dX7_ends_110 : decode cX7_ends 110 = .ok (.iadd, 1) := by decide +kernel
theorem dX7_ends_111 : decode cX7_ends 111 = .ok (.putfield 37, 3) := by decide +kernel
theorem dX7_ends_114 : decode cX7_ends 114 = .ok (.aload_n 0, 1) := by decide +kernel
theorem dX7_ends_115 : decode cX7_ends 115 = .ok (.bipush 10, 2) := by decide +kernel
theorem dX7_ends_117 : decode cX7_ends 117 = .ok (.aload_n 0, 1) := by decide +kernel
theorem dX7_ends_118 : decode cX7_ends 118 = .ok (.getfield 37, 3) := by decide +kernel
theorem dX7_ends_121 : decode cX7_ends 121 = .ok (.invokevirtual 33, 3) := by decide +kernel
theorem dX7_ends_124 : decode cX7_ends 124 = .ok (.aload_n 0, 1) := by decide +kernel
theorem dX7_ends_125 : decode cX7_ends 125 = .ok (.getfield 40, 3) := by decide +kernel
theorem dX7_ends_128 : decode cX7_ends 128 = .ok (.ireturn, 1) := by decide +kernel
theorem dX7_isFine_0 : decode cX7_isFine 0 = .ok (.aload_n 0, 1) := by decide +kernel
theorem dX7_isFine_1 : decode cX7_isFine 1 = .ok (.iload_n 1, 1) := by decide +kernel
theorem dX7_isFine_2 : decode cX7_isFine 2 = .ok (.ifCond .eq 7, 3) := by decide +kernel
theorem dX7_isFine_5 : decode cX7_isFine 5 = .ok (.iconst 0, 1) := by decide +kernel
theorem dX7_isFine_6 : decode cX7_isFine 6 = .ok (.goto 4, 3) := by decide +kernel
theorem dX7_isFine_9 : decode cX7_isFine 9 = .ok (.iconst 1, 1) := by decide +kernel
theorem dX7_isFine_10 : decode cX7_isFine 10 = .ok (.putfield 30, 3) := by decide +kernel
theorem dX7_isFine_13 : decode cX7_isFine 13 = .ok (.iload_n 1, 1) := by decide +kernel
theorem dX7_isFine_14 : decode cX7_isFine 14 = .ok (.ireturn, 1) := by decide +kernel
theorem dX7_isBasin_0 : decode cX7_isBasin 0 = .ok (.iload_n 0, 1) := by decide +kernel
theorem dX7_isBasin_1 : decode cX7_isBasin 1 = .ok (.iconst 0, 1) := by decide +kernel
theorem dX7_isBasin_2 : decode cX7_isBasin 2 = .ok (.iconst 4, 1) := by decide +kernel
theorem dX7_isBasin_3 : decode cX7_isBasin 3 = .ok (.invokestatic 43, 3) := by decide +kernel
theorem dX7_isBasin_6 : decode cX7_isBasin 6 = .ok (.ireturn, 1) := by decide +kernel
theorem dX7_isGate_0 : decode cX7_isGate 0 = .ok (.iload_n 0, 1) := by decide +kernel
theorem dX7_isGate_1 : decode cX7_isGate 1 = .ok (.iconst 0, 1) := by decide +kernel
theorem dX7_isGate_2 : decode cX7_isGate 2 = .ok (.iconst 3, 1) := by decide +kernel
theorem dX7_isGate_3 : decode cX7_isGate 3 = .ok (.invokestatic 43, 3) := by decide +kernel
theorem dX7_isGate_6 : decode cX7_isGate 6 = .ok (.ireturn, 1) := by decide +kernel
theorem dX7_size_0 : decode cX7_size 0 = .ok (.iload_n 0, 1) := by decide +kernel
theorem dX7_size_1 : decode cX7_size 1 = .ok (.ifCond .eq 8, 3) := by decide +kernel
theorem dX7_size_4 : decode cX7_size 4 = .ok (.iload_n 0, 1) := by decide +kernel
theorem dX7_size_5 : decode cX7_size 5 = .ok (.iconst 4, 1) := by decide +kernel
theorem dX7_size_6 : decode cX7_size 6 = .ok (.if_icmp .ne 8, 3) := by decide +kernel
theorem dX7_size_9 : decode cX7_size 9 = .ok (.bipush 10, 2) := by decide +kernel
theorem dX7_size_11 : decode cX7_size 11 = .ok (.goto 5, 3) := by decide +kernel
theorem dX7_size_14 : decode cX7_size 14 = .ok (.bipush 6, 2) := by decide +kernel
theorem dX7_size_16 : decode cX7_size 16 = .ok (.ireturn, 1) := by decide +kernel
theorem dX7_above_0 : decode cX7_above 0 = .ok (.aload_n 0, 1) := by decide +kernel
theorem dX7_above_1 : decode cX7_above 1 = .ok (.getfield 9, 3) := by decide +kernel
theorem dX7_above_4 : decode cX7_above 4 = .ok (.bipush 11, 2) := by decide +kernel
theorem dX7_above_6 : decode cX7_above 6 = .ok (.iload_n 1, 1) := by decide +kernel
theorem dX7_above_7 : decode cX7_above 7 = .ok (.iadd, 1) := by decide +kernel
theorem dX7_above_8 : decode cX7_above 8 = .ok (.iaload, 1) := by decide +kernel
theorem dX7_above_9 : decode cX7_above 9 = .ok (.iload_n 2, 1) := by decide +kernel
theorem dX7_above_10 : decode cX7_above 10 = .ok (.invokestatic 47, 3) := by decide +kernel
theorem dX7_above_13 : decode cX7_above 13 = .ok (.imul, 1) := by decide +kernel
theorem dX7_above_14 : decode cX7_above 14 = .ok (.aload_n 0, 1) := by decide +kernel
theorem dX7_above_15 : decode cX7_above 15 = .ok (.getfield 9, 3) := by decide +kernel
theorem dX7_above_18 : decode cX7_above 18 = .ok (.bipush 11, 2) := by decide +kernel
theorem dX7_above_20 : decode cX7_above 20 = .ok (.iload_n 2, 1) := by decide +kernel
theorem dX7_above_21 : decode cX7_above 21 = .ok (.iadd, 1) := by decide +kernel
theorem dX7_above_22 : decode cX7_above 22 = .ok (.iaload, 1) := by decide +kernel
theorem dX7_above_23 : decode cX7_above 23 = .ok (.iload_n 1, 1) := by decide +kernel
theorem dX7_above_24 : decode cX7_above 24 = .ok (.invokestatic 47, 3) := by decide +kernel
theorem dX7_above_27 : decode cX7_above 27 = .ok (.imul, 1) := by decide +kernel
theorem dX7_above_28 : decode cX7_above 28 = .ok (.isub, 1) := by decide +kernel
theorem dX7_above_29 : decode cX7_above 29 = .ok (.ireturn, 1) := by decide +kernel
theorem dX7_equal_0 : decode cX7_equal 0 = .ok (.aload_n 0, 1) := by decide +kernel
theorem dX7_equal_1 : decode cX7_equal 1 = .ok (.iload_n 1, 1) := by decide +kernel
theorem dX7_equal_2 : decode cX7_equal 2 = .ok (.iload_n 1, 1) := by decide +kernel
theorem dX7_equal_3 : decode cX7_equal 3 = .ok (.iconst 1, 1) := by decide +kernel
theorem dX7_equal_4 : decode cX7_equal 4 = .ok (.iadd, 1) := by decide +kernel
theorem dX7_equal_5 : decode cX7_equal 5 = .ok (.invokevirtual 51, 3) := by decide +kernel
theorem dX7_equal_8 : decode cX7_equal 8 = .ok (.istore_n 2, 1) := by decide +kernel
theorem dX7_equal_9 : decode cX7_equal 9 = .ok (.iload_n 2, 1) := by decide +kernel
theorem dX7_equal_10 : decode cX7_equal 10 = .ok (.ifCond .ge 8, 3) := by decide +kernel
theorem dX7_equal_13 : decode cX7_equal 13 = .ok (.iload_n 2, 1) := by decide +kernel
theorem dX7_equal_14 : decode cX7_equal 14 = .ok (.ineg, 1) := by decide +kernel
theorem dX7_equal_15 : decode cX7_equal 15 = .ok (.goto 4, 3) := by decide +kernel
theorem dX7_equal_18 : decode cX7_equal 18 = .ok (.iload_n 2, 1) := by decide +kernel
theorem dX7_equal_19 : decode cX7_equal 19 = .ok (.iload_n 1, 1) := by decide +kernel
theorem dX7_equal_20 : decode cX7_equal 20 = .ok (.invokestatic 47, 3) := by decide +kernel
theorem dX7_equal_23 : decode cX7_equal 23 = .ok (.iload_n 1, 1) := by decide +kernel
theorem dX7_equal_24 : decode cX7_equal 24 = .ok (.iconst 1, 1) := by decide +kernel
theorem dX7_equal_25 : decode cX7_equal 25 = .ok (.iadd, 1) := by decide +kernel
theorem dX7_equal_26 : decode cX7_equal 26 = .ok (.invokestatic 47, 3) := by decide +kernel
theorem dX7_equal_29 : decode cX7_equal 29 = .ok (.iadd, 1) := by decide +kernel
theorem dX7_equal_30 : decode cX7_equal 30 = .ok (.idiv, 1) := by decide +kernel
theorem dX7_equal_31 : decode cX7_equal 31 = .ok (.ireturn, 1) := by decide +kernel
theorem dX7_flows_0 : decode cX7_flows 0 = .ok (.aload_n 0, 1) := by decide +kernel
theorem dX7_flows_1 : decode cX7_flows 1 = .ok (.iload_n 1, 1) := by decide +kernel
theorem dX7_flows_2 : decode cX7_flows 2 = .ok (.invokevirtual 55, 3) := by decide +kernel
theorem dX7_flows_5 : decode cX7_flows 5 = .ok (.istore_n 2, 1) := by decide +kernel
theorem dX7_flows_6 : decode cX7_flows 6 = .ok (.iconst 5, 1) := by decide +kernel
theorem dX7_flows_7 : decode cX7_flows 7 = .ok (.aload_n 0, 1) := by decide +kernel
theorem dX7_flows_8 : decode cX7_flows 8 = .ok (.getfield 9, 3) := by decide +kernel
theorem dX7_flows_11 : decode cX7_flows 11 = .ok (.bipush 16, 2) := by decide +kernel
theorem dX7_flows_13 : decode cX7_flows 13 = .ok (.iload_n 1, 1) := by decide +kernel
theorem dX7_flows_14 : decode cX7_flows 14 = .ok (.iadd, 1) := by decide +kernel
theorem dX7_flows_15 : decode cX7_flows 15 = .ok (.iaload, 1) := by decide +kernel
theorem dX7_flows_16 : decode cX7_flows 16 = .ok (.imul, 1) := by decide +kernel
theorem dX7_flows_17 : decode cX7_flows 17 = .ok (.istore_n 3, 1) := by decide +kernel
theorem dX7_flows_18 : decode cX7_flows 18 = .ok (.aload_n 0, 1) := by decide +kernel
theorem dX7_flows_19 : decode cX7_flows 19 = .ok (.getfield 9, 3) := by decide +kernel
theorem dX7_flows_22 : decode cX7_flows 22 = .ok (.bipush 20, 2) := by decide +kernel
theorem dX7_flows_24 : decode cX7_flows 24 = .ok (.iload_n 1, 1) := by decide +kernel
theorem dX7_flows_25 : decode cX7_flows 25 = .ok (.iadd, 1) := by decide +kernel
theorem dX7_flows_26 : decode cX7_flows 26 = .ok (.iaload, 1) := by decide +kernel
theorem dX7_flows_27 : decode cX7_flows 27 = .ok (.ifCond .ne 12, 3) := by decide +kernel
theorem dX7_flows_30 : decode cX7_flows 30 = .ok (.iload_n 3, 1) := by decide +kernel
theorem dX7_flows_31 : decode cX7_flows 31 = .ok (.iload_n 2, 1) := by decide +kernel
theorem dX7_flows_32 : decode cX7_flows 32 = .ok (.if_icmp .ge 7, 3) := by decide +kernel
theorem dX7_flows_35 : decode cX7_flows 35 = .ok (.iload_n 3, 1) := by decide +kernel
theorem dX7_flows_36 : decode cX7_flows 36 = .ok (.goto 4, 3) := by decide +kernel
theorem dX7_flows_39 : decode cX7_flows 39 = .ok (.iload_n 2, 1) := by decide +kernel
theorem dX7_flows_40 : decode cX7_flows 40 = .ok (.istore 4, 2) := by decide +kernel
theorem dX7_flows_42 : decode cX7_flows 42 = .ok (.aload_n 0, 1) := by decide +kernel
theorem dX7_flows_43 : decode cX7_flows 43 = .ok (.iload_n 1, 1) := by decide +kernel
theorem dX7_flows_44 : decode cX7_flows 44 = .ok (.iload_n 1, 1) := by decide +kernel
theorem dX7_flows_45 : decode cX7_flows 45 = .ok (.iconst 1, 1) := by decide +kernel
theorem dX7_flows_46 : decode cX7_flows 46 = .ok (.iadd, 1) := by decide +kernel
theorem dX7_flows_47 : decode cX7_flows 47 = .ok (.invokevirtual 51, 3) := by decide +kernel
theorem dX7_flows_50 : decode cX7_flows 50 = .ok (.ifCond .ge 9, 3) := by decide +kernel
theorem dX7_flows_53 : decode cX7_flows 53 = .ok (.iload 4, 2) := by decide +kernel
theorem dX7_flows_55 : decode cX7_flows 55 = .ok (.ineg, 1) := by decide +kernel
theorem dX7_flows_56 : decode cX7_flows 56 = .ok (.goto 5, 3) := by decide +kernel
theorem dX7_flows_59 : decode cX7_flows 59 = .ok (.iload 4, 2) := by decide +kernel
theorem dX7_flows_61 : decode cX7_flows 61 = .ok (.ireturn, 1) := by decide +kernel
theorem dX7_happens_0 : decode cX7_happens 0 = .ok (.bipush 15, 2) := by decide +kernel
theorem dX7_happens_2 : decode cX7_happens 2 = .ok (.istore_n 3, 1) := by decide +kernel
theorem dX7_happens_3 : decode cX7_happens 3 = .ok (.iload_n 3, 1) := by decide +kernel
theorem dX7_happens_4 : decode cX7_happens 4 = .ok (.iconst 1, 1) := by decide +kernel
theorem dX7_happens_5 : decode cX7_happens 5 = .ok (.if_icmp .le 29, 3) := by decide +kernel
theorem dX7_happens_8 : decode cX7_happens 8 = .ok (.aload_n 0, 1) := by decide +kernel
theorem dX7_happens_9 : decode cX7_happens 9 = .ok (.getfield 9, 3) := by decide +kernel
theorem dX7_happens_12 : decode cX7_happens 12 = .ok (.bipush 24, 2) := by decide +kernel
theorem dX7_happens_14 : decode cX7_happens 14 = .ok (.iload_n 3, 1) := by decide +kernel
theorem dX7_happens_15 : decode cX7_happens 15 = .ok (.iadd, 1) := by decide +kernel
theorem dX7_happens_16 : decode cX7_happens 16 = .ok (.aload_n 0, 1) := by decide +kernel
theorem dX7_happens_17 : decode cX7_happens 17 = .ok (.getfield 9, 3) := by decide +kernel
theorem dX7_happens_20 : decode cX7_happens 20 = .ok (.bipush 24, 2) := by decide +kernel
theorem dX7_happens_22 : decode cX7_happens 22 = .ok (.iload_n 3, 1) := by decide +kernel
theorem dX7_happens_23 : decode cX7_happens 23 = .ok (.iadd, 1) := by decide +kernel
theorem dX7_happens_24 : decode cX7_happens 24 = .ok (.iconst 2, 1) := by decide +kernel
theorem dX7_happens_25 : decode cX7_happens 25 = .ok (.isub, 1) := by decide +kernel
theorem dX7_happens_26 : decode cX7_happens 26 = .ok (.iaload, 1) := by decide +kernel
theorem dX7_happens_27 : decode cX7_happens 27 = .ok (.iastore, 1) := by decide +kernel
theorem dX7_happens_28 : decode cX7_happens 28 = .ok (.iinc 3 (-1), 3) := by decide +kernel
theorem dX7_happens_31 : decode cX7_happens 31 = .ok (.goto (-28), 3) := by decide +kernel
theorem dX7_happens_34 : decode cX7_happens 34 = .ok (.aload_n 0, 1) := by decide +kernel
theorem dX7_happens_35 : decode cX7_happens 35 = .ok (.getfield 9, 3) := by decide +kernel
theorem dX7_happens_38 : decode cX7_happens 38 = .ok (.bipush 24, 2) := by decide +kernel
theorem dX7_happens_40 : decode cX7_happens 40 = .ok (.iload_n 1, 1) := by decide +kernel
theorem dX7_happens_41 : decode cX7_happens 41 = .ok (.iastore, 1) := by decide +kernel
theorem dX7_happens_42 : decode cX7_happens 42 = .ok (.aload_n 0, 1) := by decide +kernel
theorem dX7_happens_43 : decode cX7_happens 43 = .ok (.getfield 9, 3) := by decide +kernel
theorem dX7_happens_46 : decode cX7_happens 46 = .ok (.bipush 25, 2) := by decide +kernel
theorem dX7_happens_48 : decode cX7_happens 48 = .ok (.iload_n 2, 1) := by decide +kernel
theorem dX7_happens_49 : decode cX7_happens 49 = .ok (.iastore, 1) := by decide +kernel
theorem dX7_happens_50 : decode cX7_happens 50 = .ok (.aload_n 0, 1) := by decide +kernel
theorem dX7_happens_51 : decode cX7_happens 51 = .ok (.getfield 9, 3) := by decide +kernel
theorem dX7_happens_54 : decode cX7_happens 54 = .ok (.bipush 7, 2) := by decide +kernel
theorem dX7_happens_56 : decode cX7_happens 56 = .ok (.aload_n 0, 1) := by decide +kernel
theorem dX7_happens_57 : decode cX7_happens 57 = .ok (.getfield 9, 3) := by decide +kernel
theorem dX7_happens_60 : decode cX7_happens 60 = .ok (.bipush 7, 2) := by decide +kernel
theorem dX7_happens_62 : decode cX7_happens 62 = .ok (.iaload, 1) := by decide +kernel
theorem dX7_happens_63 : decode cX7_happens 63 = .ok (.bipush 8, 2) := by decide +kernel
theorem dX7_happens_65 : decode cX7_happens 65 = .ok (.if_icmp .ge 15, 3) := by decide +kernel
theorem dX7_happens_68 : decode cX7_happens 68 = .ok (.aload_n 0, 1) := by decide +kernel
theorem dX7_happens_69 : decode cX7_happens 69 = .ok (.getfield 9, 3) := by decide +kernel
theorem dX7_happens_72 : decode cX7_happens 72 = .ok (.bipush 7, 2) := by decide +kernel
theorem dX7_happens_74 : decode cX7_happens 74 = .ok (.iaload, 1) := by decide +kernel
theorem dX7_happens_75 : decode cX7_happens 75 = .ok (.iconst 1, 1) := by decide +kernel
theorem dX7_happens_76 : decode cX7_happens 76 = .ok (.iadd, 1) := by decide +kernel
theorem dX7_happens_77 : decode cX7_happens 77 = .ok (.goto 5, 3) := by decide +kernel
theorem dX7_happens_80 : decode cX7_happens 80 = .ok (.bipush 8, 2) := by decide +kernel
theorem dX7_happens_82 : decode cX7_happens 82 = .ok (.iastore, 1) := by decide +kernel
theorem dX7_happens_83 : decode cX7_happens 83 = .ok (.return_, 1) := by decide +kernel
theorem dX7_rains_0 : decode cX7_rains 0 = .ok (.aload_n 0, 1) := by decide +kernel
theorem dX7_rains_1 : decode cX7_rains 1 = .ok (.getfield 9, 3) := by decide +kernel
theorem dX7_rains_4 : decode cX7_rains 4 = .ok (.iconst 3, 1) := by decide +kernel
theorem dX7_rains_5 : decode cX7_rains 5 = .ok (.dup2, 1) := by decide +kernel
theorem dX7_rains_6 : decode cX7_rains 6 = .ok (.iaload, 1) := by decide +kernel
theorem dX7_rains_7 : decode cX7_rains 7 = .ok (.aload_n 0, 1) := by decide +kernel
theorem dX7_rains_8 : decode cX7_rains 8 = .ok (.getfield 9, 3) := by decide +kernel
theorem dX7_rains_11 : decode cX7_rains 11 = .ok (.iconst 1, 1) := by decide +kernel
theorem dX7_rains_12 : decode cX7_rains 12 = .ok (.iaload, 1) := by decide +kernel
theorem dX7_rains_13 : decode cX7_rains 13 = .ok (.iadd, 1) := by decide +kernel
theorem dX7_rains_14 : decode cX7_rains 14 = .ok (.iastore, 1) := by decide +kernel
theorem dX7_rains_15 : decode cX7_rains 15 = .ok (.aload_n 0, 1) := by decide +kernel
theorem dX7_rains_16 : decode cX7_rains 16 = .ok (.getfield 9, 3) := by decide +kernel
theorem dX7_rains_19 : decode cX7_rains 19 = .ok (.bipush 11, 2) := by decide +kernel
theorem dX7_rains_21 : decode cX7_rains 21 = .ok (.dup2, 1) := by decide +kernel
theorem dX7_rains_22 : decode cX7_rains 22 = .ok (.iaload, 1) := by decide +kernel
theorem dX7_rains_23 : decode cX7_rains 23 = .ok (.aload_n 0, 1) := by decide +kernel
theorem dX7_rains_24 : decode cX7_rains 24 = .ok (.getfield 9, 3) := by decide +kernel
theorem dX7_rains_27 : decode cX7_rains 27 = .ok (.iconst 1, 1) := by decide +kernel
theorem dX7_rains_28 : decode cX7_rains 28 = .ok (.iaload, 1) := by decide +kernel
theorem dX7_rains_29 : decode cX7_rains 29 = .ok (.iadd, 1) := by decide +kernel
theorem dX7_rains_30 : decode cX7_rains 30 = .ok (.iastore, 1) := by decide +kernel
theorem dX7_rains_31 : decode cX7_rains 31 = .ok (.aload_n 0, 1) := by decide +kernel
theorem dX7_rains_32 : decode cX7_rains 32 = .ok (.getfield 9, 3) := by decide +kernel
theorem dX7_rains_35 : decode cX7_rains 35 = .ok (.bipush 11, 2) := by decide +kernel
theorem dX7_rains_37 : decode cX7_rains 37 = .ok (.iaload, 1) := by decide +kernel
theorem dX7_rains_38 : decode cX7_rains 38 = .ok (.bipush 40, 2) := by decide +kernel
theorem dX7_rains_40 : decode cX7_rains 40 = .ok (.iconst 0, 1) := by decide +kernel
theorem dX7_rains_41 : decode cX7_rains 41 = .ok (.invokestatic 47, 3) := by decide +kernel
theorem dX7_rains_44 : decode cX7_rains 44 = .ok (.imul, 1) := by decide +kernel
theorem dX7_rains_45 : decode cX7_rains 45 = .ok (.isub, 1) := by decide +kernel
theorem dX7_rains_46 : decode cX7_rains 46 = .ok (.istore_n 1, 1) := by decide +kernel
theorem dX7_rains_47 : decode cX7_rains 47 = .ok (.iload_n 1, 1) := by decide +kernel
theorem dX7_rains_48 : decode cX7_rains 48 = .ok (.ifCond .le 31, 3) := by decide +kernel
theorem dX7_rains_51 : decode cX7_rains 51 = .ok (.aload_n 0, 1) := by decide +kernel
theorem dX7_rains_52 : decode cX7_rains 52 = .ok (.getfield 9, 3) := by decide +kernel
theorem dX7_rains_55 : decode cX7_rains 55 = .ok (.bipush 11, 2) := by decide +kernel
theorem dX7_rains_57 : decode cX7_rains 57 = .ok (.dup2, 1) := by decide +kernel
theorem dX7_rains_58 : decode cX7_rains 58 = .ok (.iaload, 1) := by decide +kernel
theorem dX7_rains_59 : decode cX7_rains 59 = .ok (.iload_n 1, 1) := by decide +kernel
theorem dX7_rains_60 : decode cX7_rains 60 = .ok (.isub, 1) := by decide +kernel
theorem dX7_rains_61 : decode cX7_rains 61 = .ok (.iastore, 1) := by decide +kernel
theorem dX7_rains_62 : decode cX7_rains 62 = .ok (.aload_n 0, 1) := by decide +kernel
theorem dX7_rains_63 : decode cX7_rains 63 = .ok (.getfield 9, 3) := by decide +kernel
theorem dX7_rains_66 : decode cX7_rains 66 = .ok (.iconst 5, 1) := by decide +kernel
theorem dX7_rains_67 : decode cX7_rains 67 = .ok (.dup2, 1) := by decide +kernel
theorem dX7_rains_68 : decode cX7_rains 68 = .ok (.iaload, 1) := by decide +kernel
theorem dX7_rains_69 : decode cX7_rains 69 = .ok (.iload_n 1, 1) := by decide +kernel
theorem dX7_rains_70 : decode cX7_rains 70 = .ok (.iadd, 1) := by decide +kernel
theorem dX7_rains_71 : decode cX7_rains 71 = .ok (.iastore, 1) := by decide +kernel
theorem dX7_rains_72 : decode cX7_rains 72 = .ok (.aload_n 0, 1) := by decide +kernel
theorem dX7_rains_73 : decode cX7_rains 73 = .ok (.bipush 115, 2) := by decide +kernel
theorem dX7_rains_75 : decode cX7_rains 75 = .ok (.iload_n 1, 1) := by decide +kernel
theorem dX7_rains_76 : decode cX7_rains 76 = .ok (.invokevirtual 58, 3) := by decide +kernel
theorem dX7_rains_79 : decode cX7_rains 79 = .ok (.bipush 15, 2) := by decide +kernel
theorem dX7_rains_81 : decode cX7_rains 81 = .ok (.istore_n 2, 1) := by decide +kernel
theorem dX7_rains_82 : decode cX7_rains 82 = .ok (.aload_n 0, 1) := by decide +kernel
theorem dX7_rains_83 : decode cX7_rains 83 = .ok (.getfield 9, 3) := by decide +kernel
theorem dX7_rains_86 : decode cX7_rains 86 = .ok (.iconst 2, 1) := by decide +kernel
theorem dX7_rains_87 : decode cX7_rains 87 = .ok (.iaload, 1) := by decide +kernel
theorem dX7_rains_88 : decode cX7_rains 88 = .ok (.aload_n 0, 1) := by decide +kernel
theorem dX7_rains_89 : decode cX7_rains 89 = .ok (.getfield 9, 3) := by decide +kernel
theorem dX7_rains_92 : decode cX7_rains 92 = .ok (.iload_n 2, 1) := by decide +kernel
theorem dX7_rains_93 : decode cX7_rains 93 = .ok (.iaload, 1) := by decide +kernel
theorem dX7_rains_94 : decode cX7_rains 94 = .ok (.if_icmp .ge 12, 3) := by decide +kernel
theorem dX7_rains_97 : decode cX7_rains 97 = .ok (.aload_n 0, 1) := by decide +kernel
theorem dX7_rains_98 : decode cX7_rains 98 = .ok (.getfield 9, 3) := by decide +kernel
theorem dX7_rains_101 : decode cX7_rains 101 = .ok (.iconst 2, 1) := by decide +kernel
theorem dX7_rains_102 : decode cX7_rains 102 = .ok (.iaload, 1) := by decide +kernel
theorem dX7_rains_103 : decode cX7_rains 103 = .ok (.goto 9, 3) := by decide +kernel
theorem dX7_rains_106 : decode cX7_rains 106 = .ok (.aload_n 0, 1) := by decide +kernel
theorem dX7_rains_107 : decode cX7_rains 107 = .ok (.getfield 9, 3) := by decide +kernel
theorem dX7_rains_110 : decode cX7_rains 110 = .ok (.iload_n 2, 1) := by decide +kernel
theorem dX7_rains_111 : decode cX7_rains 111 = .ok (.iaload, 1) := by decide +kernel
theorem dX7_rains_112 : decode cX7_rains 112 = .ok (.istore_n 3, 1) := by decide +kernel
theorem dX7_rains_113 : decode cX7_rains 113 = .ok (.aload_n 0, 1) := by decide +kernel
theorem dX7_rains_114 : decode cX7_rains 114 = .ok (.getfield 9, 3) := by decide +kernel
theorem dX7_rains_117 : decode cX7_rains 117 = .ok (.iload_n 2, 1) := by decide +kernel
theorem dX7_rains_118 : decode cX7_rains 118 = .ok (.dup2, 1) := by decide +kernel
theorem dX7_rains_119 : decode cX7_rains 119 = .ok (.iaload, 1) := by decide +kernel
theorem dX7_rains_120 : decode cX7_rains 120 = .ok (.iload_n 3, 1) := by decide +kernel
theorem dX7_rains_121 : decode cX7_rains 121 = .ok (.isub, 1) := by decide +kernel
theorem dX7_rains_122 : decode cX7_rains 122 = .ok (.iastore, 1) := by decide +kernel
theorem dX7_rains_123 : decode cX7_rains 123 = .ok (.aload_n 0, 1) := by decide +kernel
theorem dX7_rains_124 : decode cX7_rains 124 = .ok (.getfield 9, 3) := by decide +kernel
theorem dX7_rains_127 : decode cX7_rains 127 = .ok (.iconst 4, 1) := by decide +kernel
theorem dX7_rains_128 : decode cX7_rains 128 = .ok (.dup2, 1) := by decide +kernel
theorem dX7_rains_129 : decode cX7_rains 129 = .ok (.iaload, 1) := by decide +kernel
theorem dX7_rains_130 : decode cX7_rains 130 = .ok (.iload_n 3, 1) := by decide +kernel
theorem dX7_rains_131 : decode cX7_rains 131 = .ok (.iadd, 1) := by decide +kernel
theorem dX7_rains_132 : decode cX7_rains 132 = .ok (.iastore, 1) := by decide +kernel
theorem dX7_rains_133 : decode cX7_rains 133 = .ok (.return_, 1) := by decide +kernel
theorem dX7_b_0 : decode cX7_b 0 = .ok (.aload_n 0, 1) := by decide +kernel
theorem dX7_b_1 : decode cX7_b 1 = .ok (.getfield 9, 3) := by decide +kernel
theorem dX7_b_4 : decode cX7_b 4 = .ok (.bipush 40, 2) := by decide +kernel
theorem dX7_b_6 : decode cX7_b 6 = .ok (.iconst 5, 1) := by decide +kernel
theorem dX7_b_7 : decode cX7_b 7 = .ok (.iload_n 1, 1) := by decide +kernel
theorem dX7_b_8 : decode cX7_b 8 = .ok (.imul, 1) := by decide +kernel
theorem dX7_b_9 : decode cX7_b 9 = .ok (.iadd, 1) := by decide +kernel
theorem dX7_b_10 : decode cX7_b 10 = .ok (.iload_n 2, 1) := by decide +kernel
theorem dX7_b_11 : decode cX7_b 11 = .ok (.iadd, 1) := by decide +kernel
theorem dX7_b_12 : decode cX7_b 12 = .ok (.iaload, 1) := by decide +kernel
theorem dX7_b_13 : decode cX7_b 13 = .ok (.ireturn, 1) := by decide +kernel
theorem dX7_set_0 : decode cX7_set 0 = .ok (.aload_n 0, 1) := by decide +kernel
theorem dX7_set_1 : decode cX7_set 1 = .ok (.getfield 9, 3) := by decide +kernel
theorem dX7_set_4 : decode cX7_set 4 = .ok (.bipush 40, 2) := by decide +kernel
theorem dX7_set_6 : decode cX7_set 6 = .ok (.iconst 5, 1) := by decide +kernel
theorem dX7_set_7 : decode cX7_set 7 = .ok (.iload_n 1, 1) := by decide +kernel
theorem dX7_set_8 : decode cX7_set 8 = .ok (.imul, 1) := by decide +kernel
theorem dX7_set_9 : decode cX7_set 9 = .ok (.iadd, 1) := by decide +kernel
theorem dX7_set_10 : decode cX7_set 10 = .ok (.iload_n 2, 1) := by decide +kernel
theorem dX7_set_11 : decode cX7_set 11 = .ok (.iadd, 1) := by decide +kernel
theorem dX7_set_12 : decode cX7_set 12 = .ok (.iload_n 3, 1) := by decide +kernel
theorem dX7_set_13 : decode cX7_set 13 = .ok (.iastore, 1) := by decide +kernel
theorem dX7_set_14 : decode cX7_set 14 = .ok (.return_, 1) := by decide +kernel
theorem dX7_isBoat_0 : decode cX7_isBoat 0 = .ok (.iload_n 1, 1) := by decide +kernel
theorem dX7_isBoat_1 : decode cX7_isBoat 1 = .ok (.iconst 0, 1) := by decide +kernel
theorem dX7_isBoat_2 : decode cX7_isBoat 2 = .ok (.aload_n 0, 1) := by decide +kernel
theorem dX7_isBoat_3 : decode cX7_isBoat 3 = .ok (.getfield 9, 3) := by decide +kernel
theorem dX7_isBoat_6 : decode cX7_isBoat 6 = .ok (.bipush 6, 2) := by decide +kernel
theorem dX7_isBoat_8 : decode cX7_isBoat 8 = .ok (.iaload, 1) := by decide +kernel
theorem dX7_isBoat_9 : decode cX7_isBoat 9 = .ok (.iconst 1, 1) := by decide +kernel
theorem dX7_isBoat_10 : decode cX7_isBoat 10 = .ok (.isub, 1) := by decide +kernel
theorem dX7_isBoat_11 : decode cX7_isBoat 11 = .ok (.invokestatic 43, 3) := by decide +kernel
theorem dX7_isBoat_14 : decode cX7_isBoat 14 = .ok (.ireturn, 1) := by decide +kernel
theorem dX7_inBasin_0 : decode cX7_inBasin 0 = .ok (.iconst 0, 1) := by decide +kernel
theorem dX7_inBasin_1 : decode cX7_inBasin 1 = .ok (.istore_n 2, 1) := by decide +kernel
theorem dX7_inBasin_2 : decode cX7_inBasin 2 = .ok (.iconst 0, 1) := by decide +kernel
theorem dX7_inBasin_3 : decode cX7_inBasin 3 = .ok (.istore_n 3, 1) := by decide +kernel
theorem dX7_inBasin_4 : decode cX7_inBasin 4 = .ok (.iload_n 3, 1) := by decide +kernel
theorem dX7_inBasin_5 : decode cX7_inBasin 5 = .ok (.aload_n 0, 1) := by decide +kernel
theorem dX7_inBasin_6 : decode cX7_inBasin 6 = .ok (.getfield 9, 3) := by decide +kernel
theorem dX7_inBasin_9 : decode cX7_inBasin 9 = .ok (.bipush 6, 2) := by decide +kernel
theorem dX7_inBasin_11 : decode cX7_inBasin 11 = .ok (.iaload, 1) := by decide +kernel
theorem dX7_inBasin_12 : decode cX7_inBasin 12 = .ok (.if_icmp .ge 27, 3) := by decide +kernel
theorem dX7_inBasin_15 : decode cX7_inBasin 15 = .ok (.iload_n 2, 1) := by decide +kernel
theorem dX7_inBasin_16 : decode cX7_inBasin 16 = .ok (.aload_n 0, 1) := by decide +kernel
theorem dX7_inBasin_17 : decode cX7_inBasin 17 = .ok (.iload_n 3, 1) := by decide +kernel
theorem dX7_inBasin_18 : decode cX7_inBasin 18 = .ok (.iconst 3, 1) := by decide +kernel
theorem dX7_inBasin_19 : decode cX7_inBasin 19 = .ok (.invokevirtual 61, 3) := by decide +kernel
theorem dX7_inBasin_22 : decode cX7_inBasin 22 = .ok (.iload_n 1, 1) := by decide +kernel
theorem dX7_inBasin_23 : decode cX7_inBasin 23 = .ok (.if_icmp .ne 7, 3) := by decide +kernel
theorem dX7_inBasin_26 : decode cX7_inBasin 26 = .ok (.iconst 1, 1) := by decide +kernel
theorem dX7_inBasin_27 : decode cX7_inBasin 27 = .ok (.goto 4, 3) := by decide +kernel
theorem dX7_inBasin_30 : decode cX7_inBasin 30 = .ok (.iconst 0, 1) := by decide +kernel
theorem dX7_inBasin_31 : decode cX7_inBasin 31 = .ok (.iadd, 1) := by decide +kernel
theorem dX7_inBasin_32 : decode cX7_inBasin 32 = .ok (.istore_n 2, 1) := by decide +kernel
theorem dX7_inBasin_33 : decode cX7_inBasin 33 = .ok (.iinc 3 1, 3) := by decide +kernel
theorem dX7_inBasin_36 : decode cX7_inBasin 36 = .ok (.goto (-32), 3) := by decide +kernel
theorem dX7_inBasin_39 : decode cX7_inBasin 39 = .ok (.iload_n 2, 1) := by decide +kernel
theorem dX7_inBasin_40 : decode cX7_inBasin 40 = .ok (.ireturn, 1) := by decide +kernel
theorem dX7_isDeep_0 : decode cX7_isDeep 0 = .ok (.aload_n 0, 1) := by decide +kernel
theorem dX7_isDeep_1 : decode cX7_isDeep 1 = .ok (.getfield 9, 3) := by decide +kernel
theorem dX7_isDeep_4 : decode cX7_isDeep 4 = .ok (.bipush 11, 2) := by decide +kernel
theorem dX7_isDeep_6 : decode cX7_isDeep 6 = .ok (.iload_n 1, 1) := by decide +kernel
theorem dX7_isDeep_7 : decode cX7_isDeep 7 = .ok (.iadd, 1) := by decide +kernel
theorem dX7_isDeep_8 : decode cX7_isDeep 8 = .ok (.iaload, 1) := by decide +kernel
theorem dX7_isDeep_9 : decode cX7_isDeep 9 = .ok (.iload_n 2, 1) := by decide +kernel
theorem dX7_isDeep_10 : decode cX7_isDeep 10 = .ok (.iload_n 1, 1) := by decide +kernel
theorem dX7_isDeep_11 : decode cX7_isDeep 11 = .ok (.invokestatic 47, 3) := by decide +kernel
theorem dX7_isDeep_14 : decode cX7_isDeep 14 = .ok (.imul, 1) := by decide +kernel
theorem dX7_isDeep_15 : decode cX7_isDeep 15 = .ok (.if_icmp .lt 7, 3) := by decide +kernel
theorem dX7_isDeep_18 : decode cX7_isDeep 18 = .ok (.iconst 1, 1) := by decide +kernel
theorem dX7_isDeep_19 : decode cX7_isDeep 19 = .ok (.goto 4, 3) := by decide +kernel
theorem dX7_isDeep_22 : decode cX7_isDeep 22 = .ok (.iconst 0, 1) := by decide +kernel
theorem dX7_isDeep_23 : decode cX7_isDeep 23 = .ok (.ireturn, 1) := by decide +kernel
theorem dX7_leaves_0 : decode cX7_leaves 0 = .ok (.aload_n 0, 1) := by decide +kernel
theorem dX7_leaves_1 : decode cX7_leaves 1 = .ok (.getfield 9, 3) := by decide +kernel
theorem dX7_leaves_4 : decode cX7_leaves 4 = .ok (.bipush 6, 2) := by decide +kernel
theorem dX7_leaves_6 : decode cX7_leaves 6 = .ok (.iaload, 1) := by decide +kernel
theorem dX7_leaves_7 : decode cX7_leaves 7 = .ok (.iconst 1, 1) := by decide +kernel
theorem dX7_leaves_8 : decode cX7_leaves 8 = .ok (.isub, 1) := by decide +kernel
theorem dX7_leaves_9 : decode cX7_leaves 9 = .ok (.istore_n 2, 1) := by decide +kernel
theorem dX7_leaves_10 : decode cX7_leaves 10 = .ok (.iconst 5, 1) := by decide +kernel
theorem dX7_leaves_11 : decode cX7_leaves 11 = .ok (.iload_n 1, 1) := by decide +kernel
theorem dX7_leaves_12 : decode cX7_leaves 12 = .ok (.imul, 1) := by decide +kernel
theorem dX7_leaves_13 : decode cX7_leaves 13 = .ok (.istore_n 3, 1) := by decide +kernel
theorem dX7_leaves_14 : decode cX7_leaves 14 = .ok (.iload_n 3, 1) := by decide +kernel
theorem dX7_leaves_15 : decode cX7_leaves 15 = .ok (.iconst 5, 1) := by decide +kernel
theorem dX7_leaves_16 : decode cX7_leaves 16 = .ok (.iload_n 2, 1) := by decide +kernel
theorem dX7_leaves_17 : decode cX7_leaves 17 = .ok (.imul, 1) := by decide +kernel
theorem dX7_leaves_18 : decode cX7_leaves 18 = .ok (.if_icmp .ge 29, 3) := by decide +kernel
theorem dX7_leaves_21 : decode cX7_leaves 21 = .ok (.aload_n 0, 1) := by decide +kernel
theorem dX7_leaves_22 : decode cX7_leaves 22 = .ok (.getfield 9, 3) := by decide +kernel
theorem dX7_leaves_25 : decode cX7_leaves 25 = .ok (.bipush 40, 2) := by decide +kernel
theorem dX7_leaves_27 : decode cX7_leaves 27 = .ok (.iload_n 3, 1) := by decide +kernel
theorem dX7_leaves_28 : decode cX7_leaves 28 = .ok (.iadd, 1) := by decide +kernel
theorem dX7_leaves_29 : decode cX7_leaves 29 = .ok (.aload_n 0, 1) := by decide +kernel
theorem dX7_leaves_30 : decode cX7_leaves 30 = .ok (.getfield 9, 3) := by decide +kernel
theorem dX7_leaves_33 : decode cX7_leaves 33 = .ok (.bipush 40, 2) := by decide +kernel
theorem dX7_leaves_35 : decode cX7_leaves 35 = .ok (.iload_n 3, 1) := by decide +kernel
theorem dX7_leaves_36 : decode cX7_leaves 36 = .ok (.iadd, 1) := by decide +kernel
theorem dX7_leaves_37 : decode cX7_leaves 37 = .ok (.iconst 5, 1) := by decide +kernel
theorem dX7_leaves_38 : decode cX7_leaves 38 = .ok (.iadd, 1) := by decide +kernel
theorem dX7_leaves_39 : decode cX7_leaves 39 = .ok (.iaload, 1) := by decide +kernel
theorem dX7_leaves_40 : decode cX7_leaves 40 = .ok (.iastore, 1) := by decide +kernel
theorem dX7_leaves_41 : decode cX7_leaves 41 = .ok (.iinc 3 1, 3) := by decide +kernel
theorem dX7_leaves_44 : decode cX7_leaves 44 = .ok (.goto (-30), 3) := by decide +kernel
theorem dX7_leaves_47 : decode cX7_leaves 47 = .ok (.iconst 0, 1) := by decide +kernel
theorem dX7_leaves_48 : decode cX7_leaves 48 = .ok (.istore_n 3, 1) := by decide +kernel
theorem dX7_leaves_49 : decode cX7_leaves 49 = .ok (.iload_n 3, 1) := by decide +kernel
theorem dX7_leaves_50 : decode cX7_leaves 50 = .ok (.iconst 5, 1) := by decide +kernel
theorem dX7_leaves_51 : decode cX7_leaves 51 = .ok (.if_icmp .ge 16, 3) := by decide +kernel
theorem dX7_leaves_54 : decode cX7_leaves 54 = .ok (.aload_n 0, 1) := by decide +kernel
theorem dX7_leaves_55 : decode cX7_leaves 55 = .ok (.iload_n 2, 1) := by decide +kernel
theorem dX7_leaves_56 : decode cX7_leaves 56 = .ok (.iload_n 3, 1) := by decide +kernel
theorem dX7_leaves_57 : decode cX7_leaves 57 = .ok (.iconst 0, 1) := by decide +kernel
theorem dX7_leaves_58 : decode cX7_leaves 58 = .ok (.invokevirtual 64, 3) := by decide +kernel
theorem dX7_leaves_61 : decode cX7_leaves 61 = .ok (.iinc 3 1, 3) := by decide +kernel
theorem dX7_leaves_64 : decode cX7_leaves 64 = .ok (.goto (-15), 3) := by decide +kernel
theorem dX7_leaves_67 : decode cX7_leaves 67 = .ok (.aload_n 0, 1) := by decide +kernel
theorem dX7_leaves_68 : decode cX7_leaves 68 = .ok (.getfield 9, 3) := by decide +kernel
theorem dX7_leaves_71 : decode cX7_leaves 71 = .ok (.bipush 6, 2) := by decide +kernel
theorem dX7_leaves_73 : decode cX7_leaves 73 = .ok (.iload_n 2, 1) := by decide +kernel
theorem dX7_leaves_74 : decode cX7_leaves 74 = .ok (.iastore, 1) := by decide +kernel
theorem dX7_leaves_75 : decode cX7_leaves 75 = .ok (.return_, 1) := by decide +kernel
theorem dX7_passes_0 : decode cX7_passes 0 = .ok (.aload_n 0, 1) := by decide +kernel
theorem dX7_passes_1 : decode cX7_passes 1 = .ok (.iload_n 1, 1) := by decide +kernel
theorem dX7_passes_2 : decode cX7_passes 2 = .ok (.iconst 3, 1) := by decide +kernel
theorem dX7_passes_3 : decode cX7_passes 3 = .ok (.invokevirtual 61, 3) := by decide +kernel
theorem dX7_passes_6 : decode cX7_passes 6 = .ok (.istore_n 2, 1) := by decide +kernel
theorem dX7_passes_7 : decode cX7_passes 7 = .ok (.aload_n 0, 1) := by decide +kernel
theorem dX7_passes_8 : decode cX7_passes 8 = .ok (.iload_n 1, 1) := by decide +kernel
theorem dX7_passes_9 : decode cX7_passes 9 = .ok (.iconst 2, 1) := by decide +kernel
theorem dX7_passes_10 : decode cX7_passes 10 = .ok (.invokevirtual 61, 3) := by decide +kernel
theorem dX7_passes_13 : decode cX7_passes 13 = .ok (.iconst 1, 1) := by decide +kernel
theorem dX7_passes_14 : decode cX7_passes 14 = .ok (.if_icmp .ne 9, 3) := by decide +kernel
theorem dX7_passes_17 : decode cX7_passes 17 = .ok (.iload_n 2, 1) := by decide +kernel
theorem dX7_passes_18 : decode cX7_passes 18 = .ok (.iconst 1, 1) := by decide +kernel
theorem dX7_passes_19 : decode cX7_passes 19 = .ok (.iadd, 1) := by decide +kernel
theorem dX7_passes_20 : decode cX7_passes 20 = .ok (.goto 6, 3) := by decide +kernel
theorem dX7_passes_23 : decode cX7_passes 23 = .ok (.iload_n 2, 1) := by decide +kernel
theorem dX7_passes_24 : decode cX7_passes 24 = .ok (.iconst 1, 1) := by decide +kernel
theorem dX7_passes_25 : decode cX7_passes 25 = .ok (.isub, 1) := by decide +kernel
theorem dX7_passes_26 : decode cX7_passes 26 = .ok (.istore_n 3, 1) := by decide +kernel
theorem dX7_passes_27 : decode cX7_passes 27 = .ok (.aload_n 0, 1) := by decide +kernel
theorem dX7_passes_28 : decode cX7_passes 28 = .ok (.iload_n 1, 1) := by decide +kernel
theorem dX7_passes_29 : decode cX7_passes 29 = .ok (.iconst 2, 1) := by decide +kernel
theorem dX7_passes_30 : decode cX7_passes 30 = .ok (.invokevirtual 61, 3) := by decide +kernel
theorem dX7_passes_33 : decode cX7_passes 33 = .ok (.iconst 1, 1) := by decide +kernel
theorem dX7_passes_34 : decode cX7_passes 34 = .ok (.if_icmp .ne 7, 3) := by decide +kernel
theorem dX7_passes_37 : decode cX7_passes 37 = .ok (.iload_n 2, 1) := by decide +kernel
theorem dX7_passes_38 : decode cX7_passes 38 = .ok (.goto 4, 3) := by decide +kernel
theorem dX7_passes_41 : decode cX7_passes 41 = .ok (.iload_n 3, 1) := by decide +kernel
theorem dX7_passes_42 : decode cX7_passes 42 = .ok (.istore 4, 2) := by decide +kernel
theorem dX7_passes_44 : decode cX7_passes 44 = .ok (.iload_n 3, 1) := by decide +kernel
theorem dX7_passes_45 : decode cX7_passes 45 = .ok (.ifCond .eq 8, 3) := by decide +kernel
theorem dX7_passes_48 : decode cX7_passes 48 = .ok (.iload_n 3, 1) := by decide +kernel
theorem dX7_passes_49 : decode cX7_passes 49 = .ok (.iconst 4, 1) := by decide +kernel
theorem dX7_passes_50 : decode cX7_passes 50 = .ok (.if_icmp .ne 7, 3) := by decide +kernel
theorem dX7_passes_53 : decode cX7_passes 53 = .ok (.iconst 1, 1) := by decide +kernel
theorem dX7_passes_54 : decode cX7_passes 54 = .ok (.goto 4, 3) := by decide +kernel
theorem dX7_passes_57 : decode cX7_passes 57 = .ok (.iconst 0, 1) := by decide +kernel
theorem dX7_passes_58 : decode cX7_passes 58 = .ok (.istore 5, 2) := by decide +kernel
theorem dX7_passes_60 : decode cX7_passes 60 = .ok (.aload_n 0, 1) := by decide +kernel
theorem dX7_passes_61 : decode cX7_passes 61 = .ok (.getfield 9, 3) := by decide +kernel
theorem dX7_passes_64 : decode cX7_passes 64 = .ok (.bipush 20, 2) := by decide +kernel
theorem dX7_passes_66 : decode cX7_passes 66 = .ok (.iload 4, 2) := by decide +kernel
theorem dX7_passes_68 : decode cX7_passes 68 = .ok (.iadd, 1) := by decide +kernel
theorem dX7_passes_69 : decode cX7_passes 69 = .ok (.iaload, 1) := by decide +kernel
theorem dX7_passes_70 : decode cX7_passes 70 = .ok (.ifCond .eq 16, 3) := by decide +kernel
theorem dX7_passes_73 : decode cX7_passes 73 = .ok (.aload_n 0, 1) := by decide +kernel
theorem dX7_passes_74 : decode cX7_passes 74 = .ok (.getfield 68, 3) := by decide +kernel
theorem dX7_passes_77 : decode cX7_passes 77 = .ok (.iload 4, 2) := by decide +kernel
theorem dX7_passes_79 : decode cX7_passes 79 = .ok (.ishr, 1) := by decide +kernel
theorem dX7_passes_80 : decode cX7_passes 80 = .ok (.iconst 1, 1) := by decide +kernel
theorem dX7_passes_81 : decode cX7_passes 81 = .ok (.iand, 1) := by decide +kernel
theorem dX7_passes_82 : decode cX7_passes 82 = .ok (.iconst 1, 1) := by decide +kernel
theorem dX7_passes_83 : decode cX7_passes 83 = .ok (.if_icmp .ne 5, 3) := by decide +kernel
theorem dX7_passes_86 : decode cX7_passes 86 = .ok (.iconst 0, 1) := by decide +kernel
theorem dX7_passes_87 : decode cX7_passes 87 = .ok (.ireturn, 1) := by decide +kernel
theorem dX7_passes_88 : decode cX7_passes 88 = .ok (.iload 5, 2) := by decide +kernel
theorem dX7_passes_90 : decode cX7_passes 90 = .ok (.ifCond .ne 12, 3) := by decide +kernel
theorem dX7_passes_93 : decode cX7_passes 93 = .ok (.aload_n 0, 1) := by decide +kernel
theorem dX7_passes_94 : decode cX7_passes 94 = .ok (.iload_n 3, 1) := by decide +kernel
theorem dX7_passes_95 : decode cX7_passes 95 = .ok (.invokevirtual 71, 3) := by decide +kernel
theorem dX7_passes_98 : decode cX7_passes 98 = .ok (.iconst 1, 1) := by decide +kernel
theorem dX7_passes_99 : decode cX7_passes 99 = .ok (.if_icmp .gt 17, 3) := by decide +kernel
theorem dX7_passes_102 : decode cX7_passes 102 = .ok (.aload_n 0, 1) := by decide +kernel
theorem dX7_passes_103 : decode cX7_passes 103 = .ok (.iload_n 3, 1) := by decide +kernel
theorem dX7_passes_104 : decode cX7_passes 104 = .ok (.aload_n 0, 1) := by decide +kernel
theorem dX7_passes_105 : decode cX7_passes 105 = .ok (.iload_n 1, 1) := by decide +kernel
theorem dX7_passes_106 : decode cX7_passes 106 = .ok (.iconst 1, 1) := by decide +kernel
theorem dX7_passes_107 : decode cX7_passes 107 = .ok (.invokevirtual 61, 3) := by decide +kernel
theorem dX7_passes_110 : decode cX7_passes 110 = .ok (.invokevirtual 74, 3) := by decide +kernel
theorem dX7_passes_113 : decode cX7_passes 113 = .ok (.ifCond .ne 5, 3) := by decide +kernel
theorem dX7_passes_116 : decode cX7_passes 116 = .ok (.iconst 0, 1) := by decide +kernel
theorem dX7_passes_117 : decode cX7_passes 117 = .ok (.ireturn, 1) := by decide +kernel
theorem dX7_passes_118 : decode cX7_passes 118 = .ok (.aload_n 0, 1) := by decide +kernel
theorem dX7_passes_119 : decode cX7_passes 119 = .ok (.dup, 1) := by decide +kernel
theorem dX7_passes_120 : decode cX7_passes 120 = .ok (.getfield 68, 3) := by decide +kernel
theorem dX7_passes_123 : decode cX7_passes 123 = .ok (.iconst 1, 1) := by decide +kernel
theorem dX7_passes_124 : decode cX7_passes 124 = .ok (.iload 4, 2) := by decide +kernel
theorem dX7_passes_126 : decode cX7_passes 126 = .ok (.ishl, 1) := by decide +kernel
theorem dX7_passes_127 : decode cX7_passes 127 = .ok (.ior, 1) := by decide +kernel
theorem dX7_passes_128 : decode cX7_passes 128 = .ok (.putfield 68, 3) := by decide +kernel
theorem dX7_passes_131 : decode cX7_passes 131 = .ok (.iload 5, 2) := by decide +kernel
theorem dX7_passes_133 : decode cX7_passes 133 = .ok (.ifCond .ne 20, 3) := by decide +kernel
theorem dX7_passes_136 : decode cX7_passes 136 = .ok (.aload_n 0, 1) := by decide +kernel
theorem dX7_passes_137 : decode cX7_passes 137 = .ok (.iload_n 1, 1) := by decide +kernel
theorem dX7_passes_138 : decode cX7_passes 138 = .ok (.iconst 3, 1) := by decide +kernel
theorem dX7_passes_139 : decode cX7_passes 139 = .ok (.iload_n 3, 1) := by decide +kernel
theorem dX7_passes_140 : decode cX7_passes 140 = .ok (.invokevirtual 64, 3) := by decide +kernel
theorem dX7_passes_143 : decode cX7_passes 143 = .ok (.aload_n 0, 1) := by decide +kernel
theorem dX7_passes_144 : decode cX7_passes 144 = .ok (.bipush 112, 2) := by decide +kernel
theorem dX7_passes_146 : decode cX7_passes 146 = .ok (.iload 4, 2) := by decide +kernel
theorem dX7_passes_148 : decode cX7_passes 148 = .ok (.invokevirtual 58, 3) := by decide +kernel
theorem dX7_passes_151 : decode cX7_passes 151 = .ok (.iconst 0, 1) := by decide +kernel
theorem dX7_passes_152 : decode cX7_passes 152 = .ok (.ireturn, 1) := by decide +kernel
theorem dX7_passes_153 : decode cX7_passes 153 = .ok (.aload_n 0, 1) := by decide +kernel
theorem dX7_passes_154 : decode cX7_passes 154 = .ok (.getfield 9, 3) := by decide +kernel
theorem dX7_passes_157 : decode cX7_passes 157 = .ok (.bipush 8, 2) := by decide +kernel
theorem dX7_passes_159 : decode cX7_passes 159 = .ok (.aload_n 0, 1) := by decide +kernel
theorem dX7_passes_160 : decode cX7_passes 160 = .ok (.iload_n 1, 1) := by decide +kernel
theorem dX7_passes_161 : decode cX7_passes 161 = .ok (.iconst 0, 1) := by decide +kernel
theorem dX7_passes_162 : decode cX7_passes 162 = .ok (.invokevirtual 61, 3) := by decide +kernel
theorem dX7_passes_165 : decode cX7_passes 165 = .ok (.iadd, 1) := by decide +kernel
theorem dX7_passes_166 : decode cX7_passes 166 = .ok (.dup2, 1) := by decide +kernel
theorem dX7_passes_167 : decode cX7_passes 167 = .ok (.iaload, 1) := by decide +kernel
theorem dX7_passes_168 : decode cX7_passes 168 = .ok (.iconst 1, 1) := by decide +kernel
theorem dX7_passes_169 : decode cX7_passes 169 = .ok (.iadd, 1) := by decide +kernel
theorem dX7_passes_170 : decode cX7_passes 170 = .ok (.iastore, 1) := by decide +kernel
theorem dX7_passes_171 : decode cX7_passes 171 = .ok (.aload_n 0, 1) := by decide +kernel
theorem dX7_passes_172 : decode cX7_passes 172 = .ok (.bipush 108, 2) := by decide +kernel
theorem dX7_passes_174 : decode cX7_passes 174 = .ok (.aload_n 0, 1) := by decide +kernel
theorem dX7_passes_175 : decode cX7_passes 175 = .ok (.iload_n 1, 1) := by decide +kernel
theorem dX7_passes_176 : decode cX7_passes 176 = .ok (.iconst 1, 1) := by decide +kernel
theorem dX7_passes_177 : decode cX7_passes 177 = .ok (.invokevirtual 61, 3) := by decide +kernel
theorem dX7_passes_180 : decode cX7_passes 180 = .ok (.invokevirtual 58, 3) := by decide +kernel
theorem dX7_passes_183 : decode cX7_passes 183 = .ok (.aload_n 0, 1) := by decide +kernel
theorem dX7_passes_184 : decode cX7_passes 184 = .ok (.iload_n 1, 1) := by decide +kernel
theorem dX7_passes_185 : decode cX7_passes 185 = .ok (.invokevirtual 78, 3) := by decide +kernel
theorem dX7_passes_188 : decode cX7_passes 188 = .ok (.iconst 1, 1) := by decide +kernel
theorem dX7_passes_189 : decode cX7_passes 189 = .ok (.ireturn, 1) := by decide +kernel
theorem dX7_ticks_0 : decode cX7_ticks 0 = .ok (.iconst 0, 1) := by decide +kernel
theorem dX7_ticks_1 : decode cX7_ticks 1 = .ok (.istore_n 1, 1) := by decide +kernel
theorem dX7_ticks_2 : decode cX7_ticks 2 = .ok (.aload_n 0, 1) := by decide +kernel
theorem dX7_ticks_3 : decode cX7_ticks 3 = .ok (.getfield 9, 3) := by decide +kernel
theorem dX7_ticks_6 : decode cX7_ticks 6 = .ok (.iconst 0, 1) := by decide +kernel
theorem dX7_ticks_7 : decode cX7_ticks 7 = .ok (.dup2, 1) := by decide +kernel
theorem dX7_ticks_8 : decode cX7_ticks 8 = .ok (.iaload, 1) := by decide +kernel
theorem dX7_ticks_9 : decode cX7_ticks 9 = .ok (.iconst 1, 1) := by decide +kernel
theorem dX7_ticks_10 : decode cX7_ticks 10 = .ok (.iadd, 1) := by decide +kernel
theorem dX7_ticks_11 : decode cX7_ticks 11 = .ok (.iastore, 1) := by decide +kernel
theorem dX7_ticks_12 : decode cX7_ticks 12 = .ok (.aload_n 0, 1) := by decide +kernel
theorem dX7_ticks_13 : decode cX7_ticks 13 = .ok (.invokevirtual 82, 3) := by decide +kernel
theorem dX7_ticks_16 : decode cX7_ticks 16 = .ok (.iconst 0, 1) := by decide +kernel
theorem dX7_ticks_17 : decode cX7_ticks 17 = .ok (.istore_n 2, 1) := by decide +kernel
theorem dX7_ticks_18 : decode cX7_ticks 18 = .ok (.iload_n 2, 1) := by decide +kernel
theorem dX7_ticks_19 : decode cX7_ticks 19 = .ok (.iconst 4, 1) := by decide +kernel
theorem dX7_ticks_20 : decode cX7_ticks 20 = .ok (.if_icmp .ge 43, 3) := by decide +kernel
theorem dX7_ticks_23 : decode cX7_ticks 23 = .ok (.aload_n 0, 1) := by decide +kernel
theorem dX7_ticks_24 : decode cX7_ticks 24 = .ok (.iload_n 2, 1) := by decide +kernel
theorem dX7_ticks_25 : decode cX7_ticks 25 = .ok (.invokevirtual 85, 3) := by decide +kernel
theorem dX7_ticks_28 : decode cX7_ticks 28 = .ok (.istore_n 3, 1) := by decide +kernel
theorem dX7_ticks_29 : decode cX7_ticks 29 = .ok (.aload_n 0, 1) := by decide +kernel
theorem dX7_ticks_30 : decode cX7_ticks 30 = .ok (.getfield 9, 3) := by decide +kernel
theorem dX7_ticks_33 : decode cX7_ticks 33 = .ok (.bipush 11, 2) := by decide +kernel
theorem dX7_ticks_35 : decode cX7_ticks 35 = .ok (.iload_n 2, 1) := by decide +kernel
theorem dX7_ticks_36 : decode cX7_ticks 36 = .ok (.iadd, 1) := by decide +kernel
theorem dX7_ticks_37 : decode cX7_ticks 37 = .ok (.dup2, 1) := by decide +kernel
theorem dX7_ticks_38 : decode cX7_ticks 38 = .ok (.iaload, 1) := by decide +kernel
theorem dX7_ticks_39 : decode cX7_ticks 39 = .ok (.iload_n 3, 1) := by decide +kernel
theorem dX7_ticks_40 : decode cX7_ticks 40 = .ok (.isub, 1) := by decide +kernel
theorem dX7_ticks_41 : decode cX7_ticks 41 = .ok (.iastore, 1) := by decide +kernel
theorem dX7_ticks_42 : decode cX7_ticks 42 = .ok (.aload_n 0, 1) := by decide +kernel
theorem dX7_ticks_43 : decode cX7_ticks 43 = .ok (.getfield 9, 3) := by decide +kernel
theorem dX7_ticks_46 : decode cX7_ticks 46 = .ok (.bipush 11, 2) := by decide +kernel
theorem dX7_ticks_48 : decode cX7_ticks 48 = .ok (.iload_n 2, 1) := by decide +kernel
theorem dX7_ticks_49 : decode cX7_ticks 49 = .ok (.iadd, 1) := by decide +kernel
theorem dX7_ticks_50 : decode cX7_ticks 50 = .ok (.iconst 1, 1) := by decide +kernel
theorem dX7_ticks_51 : decode cX7_ticks 51 = .ok (.iadd, 1) := by decide +kernel
theorem dX7_ticks_52 : decode cX7_ticks 52 = .ok (.dup2, 1) := by decide +kernel
theorem dX7_ticks_53 : decode cX7_ticks 53 = .ok (.iaload, 1) := by decide +kernel
theorem dX7_ticks_54 : decode cX7_ticks 54 = .ok (.iload_n 3, 1) := by decide +kernel
theorem dX7_ticks_55 : decode cX7_ticks 55 = .ok (.iadd, 1) := by decide +kernel
theorem dX7_ticks_56 : decode cX7_ticks 56 = .ok (.iastore, 1) := by decide +kernel
theorem dX7_ticks_57 : decode cX7_ticks 57 = .ok (.iinc 2 1, 3) := by decide +kernel
theorem dX7_ticks_60 : decode cX7_ticks 60 = .ok (.goto (-42), 3) := by decide +kernel
theorem dX7_ticks_63 : decode cX7_ticks 63 = .ok (.aload_n 0, 1) := by decide +kernel
theorem dX7_ticks_64 : decode cX7_ticks 64 = .ok (.iconst 0, 1) := by decide +kernel
theorem dX7_ticks_65 : decode cX7_ticks 65 = .ok (.putfield 68, 3) := by decide +kernel
theorem dX7_ticks_68 : decode cX7_ticks 68 = .ok (.iconst 0, 1) := by decide +kernel
theorem dX7_ticks_69 : decode cX7_ticks 69 = .ok (.istore_n 2, 1) := by decide +kernel
theorem dX7_ticks_70 : decode cX7_ticks 70 = .ok (.iload_n 2, 1) := by decide +kernel
theorem dX7_ticks_71 : decode cX7_ticks 71 = .ok (.iconst 3, 1) := by decide +kernel
theorem dX7_ticks_72 : decode cX7_ticks 72 = .ok (.if_icmp .ge 74, 3) := by decide +kernel
theorem dX7_ticks_75 : decode cX7_ticks 75 = .ok (.iconst 0, 1) := by decide +kernel
theorem dX7_ticks_76 : decode cX7_ticks 76 = .ok (.istore_n 3, 1) := by decide +kernel
theorem dX7_ticks_77 : decode cX7_ticks 77 = .ok (.iload_n 3, 1) := by decide +kernel
theorem dX7_ticks_78 : decode cX7_ticks 78 = .ok (.aload_n 0, 1) := by decide +kernel
theorem dX7_ticks_79 : decode cX7_ticks 79 = .ok (.getfield 9, 3) := by decide +kernel
theorem dX7_ticks_82 : decode cX7_ticks 82 = .ok (.bipush 6, 2) := by decide +kernel
theorem dX7_ticks_84 : decode cX7_ticks 84 = .ok (.iaload, 1) := by decide +kernel
theorem dX7_ticks_85 : decode cX7_ticks 85 = .ok (.if_icmp .ge 55, 3) := by decide +kernel
theorem dX7_ticks_88 : decode cX7_ticks 88 = .ok (.aload_n 0, 1) := by decide +kernel
theorem dX7_ticks_89 : decode cX7_ticks 89 = .ok (.iload_n 3, 1) := by decide +kernel
theorem dX7_ticks_90 : decode cX7_ticks 90 = .ok (.iconst 0, 1) := by decide +kernel
theorem dX7_ticks_91 : decode cX7_ticks 91 = .ok (.invokevirtual 61, 3) := by decide +kernel
theorem dX7_ticks_94 : decode cX7_ticks 94 = .ok (.iload_n 2, 1) := by decide +kernel
theorem dX7_ticks_95 : decode cX7_ticks 95 = .ok (.if_icmp .eq 6, 3) := by decide +kernel
theorem dX7_ticks_98 : decode cX7_ticks 98 = .ok (.goto 36, 3) := by decide +kernel
theorem dX7_ticks_101 : decode cX7_ticks 101 = .ok (.aload_n 0, 1) := by decide +kernel
theorem dX7_ticks_102 : decode cX7_ticks 102 = .ok (.iload_n 3, 1) := by decide +kernel
theorem dX7_ticks_103 : decode cX7_ticks 103 = .ok (.invokevirtual 88, 3) := by decide +kernel
theorem dX7_ticks_106 : decode cX7_ticks 106 = .ok (.istore 4, 2) := by decide +kernel
theorem dX7_ticks_108 : decode cX7_ticks 108 = .ok (.iload_n 1, 1) := by decide +kernel
theorem dX7_ticks_109 : decode cX7_ticks 109 = .ok (.iload 4, 2) := by decide +kernel
theorem dX7_ticks_111 : decode cX7_ticks 111 = .ok (.ifCond .eq 7, 3) := by decide +kernel
theorem dX7_ticks_114 : decode cX7_ticks 114 = .ok (.iconst 1, 1) := by decide +kernel
theorem dX7_ticks_115 : decode cX7_ticks 115 = .ok (.goto 4, 3) := by decide +kernel
theorem dX7_ticks_118 : decode cX7_ticks 118 = .ok (.iconst 0, 1) := by decide +kernel
theorem dX7_ticks_119 : decode cX7_ticks 119 = .ok (.iadd, 1) := by decide +kernel
theorem dX7_ticks_120 : decode cX7_ticks 120 = .ok (.istore_n 1, 1) := by decide +kernel
theorem dX7_ticks_121 : decode cX7_ticks 121 = .ok (.iload_n 3, 1) := by decide +kernel
theorem dX7_ticks_122 : decode cX7_ticks 122 = .ok (.iload 4, 2) := by decide +kernel
theorem dX7_ticks_124 : decode cX7_ticks 124 = .ok (.ifCond .eq 7, 3) := by decide +kernel
theorem dX7_ticks_127 : decode cX7_ticks 127 = .ok (.iconst 1, 1) := by decide +kernel
theorem dX7_ticks_128 : decode cX7_ticks 128 = .ok (.goto 4, 3) := by decide +kernel
theorem dX7_ticks_131 : decode cX7_ticks 131 = .ok (.iconst 0, 1) := by decide +kernel
theorem dX7_ticks_132 : decode cX7_ticks 132 = .ok (.isub, 1) := by decide +kernel
theorem dX7_ticks_133 : decode cX7_ticks 133 = .ok (.istore_n 3, 1) := by decide +kernel
theorem dX7_ticks_134 : decode cX7_ticks 134 = .ok (.iinc 3 1, 3) := by decide +kernel
theorem dX7_ticks_137 : decode cX7_ticks 137 = .ok (.goto (-60), 3) := by decide +kernel
theorem dX7_ticks_140 : decode cX7_ticks 140 = .ok (.iinc 2 1, 3) := by decide +kernel
theorem dX7_ticks_143 : decode cX7_ticks 143 = .ok (.goto (-73), 3) := by decide +kernel
theorem dX7_ticks_146 : decode cX7_ticks 146 = .ok (.iload_n 1, 1) := by decide +kernel
theorem dX7_ticks_147 : decode cX7_ticks 147 = .ok (.ireturn, 1) := by decide +kernel
theorem dX7_colourOf_0 : decode cX7_colourOf 0 = .ok (.iload_n 0, 1) := by decide +kernel
theorem dX7_colourOf_1 : decode cX7_colourOf 1 = .ok (.bipush 114, 2) := by decide +kernel
theorem dX7_colourOf_3 : decode cX7_colourOf 3 = .ok (.if_icmp .ne 7, 3) := by decide +kernel
theorem dX7_colourOf_6 : decode cX7_colourOf 6 = .ok (.iconst 0, 1) := by decide +kernel
theorem dX7_colourOf_7 : decode cX7_colourOf 7 = .ok (.goto 24, 3) := by decide +kernel
theorem dX7_colourOf_10 : decode cX7_colourOf 10 = .ok (.iload_n 0, 1) := by decide +kernel
theorem dX7_colourOf_11 : decode cX7_colourOf 11 = .ok (.bipush 103, 2) := by decide +kernel
theorem dX7_colourOf_13 : decode cX7_colourOf 13 = .ok (.if_icmp .ne 7, 3) := by decide +kernel
theorem dX7_colourOf_16 : decode cX7_colourOf 16 = .ok (.iconst 1, 1) := by decide +kernel
theorem dX7_colourOf_17 : decode cX7_colourOf 17 = .ok (.goto 14, 3) := by decide +kernel
theorem dX7_colourOf_20 : decode cX7_colourOf 20 = .ok (.iload_n 0, 1) := by decide +kernel
theorem dX7_colourOf_21 : decode cX7_colourOf 21 = .ok (.bipush 98, 2) := by decide +kernel
theorem dX7_colourOf_23 : decode cX7_colourOf 23 = .ok (.if_icmp .ne 7, 3) := by decide +kernel
theorem dX7_colourOf_26 : decode cX7_colourOf 26 = .ok (.iconst 2, 1) := by decide +kernel
theorem dX7_colourOf_27 : decode cX7_colourOf 27 = .ok (.goto 4, 3) := by decide +kernel
theorem dX7_colourOf_30 : decode cX7_colourOf 30 = .ok (.iconst (-1), 1) := by decide +kernel
theorem dX7_colourOf_31 : decode cX7_colourOf 31 = .ok (.ireturn, 1) := by decide +kernel
theorem dX7_signOf_0 : decode cX7_signOf 0 = .ok (.iload_n 0, 1) := by decide +kernel
theorem dX7_signOf_1 : decode cX7_signOf 1 = .ok (.ifCond .ne 8, 3) := by decide +kernel
theorem dX7_signOf_4 : decode cX7_signOf 4 = .ok (.bipush 114, 2) := by decide +kernel
theorem dX7_signOf_6 : decode cX7_signOf 6 = .ok (.goto 15, 3) := by decide +kernel
theorem dX7_signOf_9 : decode cX7_signOf 9 = .ok (.iload_n 0, 1) := by decide +kernel
theorem dX7_signOf_10 : decode cX7_signOf 10 = .ok (.iconst 1, 1) := by decide +kernel
theorem dX7_signOf_11 : decode cX7_signOf 11 = .ok (.if_icmp .ne 8, 3) := by decide +kernel
theorem dX7_signOf_14 : decode cX7_signOf 14 = .ok (.bipush 103, 2) := by decide +kernel
theorem dX7_signOf_16 : decode cX7_signOf 16 = .ok (.goto 5, 3) := by decide +kernel
theorem dX7_signOf_19 : decode cX7_signOf 19 = .ok (.bipush 98, 2) := by decide +kernel
theorem dX7_signOf_21 : decode cX7_signOf 21 = .ok (.ireturn, 1) := by decide +kernel
theorem dX7_adds_0 : decode cX7_adds 0 = .ok (.iload_n 1, 1) := by decide +kernel
theorem dX7_adds_1 : decode cX7_adds 1 = .ok (.ifCond .lt 13, 3) := by decide +kernel
theorem dX7_adds_4 : decode cX7_adds 4 = .ok (.iload_n 2, 1) := by decide +kernel
theorem dX7_adds_5 : decode cX7_adds 5 = .ok (.iconst 1, 1) := by decide +kernel
theorem dX7_adds_6 : decode cX7_adds 6 = .ok (.bipush 9, 2) := by decide +kernel
theorem dX7_adds_8 : decode cX7_adds 8 = .ok (.invokestatic 43, 3) := by decide +kernel
theorem dX7_adds_11 : decode cX7_adds 11 = .ok (.ifCond .ne 5, 3) := by decide +kernel
theorem dX7_adds_14 : decode cX7_adds 14 = .ok (.iconst 2, 1) := by decide +kernel
theorem dX7_adds_15 : decode cX7_adds 15 = .ok (.ireturn, 1) := by decide +kernel
theorem dX7_adds_16 : decode cX7_adds 16 = .ok (.aload_n 0, 1) := by decide +kernel
theorem dX7_adds_17 : decode cX7_adds 17 = .ok (.getfield 9, 3) := by decide +kernel
theorem dX7_adds_20 : decode cX7_adds 20 = .ok (.bipush 6, 2) := by decide +kernel
theorem dX7_adds_22 : decode cX7_adds 22 = .ok (.iaload, 1) := by decide +kernel
theorem dX7_adds_23 : decode cX7_adds 23 = .ok (.istore 4, 2) := by decide +kernel
theorem dX7_adds_25 : decode cX7_adds 25 = .ok (.iload 4, 2) := by decide +kernel
theorem dX7_adds_27 : decode cX7_adds 27 = .ok (.bipush 8, 2) := by decide +kernel
theorem dX7_adds_29 : decode cX7_adds 29 = .ok (.if_icmp .ne 5, 3) := by decide +kernel
theorem dX7_adds_32 : decode cX7_adds 32 = .ok (.iconst 3, 1) := by decide +kernel
theorem dX7_adds_33 : decode cX7_adds 33 = .ok (.ireturn, 1) := by decide +kernel
theorem dX7_adds_34 : decode cX7_adds 34 = .ok (.aload_n 0, 1) := by decide +kernel
theorem dX7_adds_35 : decode cX7_adds 35 = .ok (.getfield 9, 3) := by decide +kernel
theorem dX7_adds_38 : decode cX7_adds 38 = .ok (.bipush 6, 2) := by decide +kernel
theorem dX7_adds_40 : decode cX7_adds 40 = .ok (.dup2, 1) := by decide +kernel
theorem dX7_adds_41 : decode cX7_adds 41 = .ok (.iaload, 1) := by decide +kernel
theorem dX7_adds_42 : decode cX7_adds 42 = .ok (.iconst 1, 1) := by decide +kernel
theorem dX7_adds_43 : decode cX7_adds 43 = .ok (.iadd, 1) := by decide +kernel
theorem dX7_adds_44 : decode cX7_adds 44 = .ok (.iastore, 1) := by decide +kernel
theorem dX7_adds_45 : decode cX7_adds 45 = .ok (.aload_n 0, 1) := by decide +kernel
theorem dX7_adds_46 : decode cX7_adds 46 = .ok (.iload 4, 2) := by decide +kernel
theorem dX7_adds_48 : decode cX7_adds 48 = .ok (.iconst 0, 1) := by decide +kernel
theorem dX7_adds_49 : decode cX7_adds 49 = .ok (.iload_n 1, 1) := by decide +kernel
theorem dX7_adds_50 : decode cX7_adds 50 = .ok (.invokevirtual 64, 3) := by decide +kernel
theorem dX7_adds_53 : decode cX7_adds 53 = .ok (.aload_n 0, 1) := by decide +kernel
theorem dX7_adds_54 : decode cX7_adds 54 = .ok (.iload 4, 2) := by decide +kernel
theorem dX7_adds_56 : decode cX7_adds 56 = .ok (.iconst 1, 1) := by decide +kernel
theorem dX7_adds_57 : decode cX7_adds 57 = .ok (.iload_n 2, 1) := by decide +kernel
theorem dX7_adds_58 : decode cX7_adds 58 = .ok (.invokevirtual 64, 3) := by decide +kernel
theorem dX7_adds_61 : decode cX7_adds 61 = .ok (.aload_n 0, 1) := by decide +kernel
theorem dX7_adds_62 : decode cX7_adds 62 = .ok (.iload 4, 2) := by decide +kernel
theorem dX7_adds_64 : decode cX7_adds 64 = .ok (.iconst 2, 1) := by decide +kernel
theorem dX7_adds_65 : decode cX7_adds 65 = .ok (.iload_n 3, 1) := by decide +kernel
theorem dX7_adds_66 : decode cX7_adds 66 = .ok (.invokevirtual 64, 3) := by decide +kernel
theorem dX7_adds_69 : decode cX7_adds 69 = .ok (.aload_n 0, 1) := by decide +kernel
theorem dX7_adds_70 : decode cX7_adds 70 = .ok (.iload 4, 2) := by decide +kernel
theorem dX7_adds_72 : decode cX7_adds 72 = .ok (.iconst 3, 1) := by decide +kernel
theorem dX7_adds_73 : decode cX7_adds 73 = .ok (.iload_n 3, 1) := by decide +kernel
theorem dX7_adds_74 : decode cX7_adds 74 = .ok (.iconst 1, 1) := by decide +kernel
theorem dX7_adds_75 : decode cX7_adds 75 = .ok (.if_icmp .ne 7, 3) := by decide +kernel
theorem dX7_adds_78 : decode cX7_adds 78 = .ok (.iconst 0, 1) := by decide +kernel
theorem dX7_adds_79 : decode cX7_adds 79 = .ok (.goto 4, 3) := by decide +kernel
theorem dX7_adds_82 : decode cX7_adds 82 = .ok (.iconst 4, 1) := by decide +kernel
theorem dX7_adds_83 : decode cX7_adds 83 = .ok (.invokevirtual 64, 3) := by decide +kernel
theorem dX7_adds_86 : decode cX7_adds 86 = .ok (.aload_n 0, 1) := by decide +kernel
theorem dX7_adds_87 : decode cX7_adds 87 = .ok (.iload 4, 2) := by decide +kernel
theorem dX7_adds_89 : decode cX7_adds 89 = .ok (.iconst 4, 1) := by decide +kernel
theorem dX7_adds_90 : decode cX7_adds 90 = .ok (.iconst 0, 1) := by decide +kernel
theorem dX7_adds_91 : decode cX7_adds 91 = .ok (.invokevirtual 64, 3) := by decide +kernel
theorem dX7_adds_94 : decode cX7_adds 94 = .ok (.aload_n 0, 1) := by decide +kernel
theorem dX7_adds_95 : decode cX7_adds 95 = .ok (.iload 4, 2) := by decide +kernel
theorem dX7_adds_97 : decode cX7_adds 97 = .ok (.putfield 40, 3) := by decide +kernel
theorem dX7_adds_100 : decode cX7_adds 100 = .ok (.iconst 0, 1) := by decide +kernel
theorem dX7_adds_101 : decode cX7_adds 101 = .ok (.ireturn, 1) := by decide +kernel
theorem dX7_addBoat_0 : decode cX7_addBoat 0 = .ok (.aload_n 0, 1) := by decide +kernel
theorem dX7_addBoat_1 : decode cX7_addBoat 1 = .ok (.invokevirtual 92, 3) := by decide +kernel
theorem dX7_addBoat_4 : decode cX7_addBoat 4 = .ok (.aload_n 0, 1) := by decide +kernel
theorem dX7_addBoat_5 : decode cX7_addBoat 5 = .ok (.aload_n 0, 1) := by decide +kernel
theorem dX7_addBoat_6 : decode cX7_addBoat 6 = .ok (.iload_n 1, 1) := by decide +kernel
theorem dX7_addBoat_7 : decode cX7_addBoat 7 = .ok (.invokestatic 95, 3) := by decide +kernel
theorem dX7_addBoat_10 : decode cX7_addBoat 10 = .ok (.iload_n 2, 1) := by decide +kernel
theorem dX7_addBoat_11 : decode cX7_addBoat 11 = .ok (.iload_n 3, 1) := by decide +kernel
theorem dX7_addBoat_12 : decode cX7_addBoat 12 = .ok (.ifCond .eq 7, 3) := by decide +kernel
theorem dX7_addBoat_15 : decode cX7_addBoat 15 = .ok (.iconst 1, 1) := by decide +kernel
theorem dX7_addBoat_16 : decode cX7_addBoat 16 = .ok (.goto 4, 3) := by decide +kernel
theorem dX7_addBoat_19 : decode cX7_addBoat 19 = .ok (.iconst 0, 1) := by decide +kernel
theorem dX7_addBoat_20 : decode cX7_addBoat 20 = .ok (.invokevirtual 98, 3) := by decide +kernel
theorem dX7_addBoat_23 : decode cX7_addBoat 23 = .ok (.iconst 0, 1) := by decide +kernel
theorem dX7_addBoat_24 : decode cX7_addBoat 24 = .ok (.iconst 1, 1) := by decide +kernel
theorem dX7_addBoat_25 : decode cX7_addBoat 25 = .ok (.iconst 2, 1) := by decide +kernel
theorem dX7_addBoat_26 : decode cX7_addBoat 26 = .ok (.iconst 0, 1) := by decide +kernel
theorem dX7_addBoat_27 : decode cX7_addBoat 27 = .ok (.invokevirtual 102, 3) := by decide +kernel
theorem dX7_addBoat_30 : decode cX7_addBoat 30 = .ok (.ireturn, 1) := by decide +kernel
theorem dX7_turns_0 : decode cX7_turns 0 = .ok (.iload_n 1, 1) := by decide +kernel
theorem dX7_turns_1 : decode cX7_turns 1 = .ok (.invokestatic 106, 3) := by decide +kernel
theorem dX7_turns_4 : decode cX7_turns 4 = .ok (.ifCond .ne 5, 3) := by decide +kernel
theorem dX7_turns_7 : decode cX7_turns 7 = .ok (.iconst 1, 1) := by decide +kernel
theorem dX7_turns_8 : decode cX7_turns 8 = .ok (.ireturn, 1) := by decide +kernel
theorem dX7_turns_9 : decode cX7_turns 9 = .ok (.iload_n 2, 1) := by decide +kernel
theorem dX7_turns_10 : decode cX7_turns 10 = .ok (.iconst 0, 1) := by decide +kernel
theorem dX7_turns_11 : decode cX7_turns 11 = .ok (.iconst 3, 1) := by decide +kernel
theorem dX7_turns_12 : decode cX7_turns 12 = .ok (.invokestatic 43, 3) := by decide +kernel
theorem dX7_turns_15 : decode cX7_turns 15 = .ok (.ifCond .ne 5, 3) := by decide +kernel
theorem dX7_turns_18 : decode cX7_turns 18 = .ok (.iconst 2, 1) := by decide +kernel
theorem dX7_turns_19 : decode cX7_turns 19 = .ok (.ireturn, 1) := by decide +kernel
theorem dX7_turns_20 : decode cX7_turns 20 = .ok (.aload_n 0, 1) := by decide +kernel
theorem dX7_turns_21 : decode cX7_turns 21 = .ok (.aload_n 0, 1) := by decide +kernel
theorem dX7_turns_22 : decode cX7_turns 22 = .ok (.getfield 9, 3) := by decide +kernel
theorem dX7_turns_25 : decode cX7_turns 25 = .ok (.bipush 16, 2) := by decide +kernel
theorem dX7_turns_27 : decode cX7_turns 27 = .ok (.iload_n 1, 1) := by decide +kernel
theorem dX7_turns_28 : decode cX7_turns 28 = .ok (.iadd, 1) := by decide +kernel
theorem dX7_turns_29 : decode cX7_turns 29 = .ok (.iaload, 1) := by decide +kernel
theorem dX7_turns_30 : decode cX7_turns 30 = .ok (.putfield 40, 3) := by decide +kernel
theorem dX7_turns_33 : decode cX7_turns 33 = .ok (.aload_n 0, 1) := by decide +kernel
theorem dX7_turns_34 : decode cX7_turns 34 = .ok (.getfield 9, 3) := by decide +kernel
theorem dX7_turns_37 : decode cX7_turns 37 = .ok (.bipush 16, 2) := by decide +kernel
theorem dX7_turns_39 : decode cX7_turns 39 = .ok (.iload_n 1, 1) := by decide +kernel
theorem dX7_turns_40 : decode cX7_turns 40 = .ok (.iadd, 1) := by decide +kernel
theorem dX7_turns_41 : decode cX7_turns 41 = .ok (.iload_n 2, 1) := by decide +kernel
theorem dX7_turns_42 : decode cX7_turns 42 = .ok (.iastore, 1) := by decide +kernel
theorem dX7_turns_43 : decode cX7_turns 43 = .ok (.iconst 0, 1) := by decide +kernel
theorem dX7_turns_44 : decode cX7_turns 44 = .ok (.ireturn, 1) := by decide +kernel
theorem dX7_setValve_0 : decode cX7_setValve 0 = .ok (.aload_n 0, 1) := by decide +kernel
theorem dX7_setValve_1 : decode cX7_setValve 1 = .ok (.invokevirtual 92, 3) := by decide +kernel
theorem dX7_setValve_4 : decode cX7_setValve 4 = .ok (.aload_n 0, 1) := by decide +kernel
theorem dX7_setValve_5 : decode cX7_setValve 5 = .ok (.aload_n 0, 1) := by decide +kernel
theorem dX7_setValve_6 : decode cX7_setValve 6 = .ok (.iload_n 1, 1) := by decide +kernel
theorem dX7_setValve_7 : decode cX7_setValve 7 = .ok (.iload_n 2, 1) := by decide +kernel
theorem dX7_setValve_8 : decode cX7_setValve 8 = .ok (.invokevirtual 109, 3) := by decide +kernel
theorem dX7_setValve_11 : decode cX7_setValve 11 = .ok (.iconst 1, 1) := by decide +kernel
theorem dX7_setValve_12 : decode cX7_setValve 12 = .ok (.iconst 2, 1) := by decide +kernel
theorem dX7_setValve_13 : decode cX7_setValve 13 = .ok (.iconst 0, 1) := by decide +kernel
theorem dX7_setValve_14 : decode cX7_setValve 14 = .ok (.iconst 0, 1) := by decide +kernel
theorem dX7_setValve_15 : decode cX7_setValve 15 = .ok (.invokevirtual 102, 3) := by decide +kernel
theorem dX7_setValve_18 : decode cX7_setValve 18 = .ok (.ireturn, 1) := by decide +kernel
theorem dX7_openGates_0 : decode cX7_openGates 0 = .ok (.aload_n 0, 1) := by decide +kernel
theorem dX7_openGates_1 : decode cX7_openGates 1 = .ok (.getfield 9, 3) := by decide +kernel
theorem dX7_openGates_4 : decode cX7_openGates 4 = .ok (.bipush 20, 2) := by decide +kernel
theorem dX7_openGates_6 : decode cX7_openGates 6 = .ok (.iaload, 1) := by decide +kernel
theorem dX7_openGates_7 : decode cX7_openGates 7 = .ok (.aload_n 0, 1) := by decide +kernel
theorem dX7_openGates_8 : decode cX7_openGates 8 = .ok (.getfield 9, 3) := by decide +kernel
theorem dX7_openGates_11 : decode cX7_openGates 11 = .ok (.bipush 21, 2) := by decide +kernel
theorem dX7_openGates_13 : decode cX7_openGates 13 = .ok (.iaload, 1) := by decide +kernel
theorem dX7_openGates_14 : decode cX7_openGates 14 = .ok (.iadd, 1) := by decide +kernel
theorem dX7_openGates_15 : decode cX7_openGates 15 = .ok (.aload_n 0, 1) := by decide +kernel
theorem dX7_openGates_16 : decode cX7_openGates 16 = .ok (.getfield 9, 3) := by decide +kernel
theorem dX7_openGates_19 : decode cX7_openGates 19 = .ok (.bipush 22, 2) := by decide +kernel
theorem dX7_openGates_21 : decode cX7_openGates 21 = .ok (.iaload, 1) := by decide +kernel
theorem dX7_openGates_22 : decode cX7_openGates 22 = .ok (.iadd, 1) := by decide +kernel
theorem dX7_openGates_23 : decode cX7_openGates 23 = .ok (.aload_n 0, 1) := by decide +kernel
theorem dX7_openGates_24 : decode cX7_openGates 24 = .ok (.getfield 9, 3) := by decide +kernel
theorem dX7_openGates_27 : decode cX7_openGates 27 = .ok (.bipush 23, 2) := by decide +kernel
theorem dX7_openGates_29 : decode cX7_openGates 29 = .ok (.iaload, 1) := by decide +kernel
theorem dX7_openGates_30 : decode cX7_openGates 30 = .ok (.iadd, 1) := by decide +kernel
theorem dX7_openGates_31 : decode cX7_openGates 31 = .ok (.ireturn, 1) := by decide +kernel
theorem dX7_opens_0 : decode cX7_opens 0 = .ok (.iload_n 1, 1) := by decide +kernel
theorem dX7_opens_1 : decode cX7_opens 1 = .ok (.invokestatic 106, 3) := by decide +kernel
theorem dX7_opens_4 : decode cX7_opens 4 = .ok (.ifCond .ne 5, 3) := by decide +kernel
theorem dX7_opens_7 : decode cX7_opens 7 = .ok (.iconst 1, 1) := by decide +kernel
theorem dX7_opens_8 : decode cX7_opens 8 = .ok (.ireturn, 1) := by decide +kernel
theorem dX7_opens_9 : decode cX7_opens 9 = .ok (.aload_n 0, 1) := by decide +kernel
theorem dX7_opens_10 : decode cX7_opens 10 = .ok (.getfield 9, 3) := by decide +kernel
theorem dX7_opens_13 : decode cX7_opens 13 = .ok (.bipush 20, 2) := by decide +kernel
theorem dX7_opens_15 : decode cX7_opens 15 = .ok (.iload_n 1, 1) := by decide +kernel
theorem dX7_opens_16 : decode cX7_opens 16 = .ok (.iadd, 1) := by decide +kernel
theorem dX7_opens_17 : decode cX7_opens 17 = .ok (.iaload, 1) := by decide +kernel
theorem dX7_opens_18 : decode cX7_opens 18 = .ok (.iconst 1, 1) := by decide +kernel
theorem dX7_opens_19 : decode cX7_opens 19 = .ok (.if_icmp .ne 5, 3) := by decide +kernel
theorem dX7_opens_22 : decode cX7_opens 22 = .ok (.iconst 3, 1) := by decide +kernel
theorem dX7_opens_23 : decode cX7_opens 23 = .ok (.ireturn, 1) := by decide +kernel
theorem dX7_opens_24 : decode cX7_opens 24 = .ok (.aload_n 0, 1) := by decide +kernel
theorem dX7_opens_25 : decode cX7_opens 25 = .ok (.iload_n 1, 1) := by decide +kernel
theorem dX7_opens_26 : decode cX7_opens 26 = .ok (.invokevirtual 55, 3) := by decide +kernel
theorem dX7_opens_29 : decode cX7_opens 29 = .ok (.ifCond .eq 5, 3) := by decide +kernel
theorem dX7_opens_32 : decode cX7_opens 32 = .ok (.iconst 4, 1) := by decide +kernel
theorem dX7_opens_33 : decode cX7_opens 33 = .ok (.ireturn, 1) := by decide +kernel
theorem dX7_opens_34 : decode cX7_opens 34 = .ok (.aload_n 0, 1) := by decide +kernel
theorem dX7_opens_35 : decode cX7_opens 35 = .ok (.getfield 9, 3) := by decide +kernel
theorem dX7_opens_38 : decode cX7_opens 38 = .ok (.bipush 20, 2) := by decide +kernel
theorem dX7_opens_40 : decode cX7_opens 40 = .ok (.iload_n 1, 1) := by decide +kernel
theorem dX7_opens_41 : decode cX7_opens 41 = .ok (.iadd, 1) := by decide +kernel
theorem dX7_opens_42 : decode cX7_opens 42 = .ok (.iconst 1, 1) := by decide +kernel
theorem dX7_opens_43 : decode cX7_opens 43 = .ok (.iastore, 1) := by decide +kernel
theorem dX7_opens_44 : decode cX7_opens 44 = .ok (.aload_n 0, 1) := by decide +kernel
theorem dX7_opens_45 : decode cX7_opens 45 = .ok (.aload_n 0, 1) := by decide +kernel
theorem dX7_opens_46 : decode cX7_opens 46 = .ok (.invokevirtual 112, 3) := by decide +kernel
theorem dX7_opens_49 : decode cX7_opens 49 = .ok (.putfield 40, 3) := by decide +kernel
theorem dX7_opens_52 : decode cX7_opens 52 = .ok (.iconst 0, 1) := by decide +kernel
theorem dX7_opens_53 : decode cX7_opens 53 = .ok (.ireturn, 1) := by decide +kernel
theorem dX7_openGate_0 : decode cX7_openGate 0 = .ok (.aload_n 0, 1) := by decide +kernel
theorem dX7_openGate_1 : decode cX7_openGate 1 = .ok (.invokevirtual 92, 3) := by decide +kernel
theorem dX7_openGate_4 : decode cX7_openGate 4 = .ok (.aload_n 0, 1) := by decide +kernel
theorem dX7_openGate_5 : decode cX7_openGate 5 = .ok (.aload_n 0, 1) := by decide +kernel
theorem dX7_openGate_6 : decode cX7_openGate 6 = .ok (.iload_n 1, 1) := by decide +kernel
theorem dX7_openGate_7 : decode cX7_openGate 7 = .ok (.invokevirtual 116, 3) := by decide +kernel
theorem dX7_openGate_10 : decode cX7_openGate 10 = .ok (.iconst 1, 1) := by decide +kernel
theorem dX7_openGate_11 : decode cX7_openGate 11 = .ok (.iconst 0, 1) := by decide +kernel
theorem dX7_openGate_12 : decode cX7_openGate 12 = .ok (.iconst 2, 1) := by decide +kernel
theorem dX7_openGate_13 : decode cX7_openGate 13 = .ok (.iconst 3, 1) := by decide +kernel
theorem dX7_openGate_14 : decode cX7_openGate 14 = .ok (.invokevirtual 102, 3) := by decide +kernel
theorem dX7_openGate_17 : decode cX7_openGate 17 = .ok (.ireturn, 1) := by decide +kernel
theorem dX7_shuts_0 : decode cX7_shuts 0 = .ok (.iload_n 1, 1) := by decide +kernel
theorem dX7_shuts_1 : decode cX7_shuts 1 = .ok (.invokestatic 106, 3) := by decide +kernel
theorem dX7_shuts_4 : decode cX7_shuts 4 = .ok (.ifCond .ne 5, 3) := by decide +kernel
theorem dX7_shuts_7 : decode cX7_shuts 7 = .ok (.iconst 1, 1) := by decide +kernel
theorem dX7_shuts_8 : decode cX7_shuts 8 = .ok (.ireturn, 1) := by decide +kernel
theorem dX7_shuts_9 : decode cX7_shuts 9 = .ok (.aload_n 0, 1) := by decide +kernel
theorem dX7_shuts_10 : decode cX7_shuts 10 = .ok (.getfield 9, 3) := by decide +kernel
theorem dX7_shuts_13 : decode cX7_shuts 13 = .ok (.bipush 20, 2) := by decide +kernel
theorem dX7_shuts_15 : decode cX7_shuts 15 = .ok (.iload_n 1, 1) := by decide +kernel
theorem dX7_shuts_16 : decode cX7_shuts 16 = .ok (.iadd, 1) := by decide +kernel
theorem dX7_shuts_17 : decode cX7_shuts 17 = .ok (.iaload, 1) := by decide +kernel
theorem dX7_shuts_18 : decode cX7_shuts 18 = .ok (.ifCond .ne 5, 3) := by decide +kernel
theorem dX7_shuts_21 : decode cX7_shuts 21 = .ok (.iconst 3, 1) := by decide +kernel
theorem dX7_shuts_22 : decode cX7_shuts 22 = .ok (.ireturn, 1) := by decide +kernel
theorem dX7_shuts_23 : decode cX7_shuts 23 = .ok (.aload_n 0, 1) := by decide +kernel
theorem dX7_shuts_24 : decode cX7_shuts 24 = .ok (.getfield 9, 3) := by decide +kernel
theorem dX7_shuts_27 : decode cX7_shuts 27 = .ok (.bipush 20, 2) := by decide +kernel
theorem dX7_shuts_29 : decode cX7_shuts 29 = .ok (.iload_n 1, 1) := by decide +kernel
theorem dX7_shuts_30 : decode cX7_shuts 30 = .ok (.iadd, 1) := by decide +kernel
theorem dX7_shuts_31 : decode cX7_shuts 31 = .ok (.iconst 0, 1) := by decide +kernel
theorem dX7_shuts_32 : decode cX7_shuts 32 = .ok (.iastore, 1) := by decide +kernel
theorem dX7_shuts_33 : decode cX7_shuts 33 = .ok (.aload_n 0, 1) := by decide +kernel
theorem dX7_shuts_34 : decode cX7_shuts 34 = .ok (.aload_n 0, 1) := by decide +kernel
theorem dX7_shuts_35 : decode cX7_shuts 35 = .ok (.invokevirtual 112, 3) := by decide +kernel
theorem dX7_shuts_38 : decode cX7_shuts 38 = .ok (.putfield 40, 3) := by decide +kernel
theorem dX7_shuts_41 : decode cX7_shuts 41 = .ok (.iconst 0, 1) := by decide +kernel
theorem dX7_shuts_42 : decode cX7_shuts 42 = .ok (.ireturn, 1) := by decide +kernel
theorem dX7_shutGate_0 : decode cX7_shutGate 0 = .ok (.aload_n 0, 1) := by decide +kernel
theorem dX7_shutGate_1 : decode cX7_shutGate 1 = .ok (.invokevirtual 92, 3) := by decide +kernel
theorem dX7_shutGate_4 : decode cX7_shutGate 4 = .ok (.aload_n 0, 1) := by decide +kernel
theorem dX7_shutGate_5 : decode cX7_shutGate 5 = .ok (.aload_n 0, 1) := by decide +kernel
theorem dX7_shutGate_6 : decode cX7_shutGate 6 = .ok (.iload_n 1, 1) := by decide +kernel
theorem dX7_shutGate_7 : decode cX7_shutGate 7 = .ok (.invokevirtual 119, 3) := by decide +kernel
theorem dX7_shutGate_10 : decode cX7_shutGate 10 = .ok (.iconst 1, 1) := by decide +kernel
theorem dX7_shutGate_11 : decode cX7_shutGate 11 = .ok (.iconst 0, 1) := by decide +kernel
theorem dX7_shutGate_12 : decode cX7_shutGate 12 = .ok (.iconst 2, 1) := by decide +kernel
theorem dX7_shutGate_13 : decode cX7_shutGate 13 = .ok (.iconst 0, 1) := by decide +kernel
theorem dX7_shutGate_14 : decode cX7_shutGate 14 = .ok (.invokevirtual 102, 3) := by decide +kernel
theorem dX7_shutGate_17 : decode cX7_shutGate 17 = .ok (.ireturn, 1) := by decide +kernel
theorem dX7_weather_0 : decode cX7_weather 0 = .ok (.iload_n 2, 1) := by decide +kernel
theorem dX7_weather_1 : decode cX7_weather 1 = .ok (.iconst 0, 1) := by decide +kernel
theorem dX7_weather_2 : decode cX7_weather 2 = .ok (.bipush 9, 2) := by decide +kernel
theorem dX7_weather_4 : decode cX7_weather 4 = .ok (.invokestatic 43, 3) := by decide +kernel
theorem dX7_weather_7 : decode cX7_weather 7 = .ok (.ifCond .ne 5, 3) := by decide +kernel
theorem dX7_weather_10 : decode cX7_weather 10 = .ok (.iconst 2, 1) := by decide +kernel
theorem dX7_weather_11 : decode cX7_weather 11 = .ok (.ireturn, 1) := by decide +kernel
theorem dX7_weather_12 : decode cX7_weather 12 = .ok (.aload_n 0, 1) := by decide +kernel
theorem dX7_weather_13 : decode cX7_weather 13 = .ok (.aload_n 0, 1) := by decide +kernel
theorem dX7_weather_14 : decode cX7_weather 14 = .ok (.getfield 9, 3) := by decide +kernel
theorem dX7_weather_17 : decode cX7_weather 17 = .ok (.iload_n 1, 1) := by decide +kernel
theorem dX7_weather_18 : decode cX7_weather 18 = .ok (.iaload, 1) := by decide +kernel
theorem dX7_weather_19 : decode cX7_weather 19 = .ok (.putfield 40, 3) := by decide +kernel
theorem dX7_weather_22 : decode cX7_weather 22 = .ok (.aload_n 0, 1) := by decide +kernel
theorem dX7_weather_23 : decode cX7_weather 23 = .ok (.getfield 9, 3) := by decide +kernel
theorem dX7_weather_26 : decode cX7_weather 26 = .ok (.iload_n 1, 1) := by decide +kernel
theorem dX7_weather_27 : decode cX7_weather 27 = .ok (.iload_n 2, 1) := by decide +kernel
theorem dX7_weather_28 : decode cX7_weather 28 = .ok (.iastore, 1) := by decide +kernel
theorem dX7_weather_29 : decode cX7_weather 29 = .ok (.iconst 0, 1) := by decide +kernel
theorem dX7_weather_30 : decode cX7_weather 30 = .ok (.ireturn, 1) := by decide +kernel
theorem dX7_setRain_0 : decode cX7_setRain 0 = .ok (.aload_n 0, 1) := by decide +kernel
theorem dX7_setRain_1 : decode cX7_setRain 1 = .ok (.invokevirtual 92, 3) := by decide +kernel
theorem dX7_setRain_4 : decode cX7_setRain 4 = .ok (.aload_n 0, 1) := by decide +kernel
theorem dX7_setRain_5 : decode cX7_setRain 5 = .ok (.aload_n 0, 1) := by decide +kernel
theorem dX7_setRain_6 : decode cX7_setRain 6 = .ok (.iconst 1, 1) := by decide +kernel
theorem dX7_setRain_7 : decode cX7_setRain 7 = .ok (.iload_n 1, 1) := by decide +kernel
theorem dX7_setRain_8 : decode cX7_setRain 8 = .ok (.invokevirtual 122, 3) := by decide +kernel
theorem dX7_setRain_11 : decode cX7_setRain 11 = .ok (.iconst 0, 1) := by decide +kernel
theorem dX7_setRain_12 : decode cX7_setRain 12 = .ok (.iconst 1, 1) := by decide +kernel
theorem dX7_setRain_13 : decode cX7_setRain 13 = .ok (.iconst 0, 1) := by decide +kernel
theorem dX7_setRain_14 : decode cX7_setRain 14 = .ok (.iconst 0, 1) := by decide +kernel
theorem dX7_setRain_15 : decode cX7_setRain 15 = .ok (.invokevirtual 102, 3) := by decide +kernel
theorem dX7_setRain_18 : decode cX7_setRain 18 = .ok (.ireturn, 1) := by decide +kernel
theorem dX7_setDrain_0 : decode cX7_setDrain 0 = .ok (.aload_n 0, 1) := by decide +kernel
theorem dX7_setDrain_1 : decode cX7_setDrain 1 = .ok (.invokevirtual 92, 3) := by decide +kernel
theorem dX7_setDrain_4 : decode cX7_setDrain 4 = .ok (.aload_n 0, 1) := by decide +kernel
theorem dX7_setDrain_5 : decode cX7_setDrain 5 = .ok (.aload_n 0, 1) := by decide +kernel
theorem dX7_setDrain_6 : decode cX7_setDrain 6 = .ok (.iconst 2, 1) := by decide +kernel
theorem dX7_setDrain_7 : decode cX7_setDrain 7 = .ok (.iload_n 1, 1) := by decide +kernel
theorem dX7_setDrain_8 : decode cX7_setDrain 8 = .ok (.invokevirtual 122, 3) := by decide +kernel
theorem dX7_setDrain_11 : decode cX7_setDrain 11 = .ok (.iconst 0, 1) := by decide +kernel
theorem dX7_setDrain_12 : decode cX7_setDrain 12 = .ok (.iconst 1, 1) := by decide +kernel
theorem dX7_setDrain_13 : decode cX7_setDrain 13 = .ok (.iconst 0, 1) := by decide +kernel
theorem dX7_setDrain_14 : decode cX7_setDrain 14 = .ok (.iconst 0, 1) := by decide +kernel
theorem dX7_setDrain_15 : decode cX7_setDrain 15 = .ok (.invokevirtual 102, 3) := by decide +kernel
theorem dX7_setDrain_18 : decode cX7_setDrain 18 = .ok (.ireturn, 1) := by decide +kernel
theorem dX7_waits_0 : decode cX7_waits 0 = .ok (.iload_n 1, 1) := by decide +kernel
theorem dX7_waits_1 : decode cX7_waits 1 = .ok (.iconst 1, 1) := by decide +kernel
theorem dX7_waits_2 : decode cX7_waits 2 = .ok (.sipush 200, 3) := by decide +kernel
theorem dX7_waits_5 : decode cX7_waits 5 = .ok (.invokestatic 43, 3) := by decide +kernel
theorem dX7_waits_8 : decode cX7_waits 8 = .ok (.ifCond .ne 5, 3) := by decide +kernel
theorem dX7_waits_11 : decode cX7_waits 11 = .ok (.iconst 2, 1) := by decide +kernel
theorem dX7_waits_12 : decode cX7_waits 12 = .ok (.ireturn, 1) := by decide +kernel
theorem dX7_waits_13 : decode cX7_waits 13 = .ok (.aload_n 0, 1) := by decide +kernel
theorem dX7_waits_14 : decode cX7_waits 14 = .ok (.iconst 0, 1) := by decide +kernel
theorem dX7_waits_15 : decode cX7_waits 15 = .ok (.putfield 40, 3) := by decide +kernel
theorem dX7_waits_18 : decode cX7_waits 18 = .ok (.iconst 0, 1) := by decide +kernel
theorem dX7_waits_19 : decode cX7_waits 19 = .ok (.istore_n 2, 1) := by decide +kernel
theorem dX7_waits_20 : decode cX7_waits 20 = .ok (.iload_n 2, 1) := by decide +kernel
theorem dX7_waits_21 : decode cX7_waits 21 = .ok (.iload_n 1, 1) := by decide +kernel
theorem dX7_waits_22 : decode cX7_waits 22 = .ok (.if_icmp .ge 22, 3) := by decide +kernel
theorem dX7_waits_25 : decode cX7_waits 25 = .ok (.aload_n 0, 1) := by decide +kernel
theorem dX7_waits_26 : decode cX7_waits 26 = .ok (.dup, 1) := by decide +kernel
theorem dX7_waits_27 : decode cX7_waits 27 = .ok (.getfield 40, 3) := by decide +kernel
theorem dX7_waits_30 : decode cX7_waits 30 = .ok (.aload_n 0, 1) := by decide +kernel
theorem dX7_waits_31 : decode cX7_waits 31 = .ok (.invokevirtual 125, 3) := by decide +kernel
theorem dX7_waits_34 : decode cX7_waits 34 = .ok (.iadd, 1) := by decide +kernel
theorem dX7_waits_35 : decode cX7_waits 35 = .ok (.putfield 40, 3) := by decide +kernel
theorem dX7_waits_38 : decode cX7_waits 38 = .ok (.iinc 2 1, 3) := by decide +kernel
theorem dX7_waits_41 : decode cX7_waits 41 = .ok (.goto (-21), 3) := by decide +kernel
theorem dX7_waits_44 : decode cX7_waits 44 = .ok (.iconst 0, 1) := by decide +kernel
theorem dX7_waits_45 : decode cX7_waits 45 = .ok (.ireturn, 1) := by decide +kernel
theorem dX7_advance_0 : decode cX7_advance 0 = .ok (.aload_n 0, 1) := by decide +kernel
theorem dX7_advance_1 : decode cX7_advance 1 = .ok (.invokevirtual 92, 3) := by decide +kernel
theorem dX7_advance_4 : decode cX7_advance 4 = .ok (.aload_n 0, 1) := by decide +kernel
theorem dX7_advance_5 : decode cX7_advance 5 = .ok (.aload_n 0, 1) := by decide +kernel
theorem dX7_advance_6 : decode cX7_advance 6 = .ok (.iload_n 1, 1) := by decide +kernel
theorem dX7_advance_7 : decode cX7_advance 7 = .ok (.invokevirtual 128, 3) := by decide +kernel
theorem dX7_advance_10 : decode cX7_advance 10 = .ok (.iconst 0, 1) := by decide +kernel
theorem dX7_advance_11 : decode cX7_advance 11 = .ok (.iconst 1, 1) := by decide +kernel
theorem dX7_advance_12 : decode cX7_advance 12 = .ok (.iconst 0, 1) := by decide +kernel
theorem dX7_advance_13 : decode cX7_advance 13 = .ok (.iconst 0, 1) := by decide +kernel
theorem dX7_advance_14 : decode cX7_advance 14 = .ok (.invokevirtual 102, 3) := by decide +kernel
theorem dX7_advance_17 : decode cX7_advance 17 = .ok (.ireturn, 1) := by decide +kernel
theorem dX7_area_0 : decode cX7_area 0 = .ok (.aload_n 0, 1) := by decide +kernel
theorem dX7_area_1 : decode cX7_area 1 = .ok (.iload_n 1, 1) := by decide +kernel
theorem dX7_area_2 : decode cX7_area 2 = .ok (.invokestatic 131, 3) := by decide +kernel
theorem dX7_area_5 : decode cX7_area 5 = .ok (.invokevirtual 134, 3) := by decide +kernel
theorem dX7_area_8 : decode cX7_area 8 = .ok (.ifCond .eq 10, 3) := by decide +kernel
theorem dX7_area_11 : decode cX7_area 11 = .ok (.iload_n 1, 1) := by decide +kernel
theorem dX7_area_12 : decode cX7_area 12 = .ok (.invokestatic 47, 3) := by decide +kernel
theorem dX7_area_15 : decode cX7_area 15 = .ok (.goto 4, 3) := by decide +kernel
theorem dX7_area_18 : decode cX7_area 18 = .ok (.iconst 0, 1) := by decide +kernel
theorem dX7_area_19 : decode cX7_area 19 = .ok (.ireturn, 1) := by decide +kernel
theorem dX7_volume_0 : decode cX7_volume 0 = .ok (.aload_n 0, 1) := by decide +kernel
theorem dX7_volume_1 : decode cX7_volume 1 = .ok (.iload_n 1, 1) := by decide +kernel
theorem dX7_volume_2 : decode cX7_volume 2 = .ok (.invokestatic 131, 3) := by decide +kernel
theorem dX7_volume_5 : decode cX7_volume 5 = .ok (.invokevirtual 134, 3) := by decide +kernel
theorem dX7_volume_8 : decode cX7_volume 8 = .ok (.ifCond .eq 15, 3) := by decide +kernel
theorem dX7_volume_11 : decode cX7_volume 11 = .ok (.aload_n 0, 1) := by decide +kernel
theorem dX7_volume_12 : decode cX7_volume 12 = .ok (.getfield 9, 3) := by decide +kernel
theorem dX7_volume_15 : decode cX7_volume 15 = .ok (.bipush 11, 2) := by decide +kernel
theorem dX7_volume_17 : decode cX7_volume 17 = .ok (.iload_n 1, 1) := by decide +kernel
theorem dX7_volume_18 : decode cX7_volume 18 = .ok (.iadd, 1) := by decide +kernel
theorem dX7_volume_19 : decode cX7_volume 19 = .ok (.iaload, 1) := by decide +kernel
theorem dX7_volume_20 : decode cX7_volume 20 = .ok (.goto 4, 3) := by decide +kernel
theorem dX7_volume_23 : decode cX7_volume 23 = .ok (.iconst 0, 1) := by decide +kernel
theorem dX7_volume_24 : decode cX7_volume 24 = .ok (.ireturn, 1) := by decide +kernel
theorem dX7_level_0 : decode cX7_level 0 = .ok (.aload_n 0, 1) := by decide +kernel
theorem dX7_level_1 : decode cX7_level 1 = .ok (.iload_n 1, 1) := by decide +kernel
theorem dX7_level_2 : decode cX7_level 2 = .ok (.invokestatic 131, 3) := by decide +kernel
theorem dX7_level_5 : decode cX7_level 5 = .ok (.invokevirtual 134, 3) := by decide +kernel
theorem dX7_level_8 : decode cX7_level 8 = .ok (.ifCond .eq 20, 3) := by decide +kernel
theorem dX7_level_11 : decode cX7_level 11 = .ok (.aload_n 0, 1) := by decide +kernel
theorem dX7_level_12 : decode cX7_level 12 = .ok (.getfield 9, 3) := by decide +kernel
theorem dX7_level_15 : decode cX7_level 15 = .ok (.bipush 11, 2) := by decide +kernel
theorem dX7_level_17 : decode cX7_level 17 = .ok (.iload_n 1, 1) := by decide +kernel
theorem dX7_level_18 : decode cX7_level 18 = .ok (.iadd, 1) := by decide +kernel
theorem dX7_level_19 : decode cX7_level 19 = .ok (.iaload, 1) := by decide +kernel
theorem dX7_level_20 : decode cX7_level 20 = .ok (.iload_n 1, 1) := by decide +kernel
theorem dX7_level_21 : decode cX7_level 21 = .ok (.invokestatic 47, 3) := by decide +kernel
theorem dX7_level_24 : decode cX7_level 24 = .ok (.idiv, 1) := by decide +kernel
theorem dX7_level_25 : decode cX7_level 25 = .ok (.goto 4, 3) := by decide +kernel
theorem dX7_level_28 : decode cX7_level 28 = .ok (.iconst 0, 1) := by decide +kernel
theorem dX7_level_29 : decode cX7_level 29 = .ok (.ireturn, 1) := by decide +kernel
theorem dX7_exactLevel_0 : decode cX7_exactLevel 0 = .ok (.aload_n 0, 1) := by decide +kernel
theorem dX7_exactLevel_1 : decode cX7_exactLevel 1 = .ok (.iload_n 1, 1) := by decide +kernel
theorem dX7_exactLevel_2 : decode cX7_exactLevel 2 = .ok (.invokestatic 131, 3) := by decide +kernel
theorem dX7_exactLevel_5 : decode cX7_exactLevel 5 = .ok (.invokevirtual 134, 3) := by decide +kernel
theorem dX7_exactLevel_8 : decode cX7_exactLevel 8 = .ok (.ifCond .eq 22, 3) := by decide +kernel
theorem dX7_exactLevel_11 : decode cX7_exactLevel 11 = .ok (.aload_n 0, 1) := by decide +kernel
theorem dX7_exactLevel_12 : decode cX7_exactLevel 12 = .ok (.getfield 9, 3) := by decide +kernel
theorem dX7_exactLevel_15 : decode cX7_exactLevel 15 = .ok (.bipush 11, 2) := by decide +kernel
theorem dX7_exactLevel_17 : decode cX7_exactLevel 17 = .ok (.iload_n 1, 1) := by decide +kernel
theorem dX7_exactLevel_18 : decode cX7_exactLevel 18 = .ok (.iadd, 1) := by decide +kernel
theorem dX7_exactLevel_19 : decode cX7_exactLevel 19 = .ok (.iaload, 1) := by decide +kernel
theorem dX7_exactLevel_20 : decode cX7_exactLevel 20 = .ok (.i2d, 1) := by decide +kernel
theorem dX7_exactLevel_21 : decode cX7_exactLevel 21 = .ok (.iload_n 1, 1) := by decide +kernel
theorem dX7_exactLevel_22 : decode cX7_exactLevel 22 = .ok (.invokestatic 47, 3) := by decide +kernel
theorem dX7_exactLevel_25 : decode cX7_exactLevel 25 = .ok (.i2d, 1) := by decide +kernel
theorem dX7_exactLevel_26 : decode cX7_exactLevel 26 = .ok (.ddiv, 1) := by decide +kernel
theorem dX7_exactLevel_27 : decode cX7_exactLevel 27 = .ok (.goto 4, 3) := by decide +kernel
theorem dX7_exactLevel_30 : decode cX7_exactLevel 30 = .ok (.dconst 0, 1) := by decide +kernel
theorem dX7_exactLevel_31 : decode cX7_exactLevel 31 = .ok (.dreturn, 1) := by decide +kernel
theorem dX7_isHigher_0 : decode cX7_isHigher 0 = .ok (.aload_n 0, 1) := by decide +kernel
theorem dX7_isHigher_1 : decode cX7_isHigher 1 = .ok (.iload_n 1, 1) := by decide +kernel
theorem dX7_isHigher_2 : decode cX7_isHigher 2 = .ok (.invokestatic 131, 3) := by decide +kernel
theorem dX7_isHigher_5 : decode cX7_isHigher 5 = .ok (.ifCond .eq 14, 3) := by decide +kernel
theorem dX7_isHigher_8 : decode cX7_isHigher 8 = .ok (.iload_n 2, 1) := by decide +kernel
theorem dX7_isHigher_9 : decode cX7_isHigher 9 = .ok (.invokestatic 131, 3) := by decide +kernel
theorem dX7_isHigher_12 : decode cX7_isHigher 12 = .ok (.ifCond .eq 7, 3) := by decide +kernel
theorem dX7_isHigher_15 : decode cX7_isHigher 15 = .ok (.iconst 1, 1) := by decide +kernel
theorem dX7_isHigher_16 : decode cX7_isHigher 16 = .ok (.goto 4, 3) := by decide +kernel
theorem dX7_isHigher_19 : decode cX7_isHigher 19 = .ok (.iconst 0, 1) := by decide +kernel
theorem dX7_isHigher_20 : decode cX7_isHigher 20 = .ok (.invokevirtual 134, 3) := by decide +kernel
theorem dX7_isHigher_23 : decode cX7_isHigher 23 = .ok (.ifCond .eq 16, 3) := by decide +kernel
theorem dX7_isHigher_26 : decode cX7_isHigher 26 = .ok (.aload_n 0, 1) := by decide +kernel
theorem dX7_isHigher_27 : decode cX7_isHigher 27 = .ok (.iload_n 1, 1) := by decide +kernel
theorem dX7_isHigher_28 : decode cX7_isHigher 28 = .ok (.iload_n 2, 1) := by decide +kernel
theorem dX7_isHigher_29 : decode cX7_isHigher 29 = .ok (.invokevirtual 51, 3) := by decide +kernel
theorem dX7_isHigher_32 : decode cX7_isHigher 32 = .ok (.ifCond .le 7, 3) := by decide +kernel
theorem dX7_isHigher_35 : decode cX7_isHigher 35 = .ok (.iconst 1, 1) := by decide +kernel
theorem dX7_isHigher_36 : decode cX7_isHigher 36 = .ok (.goto 4, 3) := by decide +kernel
theorem dX7_isHigher_39 : decode cX7_isHigher 39 = .ok (.iconst 0, 1) := by decide +kernel
theorem dX7_isHigher_40 : decode cX7_isHigher 40 = .ok (.ireturn, 1) := by decide +kernel
theorem dX7_equalizingAmount_0 : decode cX7_equalizingAmount 0 = .ok (.aload_n 0, 1) := by decide +kernel
theorem dX7_equalizingAmount_1 : decode cX7_equalizingAmount 1 = .ok (.iload_n 1, 1) := by decide +kernel
theorem dX7_equalizingAmount_2 : decode cX7_equalizingAmount 2 = .ok (.invokestatic 106, 3) := by decide +kernel
theorem dX7_equalizingAmount_5 : decode cX7_equalizingAmount 5 = .ok (.invokevirtual 134, 3) := by decide +kernel
theorem dX7_equalizingAmount_8 : decode cX7_equalizingAmount 8 = .ok (.ifCond .eq 11, 3) := by decide +kernel
theorem dX7_equalizingAmount_11 : decode cX7_equalizingAmount 11 = .ok (.aload_n 0, 1) := by decide +kernel
theorem dX7_equalizingAmount_12 : decode cX7_equalizingAmount 12 = .ok (.iload_n 1, 1) := by decide +kernel
theorem dX7_equalizingAmount_13 : decode cX7_equalizingAmount 13 = .ok (.invokevirtual 55, 3) := by decide +kernel
theorem dX7_equalizingAmount_16 : decode cX7_equalizingAmount 16 = .ok (.goto 4, 3) := by decide +kernel
theorem dX7_equalizingAmount_19 : decode cX7_equalizingAmount 19 = .ok (.iconst 0, 1) := by decide +kernel
theorem dX7_equalizingAmount_20 : decode cX7_equalizingAmount 20 = .ok (.ireturn, 1) := by decide +kernel
theorem dX7_equalizingAmountByLitres_0 : decode cX7_equalizingAmountByLitres 0 = .ok (.aload_n 0, 1) := by decide +kernel
theorem dX7_equalizingAmountByLitres_1 : decode cX7_equalizingAmountByLitres 1 = .ok (.iload_n 1, 1) := by decide +kernel
theorem dX7_equalizingAmountByLitres_2 : decode cX7_equalizingAmountByLitres 2 = .ok (.invokevirtual 138, 3) := by decide +kernel
theorem dX7_equalizingAmountByLitres_5 : decode cX7_equalizingAmountByLitres 5 = .ok (.ireturn, 1) := by decide +kernel
theorem dX7_opening_0 : decode cX7_opening 0 = .ok (.aload_n 0, 1) := by decide +kernel
theorem dX7_opening_1 : decode cX7_opening 1 = .ok (.iload_n 1, 1) := by decide +kernel
theorem dX7_opening_2 : decode cX7_opening 2 = .ok (.invokestatic 106, 3) := by decide +kernel
theorem dX7_opening_5 : decode cX7_opening 5 = .ok (.invokevirtual 134, 3) := by decide +kernel
theorem dX7_opening_8 : decode cX7_opening 8 = .ok (.ifCond .eq 15, 3) := by decide +kernel
theorem dX7_opening_11 : decode cX7_opening 11 = .ok (.aload_n 0, 1) := by decide +kernel
theorem dX7_opening_12 : decode cX7_opening 12 = .ok (.getfield 9, 3) := by decide +kernel
theorem dX7_opening_15 : decode cX7_opening 15 = .ok (.bipush 16, 2) := by decide +kernel
theorem dX7_opening_17 : decode cX7_opening 17 = .ok (.iload_n 1, 1) := by decide +kernel
theorem dX7_opening_18 : decode cX7_opening 18 = .ok (.iadd, 1) := by decide +kernel
theorem dX7_opening_19 : decode cX7_opening 19 = .ok (.iaload, 1) := by decide +kernel
theorem dX7_opening_20 : decode cX7_opening 20 = .ok (.goto 4, 3) := by decide +kernel
theorem dX7_opening_23 : decode cX7_opening 23 = .ok (.iconst 0, 1) := by decide +kernel
theorem dX7_opening_24 : decode cX7_opening 24 = .ok (.ireturn, 1) := by decide +kernel
theorem dX7_isOpen_0 : decode cX7_isOpen 0 = .ok (.aload_n 0, 1) := by decide +kernel
theorem dX7_isOpen_1 : decode cX7_isOpen 1 = .ok (.iload_n 1, 1) := by decide +kernel
theorem dX7_isOpen_2 : decode cX7_isOpen 2 = .ok (.invokestatic 106, 3) := by decide +kernel
theorem dX7_isOpen_5 : decode cX7_isOpen 5 = .ok (.invokevirtual 134, 3) := by decide +kernel
theorem dX7_isOpen_8 : decode cX7_isOpen 8 = .ok (.ifCond .eq 20, 3) := by decide +kernel
theorem dX7_isOpen_11 : decode cX7_isOpen 11 = .ok (.aload_n 0, 1) := by decide +kernel
theorem dX7_isOpen_12 : decode cX7_isOpen 12 = .ok (.getfield 9, 3) := by decide +kernel
theorem dX7_isOpen_15 : decode cX7_isOpen 15 = .ok (.bipush 20, 2) := by decide +kernel
theorem dX7_isOpen_17 : decode cX7_isOpen 17 = .ok (.iload_n 1, 1) := by decide +kernel
theorem dX7_isOpen_18 : decode cX7_isOpen 18 = .ok (.iadd, 1) := by decide +kernel
theorem dX7_isOpen_19 : decode cX7_isOpen 19 = .ok (.iaload, 1) := by decide +kernel
theorem dX7_isOpen_20 : decode cX7_isOpen 20 = .ok (.iconst 1, 1) := by decide +kernel
theorem dX7_isOpen_21 : decode cX7_isOpen 21 = .ok (.if_icmp .ne 7, 3) := by decide +kernel
theorem dX7_isOpen_24 : decode cX7_isOpen 24 = .ok (.iconst 1, 1) := by decide +kernel
theorem dX7_isOpen_25 : decode cX7_isOpen 25 = .ok (.goto 4, 3) := by decide +kernel
theorem dX7_isOpen_28 : decode cX7_isOpen 28 = .ok (.iconst 0, 1) := by decide +kernel
theorem dX7_isOpen_29 : decode cX7_isOpen 29 = .ok (.ireturn, 1) := by decide +kernel
theorem dX7_flow_0 : decode cX7_flow 0 = .ok (.aload_n 0, 1) := by decide +kernel
theorem dX7_flow_1 : decode cX7_flow 1 = .ok (.iload_n 1, 1) := by decide +kernel
theorem dX7_flow_2 : decode cX7_flow 2 = .ok (.invokestatic 106, 3) := by decide +kernel
theorem dX7_flow_5 : decode cX7_flow 5 = .ok (.invokevirtual 134, 3) := by decide +kernel
theorem dX7_flow_8 : decode cX7_flow 8 = .ok (.ifCond .eq 11, 3) := by decide +kernel
theorem dX7_flow_11 : decode cX7_flow 11 = .ok (.aload_n 0, 1) := by decide +kernel
theorem dX7_flow_12 : decode cX7_flow 12 = .ok (.iload_n 1, 1) := by decide +kernel
theorem dX7_flow_13 : decode cX7_flow 13 = .ok (.invokevirtual 85, 3) := by decide +kernel
theorem dX7_flow_16 : decode cX7_flow 16 = .ok (.goto 4, 3) := by decide +kernel
theorem dX7_flow_19 : decode cX7_flow 19 = .ok (.iconst 0, 1) := by decide +kernel
theorem dX7_flow_20 : decode cX7_flow 20 = .ok (.ireturn, 1) := by decide +kernel
theorem dX7_told_0 : decode cX7_told 0 = .ok (.aload_n 0, 1) := by decide +kernel
theorem dX7_told_1 : decode cX7_told 1 = .ok (.iconst 0, 1) := by decide +kernel
theorem dX7_told_2 : decode cX7_told 2 = .ok (.putfield 30, 3) := by decide +kernel
theorem dX7_told_5 : decode cX7_told 5 = .ok (.aload_n 0, 1) := by decide +kernel
theorem dX7_told_6 : decode cX7_told 6 = .ok (.getfield 9, 3) := by decide +kernel
theorem dX7_told_9 : decode cX7_told 9 = .ok (.iload_n 1, 1) := by decide +kernel
theorem dX7_told_10 : decode cX7_told 10 = .ok (.iaload, 1) := by decide +kernel
theorem dX7_told_11 : decode cX7_told 11 = .ok (.ireturn, 1) := by decide +kernel
theorem dX7_rain_0 : decode cX7_rain 0 = .ok (.aload_n 0, 1) := by decide +kernel
theorem dX7_rain_1 : decode cX7_rain 1 = .ok (.iconst 1, 1) := by decide +kernel
theorem dX7_rain_2 : decode cX7_rain 2 = .ok (.invokevirtual 141, 3) := by decide +kernel
theorem dX7_rain_5 : decode cX7_rain 5 = .ok (.ireturn, 1) := by decide +kernel
theorem dX7_drain_0 : decode cX7_drain 0 = .ok (.aload_n 0, 1) := by decide +kernel
theorem dX7_drain_1 : decode cX7_drain 1 = .ok (.iconst 2, 1) := by decide +kernel
theorem dX7_drain_2 : decode cX7_drain 2 = .ok (.invokevirtual 141, 3) := by decide +kernel
theorem dX7_drain_5 : decode cX7_drain 5 = .ok (.ireturn, 1) := by decide +kernel
theorem dX7_sum_0 : decode cX7_sum 0 = .ok (.aload_n 0, 1) := by decide +kernel
theorem dX7_sum_1 : decode cX7_sum 1 = .ok (.getfield 9, 3) := by decide +kernel
theorem dX7_sum_4 : decode cX7_sum 4 = .ok (.bipush 11, 2) := by decide +kernel
theorem dX7_sum_6 : decode cX7_sum 6 = .ok (.iaload, 1) := by decide +kernel
theorem dX7_sum_7 : decode cX7_sum 7 = .ok (.aload_n 0, 1) := by decide +kernel
theorem dX7_sum_8 : decode cX7_sum 8 = .ok (.getfield 9, 3) := by decide +kernel
theorem dX7_sum_11 : decode cX7_sum 11 = .ok (.bipush 12, 2) := by decide +kernel
theorem dX7_sum_13 : decode cX7_sum 13 = .ok (.iaload, 1) := by decide +kernel
theorem dX7_sum_14 : decode cX7_sum 14 = .ok (.iadd, 1) := by decide +kernel
theorem dX7_sum_15 : decode cX7_sum 15 = .ok (.aload_n 0, 1) := by decide +kernel
theorem dX7_sum_16 : decode cX7_sum 16 = .ok (.getfield 9, 3) := by decide +kernel
theorem dX7_sum_19 : decode cX7_sum 19 = .ok (.bipush 13, 2) := by decide +kernel
theorem dX7_sum_21 : decode cX7_sum 21 = .ok (.iaload, 1) := by decide +kernel
theorem dX7_sum_22 : decode cX7_sum 22 = .ok (.iadd, 1) := by decide +kernel
theorem dX7_sum_23 : decode cX7_sum 23 = .ok (.aload_n 0, 1) := by decide +kernel
theorem dX7_sum_24 : decode cX7_sum 24 = .ok (.getfield 9, 3) := by decide +kernel
theorem dX7_sum_27 : decode cX7_sum 27 = .ok (.bipush 14, 2) := by decide +kernel
theorem dX7_sum_29 : decode cX7_sum 29 = .ok (.iaload, 1) := by decide +kernel
theorem dX7_sum_30 : decode cX7_sum 30 = .ok (.iadd, 1) := by decide +kernel
theorem dX7_sum_31 : decode cX7_sum 31 = .ok (.aload_n 0, 1) := by decide +kernel
theorem dX7_sum_32 : decode cX7_sum 32 = .ok (.getfield 9, 3) := by decide +kernel
theorem dX7_sum_35 : decode cX7_sum 35 = .ok (.bipush 15, 2) := by decide +kernel
theorem dX7_sum_37 : decode cX7_sum 37 = .ok (.iaload, 1) := by decide +kernel
theorem dX7_sum_38 : decode cX7_sum 38 = .ok (.iadd, 1) := by decide +kernel
theorem dX7_sum_39 : decode cX7_sum 39 = .ok (.ireturn, 1) := by decide +kernel
theorem dX7_totalVolume_0 : decode cX7_totalVolume 0 = .ok (.aload_n 0, 1) := by decide +kernel
theorem dX7_totalVolume_1 : decode cX7_totalVolume 1 = .ok (.iconst 0, 1) := by decide +kernel
theorem dX7_totalVolume_2 : decode cX7_totalVolume 2 = .ok (.putfield 30, 3) := by decide +kernel
theorem dX7_totalVolume_5 : decode cX7_totalVolume 5 = .ok (.aload_n 0, 1) := by decide +kernel
theorem dX7_totalVolume_6 : decode cX7_totalVolume 6 = .ok (.invokevirtual 144, 3) := by decide +kernel
theorem dX7_totalVolume_9 : decode cX7_totalVolume 9 = .ok (.ireturn, 1) := by decide +kernel
theorem dX7_totalVolumeByAccounts_0 : decode cX7_totalVolumeByAccounts 0 = .ok (.aload_n 0, 1) := by decide +kernel
theorem dX7_totalVolumeByAccounts_1 : decode cX7_totalVolumeByAccounts 1 = .ok (.invokevirtual 147, 3) := by decide +kernel
theorem dX7_totalVolumeByAccounts_4 : decode cX7_totalVolumeByAccounts 4 = .ok (.ireturn, 1) := by decide +kernel
theorem dX7_rainTotal_0 : decode cX7_rainTotal 0 = .ok (.aload_n 0, 1) := by decide +kernel
theorem dX7_rainTotal_1 : decode cX7_rainTotal 1 = .ok (.iconst 3, 1) := by decide +kernel
theorem dX7_rainTotal_2 : decode cX7_rainTotal 2 = .ok (.invokevirtual 141, 3) := by decide +kernel
theorem dX7_rainTotal_5 : decode cX7_rainTotal 5 = .ok (.ireturn, 1) := by decide +kernel
theorem dX7_drainTotal_0 : decode cX7_drainTotal 0 = .ok (.aload_n 0, 1) := by decide +kernel
theorem dX7_drainTotal_1 : decode cX7_drainTotal 1 = .ok (.iconst 4, 1) := by decide +kernel
theorem dX7_drainTotal_2 : decode cX7_drainTotal 2 = .ok (.invokevirtual 141, 3) := by decide +kernel
theorem dX7_drainTotal_5 : decode cX7_drainTotal 5 = .ok (.ireturn, 1) := by decide +kernel
theorem dX7_spilledTotal_0 : decode cX7_spilledTotal 0 = .ok (.aload_n 0, 1) := by decide +kernel
theorem dX7_spilledTotal_1 : decode cX7_spilledTotal 1 = .ok (.iconst 5, 1) := by decide +kernel
theorem dX7_spilledTotal_2 : decode cX7_spilledTotal 2 = .ok (.invokevirtual 141, 3) := by decide +kernel
theorem dX7_spilledTotal_5 : decode cX7_spilledTotal 5 = .ok (.ireturn, 1) := by decide +kernel
theorem dX7_basinByLevel_0 : decode cX7_basinByLevel 0 = .ok (.iconst 0, 1) := by decide +kernel
theorem dX7_basinByLevel_1 : decode cX7_basinByLevel 1 = .ok (.istore_n 2, 1) := by decide +kernel
theorem dX7_basinByLevel_2 : decode cX7_basinByLevel 2 = .ok (.iload_n 2, 1) := by decide +kernel
theorem dX7_basinByLevel_3 : decode cX7_basinByLevel 3 = .ok (.iconst 5, 1) := by decide +kernel
theorem dX7_basinByLevel_4 : decode cX7_basinByLevel 4 = .ok (.if_icmp .ge 79, 3) := by decide +kernel
theorem dX7_basinByLevel_7 : decode cX7_basinByLevel 7 = .ok (.iconst 0, 1) := by decide +kernel
theorem dX7_basinByLevel_8 : decode cX7_basinByLevel 8 = .ok (.istore_n 3, 1) := by decide +kernel
theorem dX7_basinByLevel_9 : decode cX7_basinByLevel 9 = .ok (.iconst 0, 1) := by decide +kernel
theorem dX7_basinByLevel_10 : decode cX7_basinByLevel 10 = .ok (.istore 4, 2) := by decide +kernel
theorem dX7_basinByLevel_12 : decode cX7_basinByLevel 12 = .ok (.iload 4, 2) := by decide +kernel
theorem dX7_basinByLevel_14 : decode cX7_basinByLevel 14 = .ok (.iconst 5, 1) := by decide +kernel
theorem dX7_basinByLevel_15 : decode cX7_basinByLevel 15 = .ok (.if_icmp .ge 43, 3) := by decide +kernel
theorem dX7_basinByLevel_18 : decode cX7_basinByLevel 18 = .ok (.iload_n 3, 1) := by decide +kernel
theorem dX7_basinByLevel_19 : decode cX7_basinByLevel 19 = .ok (.aload_n 0, 1) := by decide +kernel
theorem dX7_basinByLevel_20 : decode cX7_basinByLevel 20 = .ok (.iload 4, 2) := by decide +kernel
theorem dX7_basinByLevel_22 : decode cX7_basinByLevel 22 = .ok (.iload_n 2, 1) := by decide +kernel
theorem dX7_basinByLevel_23 : decode cX7_basinByLevel 23 = .ok (.invokevirtual 51, 3) := by decide +kernel
theorem dX7_basinByLevel_26 : decode cX7_basinByLevel 26 = .ok (.ifCond .gt 19, 3) := by decide +kernel
theorem dX7_basinByLevel_29 : decode cX7_basinByLevel 29 = .ok (.aload_n 0, 1) := by decide +kernel
theorem dX7_basinByLevel_30 : decode cX7_basinByLevel 30 = .ok (.iload 4, 2) := by decide +kernel
theorem dX7_basinByLevel_32 : decode cX7_basinByLevel 32 = .ok (.iload_n 2, 1) := by decide +kernel
theorem dX7_basinByLevel_33 : decode cX7_basinByLevel 33 = .ok (.invokevirtual 51, 3) := by decide +kernel
theorem dX7_basinByLevel_36 : decode cX7_basinByLevel 36 = .ok (.ifCond .ne 13, 3) := by decide +kernel
theorem dX7_basinByLevel_39 : decode cX7_basinByLevel 39 = .ok (.iload 4, 2) := by decide +kernel
theorem dX7_basinByLevel_41 : decode cX7_basinByLevel 41 = .ok (.iload_n 2, 1) := by decide +kernel
theorem dX7_basinByLevel_42 : decode cX7_basinByLevel 42 = .ok (.if_icmp .ge 7, 3) := by decide +kernel
theorem dX7_basinByLevel_45 : decode cX7_basinByLevel 45 = .ok (.iconst 1, 1) := by decide +kernel
theorem dX7_basinByLevel_46 : decode cX7_basinByLevel 46 = .ok (.goto 4, 3) := by decide +kernel
theorem dX7_basinByLevel_49 : decode cX7_basinByLevel 49 = .ok (.iconst 0, 1) := by decide +kernel
theorem dX7_basinByLevel_50 : decode cX7_basinByLevel 50 = .ok (.iadd, 1) := by decide +kernel
theorem dX7_basinByLevel_51 : decode cX7_basinByLevel 51 = .ok (.istore_n 3, 1) := by decide +kernel
theorem dX7_basinByLevel_52 : decode cX7_basinByLevel 52 = .ok (.iinc 4 1, 3) := by decide +kernel
theorem dX7_basinByLevel_55 : decode cX7_basinByLevel 55 = .ok (.goto (-43), 3) := by decide +kernel
theorem dX7_basinByLevel_58 : decode cX7_basinByLevel 58 = .ok (.aload_n 0, 1) := by decide +kernel
theorem dX7_basinByLevel_59 : decode cX7_basinByLevel 59 = .ok (.iload_n 3, 1) := by decide +kernel
theorem dX7_basinByLevel_60 : decode cX7_basinByLevel 60 = .ok (.iload_n 1, 1) := by decide +kernel
theorem dX7_basinByLevel_61 : decode cX7_basinByLevel 61 = .ok (.if_icmp .ne 7, 3) := by decide +kernel
theorem dX7_basinByLevel_64 : decode cX7_basinByLevel 64 = .ok (.iconst 1, 1) := by decide +kernel
theorem dX7_basinByLevel_65 : decode cX7_basinByLevel 65 = .ok (.goto 4, 3) := by decide +kernel
theorem dX7_basinByLevel_68 : decode cX7_basinByLevel 68 = .ok (.iconst 0, 1) := by decide +kernel
theorem dX7_basinByLevel_69 : decode cX7_basinByLevel 69 = .ok (.invokevirtual 134, 3) := by decide +kernel
theorem dX7_basinByLevel_72 : decode cX7_basinByLevel 72 = .ok (.ifCond .eq 5, 3) := by decide +kernel
theorem dX7_basinByLevel_75 : decode cX7_basinByLevel 75 = .ok (.iload_n 2, 1) := by decide +kernel
theorem dX7_basinByLevel_76 : decode cX7_basinByLevel 76 = .ok (.ireturn, 1) := by decide +kernel
theorem dX7_basinByLevel_77 : decode cX7_basinByLevel 77 = .ok (.iinc 2 1, 3) := by decide +kernel
theorem dX7_basinByLevel_80 : decode cX7_basinByLevel 80 = .ok (.goto (-78), 3) := by decide +kernel
theorem dX7_basinByLevel_83 : decode cX7_basinByLevel 83 = .ok (.aload_n 0, 1) := by decide +kernel
theorem dX7_basinByLevel_84 : decode cX7_basinByLevel 84 = .ok (.iconst 1, 1) := by decide +kernel
theorem dX7_basinByLevel_85 : decode cX7_basinByLevel 85 = .ok (.putfield 30, 3) := by decide +kernel
theorem dX7_basinByLevel_88 : decode cX7_basinByLevel 88 = .ok (.iconst 0, 1) := by decide +kernel
theorem dX7_basinByLevel_89 : decode cX7_basinByLevel 89 = .ok (.ireturn, 1) := by decide +kernel
theorem dX7_boatCount_0 : decode cX7_boatCount 0 = .ok (.aload_n 0, 1) := by decide +kernel
theorem dX7_boatCount_1 : decode cX7_boatCount 1 = .ok (.bipush 6, 2) := by decide +kernel
theorem dX7_boatCount_3 : decode cX7_boatCount 3 = .ok (.invokevirtual 141, 3) := by decide +kernel
theorem dX7_boatCount_6 : decode cX7_boatCount 6 = .ok (.ireturn, 1) := by decide +kernel
theorem dX7_ofBoat_0 : decode cX7_ofBoat 0 = .ok (.aload_n 0, 1) := by decide +kernel
theorem dX7_ofBoat_1 : decode cX7_ofBoat 1 = .ok (.aload_n 0, 1) := by decide +kernel
theorem dX7_ofBoat_2 : decode cX7_ofBoat 2 = .ok (.iload_n 1, 1) := by decide +kernel
theorem dX7_ofBoat_3 : decode cX7_ofBoat 3 = .ok (.invokevirtual 150, 3) := by decide +kernel
theorem dX7_ofBoat_6 : decode cX7_ofBoat 6 = .ok (.invokevirtual 134, 3) := by decide +kernel
theorem dX7_ofBoat_9 : decode cX7_ofBoat 9 = .ok (.ifCond .eq 12, 3) := by decide +kernel
theorem dX7_ofBoat_12 : decode cX7_ofBoat 12 = .ok (.aload_n 0, 1) := by decide +kernel
theorem dX7_ofBoat_13 : decode cX7_ofBoat 13 = .ok (.iload_n 1, 1) := by decide +kernel
theorem dX7_ofBoat_14 : decode cX7_ofBoat 14 = .ok (.iload_n 2, 1) := by decide +kernel
theorem dX7_ofBoat_15 : decode cX7_ofBoat 15 = .ok (.invokevirtual 61, 3) := by decide +kernel
theorem dX7_ofBoat_18 : decode cX7_ofBoat 18 = .ok (.goto 4, 3) := by decide +kernel
theorem dX7_ofBoat_21 : decode cX7_ofBoat 21 = .ok (.iconst 0, 1) := by decide +kernel
theorem dX7_ofBoat_22 : decode cX7_ofBoat 22 = .ok (.ireturn, 1) := by decide +kernel
theorem dX7_colour_0 : decode cX7_colour 0 = .ok (.aload_n 0, 1) := by decide +kernel
theorem dX7_colour_1 : decode cX7_colour 1 = .ok (.aload_n 0, 1) := by decide +kernel
theorem dX7_colour_2 : decode cX7_colour 2 = .ok (.iload_n 1, 1) := by decide +kernel
theorem dX7_colour_3 : decode cX7_colour 3 = .ok (.invokevirtual 150, 3) := by decide +kernel
theorem dX7_colour_6 : decode cX7_colour 6 = .ok (.invokevirtual 134, 3) := by decide +kernel
theorem dX7_colour_9 : decode cX7_colour 9 = .ok (.ifCond .eq 15, 3) := by decide +kernel
theorem dX7_colour_12 : decode cX7_colour 12 = .ok (.aload_n 0, 1) := by decide +kernel
theorem dX7_colour_13 : decode cX7_colour 13 = .ok (.iload_n 1, 1) := by decide +kernel
theorem dX7_colour_14 : decode cX7_colour 14 = .ok (.iconst 0, 1) := by decide +kernel
theorem dX7_colour_15 : decode cX7_colour 15 = .ok (.invokevirtual 61, 3) := by decide +kernel
theorem dX7_colour_18 : decode cX7_colour 18 = .ok (.invokestatic 153, 3) := by decide +kernel
theorem dX7_colour_21 : decode cX7_colour 21 = .ok (.goto 4, 3) := by decide +kernel
theorem dX7_colour_24 : decode cX7_colour 24 = .ok (.iconst 0, 1) := by decide +kernel
theorem dX7_colour_25 : decode cX7_colour 25 = .ok (.ireturn, 1) := by decide +kernel
theorem dX7_draught_0 : decode cX7_draught 0 = .ok (.aload_n 0, 1) := by decide +kernel
theorem dX7_draught_1 : decode cX7_draught 1 = .ok (.iload_n 1, 1) := by decide +kernel
theorem dX7_draught_2 : decode cX7_draught 2 = .ok (.iconst 1, 1) := by decide +kernel
theorem dX7_draught_3 : decode cX7_draught 3 = .ok (.invokevirtual 157, 3) := by decide +kernel
theorem dX7_draught_6 : decode cX7_draught 6 = .ok (.ireturn, 1) := by decide +kernel
theorem dX7_isGoingDown_0 : decode cX7_isGoingDown 0 = .ok (.aload_n 0, 1) := by decide +kernel
theorem dX7_isGoingDown_1 : decode cX7_isGoingDown 1 = .ok (.iload_n 1, 1) := by decide +kernel
theorem dX7_isGoingDown_2 : decode cX7_isGoingDown 2 = .ok (.iconst 2, 1) := by decide +kernel
theorem dX7_isGoingDown_3 : decode cX7_isGoingDown 3 = .ok (.invokevirtual 157, 3) := by decide +kernel
theorem dX7_isGoingDown_6 : decode cX7_isGoingDown 6 = .ok (.iconst 1, 1) := by decide +kernel
theorem dX7_isGoingDown_7 : decode cX7_isGoingDown 7 = .ok (.if_icmp .ne 7, 3) := by decide +kernel
theorem dX7_isGoingDown_10 : decode cX7_isGoingDown 10 = .ok (.iconst 1, 1) := by decide +kernel
theorem dX7_isGoingDown_11 : decode cX7_isGoingDown 11 = .ok (.goto 4, 3) := by decide +kernel
theorem dX7_isGoingDown_14 : decode cX7_isGoingDown 14 = .ok (.iconst 0, 1) := by decide +kernel
theorem dX7_isGoingDown_15 : decode cX7_isGoingDown 15 = .ok (.ireturn, 1) := by decide +kernel
theorem dX7_basinOf_0 : decode cX7_basinOf 0 = .ok (.aload_n 0, 1) := by decide +kernel
theorem dX7_basinOf_1 : decode cX7_basinOf 1 = .ok (.iload_n 1, 1) := by decide +kernel
theorem dX7_basinOf_2 : decode cX7_basinOf 2 = .ok (.iconst 3, 1) := by decide +kernel
theorem dX7_basinOf_3 : decode cX7_basinOf 3 = .ok (.invokevirtual 157, 3) := by decide +kernel
theorem dX7_basinOf_6 : decode cX7_basinOf 6 = .ok (.ireturn, 1) := by decide +kernel
theorem dX7_boatsIn_0 : decode cX7_boatsIn 0 = .ok (.aload_n 0, 1) := by decide +kernel
theorem dX7_boatsIn_1 : decode cX7_boatsIn 1 = .ok (.iload_n 1, 1) := by decide +kernel
theorem dX7_boatsIn_2 : decode cX7_boatsIn 2 = .ok (.invokestatic 131, 3) := by decide +kernel
theorem dX7_boatsIn_5 : decode cX7_boatsIn 5 = .ok (.invokevirtual 134, 3) := by decide +kernel
theorem dX7_boatsIn_8 : decode cX7_boatsIn 8 = .ok (.ifCond .eq 11, 3) := by decide +kernel
theorem dX7_boatsIn_11 : decode cX7_boatsIn 11 = .ok (.aload_n 0, 1) := by decide +kernel
theorem dX7_boatsIn_12 : decode cX7_boatsIn 12 = .ok (.iload_n 1, 1) := by decide +kernel
theorem dX7_boatsIn_13 : decode cX7_boatsIn 13 = .ok (.invokevirtual 71, 3) := by decide +kernel
theorem dX7_boatsIn_16 : decode cX7_boatsIn 16 = .ok (.goto 4, 3) := by decide +kernel
theorem dX7_boatsIn_19 : decode cX7_boatsIn 19 = .ok (.iconst 0, 1) := by decide +kernel
theorem dX7_boatsIn_20 : decode cX7_boatsIn 20 = .ok (.ireturn, 1) := by decide +kernel
theorem dX7_boatInOrder_0 : decode cX7_boatInOrder 0 = .ok (.iconst 0, 1) := by decide +kernel
theorem dX7_boatInOrder_1 : decode cX7_boatInOrder 1 = .ok (.istore_n 2, 1) := by decide +kernel
theorem dX7_boatInOrder_2 : decode cX7_boatInOrder 2 = .ok (.iload_n 2, 1) := by decide +kernel
theorem dX7_boatInOrder_3 : decode cX7_boatInOrder 3 = .ok (.aload_n 0, 1) := by decide +kernel
theorem dX7_boatInOrder_4 : decode cX7_boatInOrder 4 = .ok (.getfield 9, 3) := by decide +kernel
theorem dX7_boatInOrder_7 : decode cX7_boatInOrder 7 = .ok (.bipush 6, 2) := by decide +kernel
theorem dX7_boatInOrder_9 : decode cX7_boatInOrder 9 = .ok (.iaload, 1) := by decide +kernel
theorem dX7_boatInOrder_10 : decode cX7_boatInOrder 10 = .ok (.if_icmp .ge 97, 3) := by decide +kernel
theorem dX7_boatInOrder_13 : decode cX7_boatInOrder 13 = .ok (.iconst 0, 1) := by decide +kernel
theorem dX7_boatInOrder_14 : decode cX7_boatInOrder 14 = .ok (.istore_n 3, 1) := by decide +kernel
theorem dX7_boatInOrder_15 : decode cX7_boatInOrder 15 = .ok (.iconst 0, 1) := by decide +kernel
theorem dX7_boatInOrder_16 : decode cX7_boatInOrder 16 = .ok (.istore 4, 2) := by decide +kernel
theorem dX7_boatInOrder_18 : decode cX7_boatInOrder 18 = .ok (.iload 4, 2) := by decide +kernel
theorem dX7_boatInOrder_20 : decode cX7_boatInOrder 20 = .ok (.aload_n 0, 1) := by decide +kernel
theorem dX7_boatInOrder_21 : decode cX7_boatInOrder 21 = .ok (.getfield 9, 3) := by decide +kernel
theorem dX7_boatInOrder_24 : decode cX7_boatInOrder 24 = .ok (.bipush 6, 2) := by decide +kernel
theorem dX7_boatInOrder_26 : decode cX7_boatInOrder 26 = .ok (.iaload, 1) := by decide +kernel
theorem dX7_boatInOrder_27 : decode cX7_boatInOrder 27 = .ok (.if_icmp .ge 55, 3) := by decide +kernel
theorem dX7_boatInOrder_30 : decode cX7_boatInOrder 30 = .ok (.iload_n 3, 1) := by decide +kernel
theorem dX7_boatInOrder_31 : decode cX7_boatInOrder 31 = .ok (.aload_n 0, 1) := by decide +kernel
theorem dX7_boatInOrder_32 : decode cX7_boatInOrder 32 = .ok (.iload 4, 2) := by decide +kernel
theorem dX7_boatInOrder_34 : decode cX7_boatInOrder 34 = .ok (.iconst 0, 1) := by decide +kernel
theorem dX7_boatInOrder_35 : decode cX7_boatInOrder 35 = .ok (.invokevirtual 61, 3) := by decide +kernel
theorem dX7_boatInOrder_38 : decode cX7_boatInOrder 38 = .ok (.aload_n 0, 1) := by decide +kernel
theorem dX7_boatInOrder_39 : decode cX7_boatInOrder 39 = .ok (.iload_n 2, 1) := by decide +kernel
theorem dX7_boatInOrder_40 : decode cX7_boatInOrder 40 = .ok (.iconst 0, 1) := by decide +kernel
theorem dX7_boatInOrder_41 : decode cX7_boatInOrder 41 = .ok (.invokevirtual 61, 3) := by decide +kernel
theorem dX7_boatInOrder_44 : decode cX7_boatInOrder 44 = .ok (.if_icmp .lt 25, 3) := by decide +kernel
theorem dX7_boatInOrder_47 : decode cX7_boatInOrder 47 = .ok (.aload_n 0, 1) := by decide +kernel
theorem dX7_boatInOrder_48 : decode cX7_boatInOrder 48 = .ok (.iload 4, 2) := by decide +kernel
theorem dX7_boatInOrder_50 : decode cX7_boatInOrder 50 = .ok (.iconst 0, 1) := by decide +kernel
theorem dX7_boatInOrder_51 : decode cX7_boatInOrder 51 = .ok (.invokevirtual 61, 3) := by decide +kernel
theorem dX7_boatInOrder_54 : decode cX7_boatInOrder 54 = .ok (.aload_n 0, 1) := by decide +kernel
theorem dX7_boatInOrder_55 : decode cX7_boatInOrder 55 = .ok (.iload_n 2, 1) := by decide +kernel
theorem dX7_boatInOrder_56 : decode cX7_boatInOrder 56 = .ok (.iconst 0, 1) := by decide +kernel
theorem dX7_boatInOrder_57 : decode cX7_boatInOrder 57 = .ok (.invokevirtual 61, 3) := by decide +kernel
theorem dX7_boatInOrder_60 : decode cX7_boatInOrder 60 = .ok (.if_icmp .ne 13, 3) := by decide +kernel
theorem dX7_boatInOrder_63 : decode cX7_boatInOrder 63 = .ok (.iload 4, 2) := by decide +kernel
theorem dX7_boatInOrder_65 : decode cX7_boatInOrder 65 = .ok (.iload_n 2, 1) := by decide +kernel
theorem dX7_boatInOrder_66 : decode cX7_boatInOrder 66 = .ok (.if_icmp .ge 7, 3) := by decide +kernel
theorem dX7_boatInOrder_69 : decode cX7_boatInOrder 69 = .ok (.iconst 1, 1) := by decide +kernel
theorem dX7_boatInOrder_70 : decode cX7_boatInOrder 70 = .ok (.goto 4, 3) := by decide +kernel
theorem dX7_boatInOrder_73 : decode cX7_boatInOrder 73 = .ok (.iconst 0, 1) := by decide +kernel
theorem dX7_boatInOrder_74 : decode cX7_boatInOrder 74 = .ok (.iadd, 1) := by decide +kernel
theorem dX7_boatInOrder_75 : decode cX7_boatInOrder 75 = .ok (.istore_n 3, 1) := by decide +kernel
theorem dX7_boatInOrder_76 : decode cX7_boatInOrder 76 = .ok (.iinc 4 1, 3) := by decide +kernel
theorem dX7_boatInOrder_79 : decode cX7_boatInOrder 79 = .ok (.goto (-61), 3) := by decide +kernel
theorem dX7_boatInOrder_82 : decode cX7_boatInOrder 82 = .ok (.aload_n 0, 1) := by decide +kernel
theorem dX7_boatInOrder_83 : decode cX7_boatInOrder 83 = .ok (.iload_n 3, 1) := by decide +kernel
theorem dX7_boatInOrder_84 : decode cX7_boatInOrder 84 = .ok (.iload_n 1, 1) := by decide +kernel
theorem dX7_boatInOrder_85 : decode cX7_boatInOrder 85 = .ok (.if_icmp .ne 7, 3) := by decide +kernel
theorem dX7_boatInOrder_88 : decode cX7_boatInOrder 88 = .ok (.iconst 1, 1) := by decide +kernel
theorem dX7_boatInOrder_89 : decode cX7_boatInOrder 89 = .ok (.goto 4, 3) := by decide +kernel
theorem dX7_boatInOrder_92 : decode cX7_boatInOrder 92 = .ok (.iconst 0, 1) := by decide +kernel
theorem dX7_boatInOrder_93 : decode cX7_boatInOrder 93 = .ok (.invokevirtual 134, 3) := by decide +kernel
theorem dX7_boatInOrder_96 : decode cX7_boatInOrder 96 = .ok (.ifCond .eq 5, 3) := by decide +kernel
theorem dX7_boatInOrder_99 : decode cX7_boatInOrder 99 = .ok (.iload_n 2, 1) := by decide +kernel
theorem dX7_boatInOrder_100 : decode cX7_boatInOrder 100 = .ok (.ireturn, 1) := by decide +kernel
theorem dX7_boatInOrder_101 : decode cX7_boatInOrder 101 = .ok (.iinc 2 1, 3) := by decide +kernel
theorem dX7_boatInOrder_104 : decode cX7_boatInOrder 104 = .ok (.goto (-102), 3) := by decide +kernel
theorem dX7_boatInOrder_107 : decode cX7_boatInOrder 107 = .ok (.aload_n 0, 1) := by decide +kernel
theorem dX7_boatInOrder_108 : decode cX7_boatInOrder 108 = .ok (.iconst 1, 1) := by decide +kernel
theorem dX7_boatInOrder_109 : decode cX7_boatInOrder 109 = .ok (.putfield 30, 3) := by decide +kernel
theorem dX7_boatInOrder_112 : decode cX7_boatInOrder 112 = .ok (.iconst 0, 1) := by decide +kernel
theorem dX7_boatInOrder_113 : decode cX7_boatInOrder 113 = .ok (.ireturn, 1) := by decide +kernel
theorem dX7_floats_0 : decode cX7_floats 0 = .ok (.aload_n 0, 1) := by decide +kernel
theorem dX7_floats_1 : decode cX7_floats 1 = .ok (.aload_n 0, 1) := by decide +kernel
theorem dX7_floats_2 : decode cX7_floats 2 = .ok (.iload_n 1, 1) := by decide +kernel
theorem dX7_floats_3 : decode cX7_floats 3 = .ok (.invokevirtual 150, 3) := by decide +kernel
theorem dX7_floats_6 : decode cX7_floats 6 = .ok (.ifCond .eq 14, 3) := by decide +kernel
theorem dX7_floats_9 : decode cX7_floats 9 = .ok (.iload_n 2, 1) := by decide +kernel
theorem dX7_floats_10 : decode cX7_floats 10 = .ok (.invokestatic 131, 3) := by decide +kernel
theorem dX7_floats_13 : decode cX7_floats 13 = .ok (.ifCond .eq 7, 3) := by decide +kernel
theorem dX7_floats_16 : decode cX7_floats 16 = .ok (.iconst 1, 1) := by decide +kernel
theorem dX7_floats_17 : decode cX7_floats 17 = .ok (.goto 4, 3) := by decide +kernel
theorem dX7_floats_20 : decode cX7_floats 20 = .ok (.iconst 0, 1) := by decide +kernel
theorem dX7_floats_21 : decode cX7_floats 21 = .ok (.invokevirtual 134, 3) := by decide +kernel
theorem dX7_floats_24 : decode cX7_floats 24 = .ok (.ifCond .eq 21, 3) := by decide +kernel
theorem dX7_floats_27 : decode cX7_floats 27 = .ok (.aload_n 0, 1) := by decide +kernel
theorem dX7_floats_28 : decode cX7_floats 28 = .ok (.iload_n 2, 1) := by decide +kernel
theorem dX7_floats_29 : decode cX7_floats 29 = .ok (.aload_n 0, 1) := by decide +kernel
theorem dX7_floats_30 : decode cX7_floats 30 = .ok (.iload_n 1, 1) := by decide +kernel
theorem dX7_floats_31 : decode cX7_floats 31 = .ok (.iconst 1, 1) := by decide +kernel
theorem dX7_floats_32 : decode cX7_floats 32 = .ok (.invokevirtual 61, 3) := by decide +kernel
theorem dX7_floats_35 : decode cX7_floats 35 = .ok (.invokevirtual 74, 3) := by decide +kernel
theorem dX7_floats_38 : decode cX7_floats 38 = .ok (.ifCond .eq 7, 3) := by decide +kernel
theorem dX7_floats_41 : decode cX7_floats 41 = .ok (.iconst 1, 1) := by decide +kernel
theorem dX7_floats_42 : decode cX7_floats 42 = .ok (.goto 4, 3) := by decide +kernel
theorem dX7_floats_45 : decode cX7_floats 45 = .ok (.iconst 0, 1) := by decide +kernel
theorem dX7_floats_46 : decode cX7_floats 46 = .ok (.ireturn, 1) := by decide +kernel
theorem dX7_leftTotal_0 : decode cX7_leftTotal 0 = .ok (.aload_n 0, 1) := by decide +kernel
theorem dX7_leftTotal_1 : decode cX7_leftTotal 1 = .ok (.iload_n 1, 1) := by decide +kernel
theorem dX7_leftTotal_2 : decode cX7_leftTotal 2 = .ok (.invokestatic 95, 3) := by decide +kernel
theorem dX7_leftTotal_5 : decode cX7_leftTotal 5 = .ok (.ifCond .lt 7, 3) := by decide +kernel
theorem dX7_leftTotal_8 : decode cX7_leftTotal 8 = .ok (.iconst 1, 1) := by decide +kernel
theorem dX7_leftTotal_9 : decode cX7_leftTotal 9 = .ok (.goto 4, 3) := by decide +kernel
theorem dX7_leftTotal_12 : decode cX7_leftTotal 12 = .ok (.iconst 0, 1) := by decide +kernel
theorem dX7_leftTotal_13 : decode cX7_leftTotal 13 = .ok (.invokevirtual 134, 3) := by decide +kernel
theorem dX7_leftTotal_16 : decode cX7_leftTotal 16 = .ok (.ifCond .eq 18, 3) := by decide +kernel
theorem dX7_leftTotal_19 : decode cX7_leftTotal 19 = .ok (.aload_n 0, 1) := by decide +kernel
theorem dX7_leftTotal_20 : decode cX7_leftTotal 20 = .ok (.getfield 9, 3) := by decide +kernel
theorem dX7_leftTotal_23 : decode cX7_leftTotal 23 = .ok (.bipush 8, 2) := by decide +kernel
theorem dX7_leftTotal_25 : decode cX7_leftTotal 25 = .ok (.iload_n 1, 1) := by decide +kernel
theorem dX7_leftTotal_26 : decode cX7_leftTotal 26 = .ok (.invokestatic 95, 3) := by decide +kernel
theorem dX7_leftTotal_29 : decode cX7_leftTotal 29 = .ok (.iadd, 1) := by decide +kernel
theorem dX7_leftTotal_30 : decode cX7_leftTotal 30 = .ok (.iaload, 1) := by decide +kernel
theorem dX7_leftTotal_31 : decode cX7_leftTotal 31 = .ok (.goto 4, 3) := by decide +kernel
theorem dX7_leftTotal_34 : decode cX7_leftTotal 34 = .ok (.iconst 0, 1) := by decide +kernel
theorem dX7_leftTotal_35 : decode cX7_leftTotal 35 = .ok (.ireturn, 1) := by decide +kernel
theorem dX7_isMarked_0 : decode cX7_isMarked 0 = .ok (.iconst 0, 1) := by decide +kernel
theorem dX7_isMarked_1 : decode cX7_isMarked 1 = .ok (.istore_n 1, 1) := by decide +kernel
theorem dX7_isMarked_2 : decode cX7_isMarked 2 = .ok (.iload_n 1, 1) := by decide +kernel
theorem dX7_isMarked_3 : decode cX7_isMarked 3 = .ok (.aload_n 0, 1) := by decide +kernel
theorem dX7_isMarked_4 : decode cX7_isMarked 4 = .ok (.getfield 9, 3) := by decide +kernel
theorem dX7_isMarked_7 : decode cX7_isMarked 7 = .ok (.bipush 6, 2) := by decide +kernel
theorem dX7_isMarked_9 : decode cX7_isMarked 9 = .ok (.iaload, 1) := by decide +kernel
theorem dX7_isMarked_10 : decode cX7_isMarked 10 = .ok (.if_icmp .ge 21, 3) := by decide +kernel
theorem dX7_isMarked_13 : decode cX7_isMarked 13 = .ok (.aload_n 0, 1) := by decide +kernel
theorem dX7_isMarked_14 : decode cX7_isMarked 14 = .ok (.iload_n 1, 1) := by decide +kernel
theorem dX7_isMarked_15 : decode cX7_isMarked 15 = .ok (.iconst 4, 1) := by decide +kernel
theorem dX7_isMarked_16 : decode cX7_isMarked 16 = .ok (.invokevirtual 61, 3) := by decide +kernel
theorem dX7_isMarked_19 : decode cX7_isMarked 19 = .ok (.iconst 1, 1) := by decide +kernel
theorem dX7_isMarked_20 : decode cX7_isMarked 20 = .ok (.if_icmp .ne 5, 3) := by decide +kernel
theorem dX7_isMarked_23 : decode cX7_isMarked 23 = .ok (.iconst 1, 1) := by decide +kernel
theorem dX7_isMarked_24 : decode cX7_isMarked 24 = .ok (.ireturn, 1) := by decide +kernel
theorem dX7_isMarked_25 : decode cX7_isMarked 25 = .ok (.iinc 1 1, 3) := by decide +kernel
theorem dX7_isMarked_28 : decode cX7_isMarked 28 = .ok (.goto (-26), 3) := by decide +kernel
theorem dX7_isMarked_31 : decode cX7_isMarked 31 = .ok (.iconst 0, 1) := by decide +kernel
theorem dX7_isMarked_32 : decode cX7_isMarked 32 = .ok (.ireturn, 1) := by decide +kernel
theorem dX7_minutesUntilLeaving_0 : decode cX7_minutesUntilLeaving 0 = .ok (.aload_n 0, 1) := by decide +kernel
theorem dX7_minutesUntilLeaving_1 : decode cX7_minutesUntilLeaving 1 = .ok (.aload_n 0, 1) := by decide +kernel
theorem dX7_minutesUntilLeaving_2 : decode cX7_minutesUntilLeaving 2 = .ok (.iload_n 1, 1) := by decide +kernel
theorem dX7_minutesUntilLeaving_3 : decode cX7_minutesUntilLeaving 3 = .ok (.invokevirtual 150, 3) := by decide +kernel
theorem dX7_minutesUntilLeaving_6 : decode cX7_minutesUntilLeaving 6 = .ok (.invokevirtual 134, 3) := by decide +kernel
theorem dX7_minutesUntilLeaving_9 : decode cX7_minutesUntilLeaving 9 = .ok (.ifCond .ne 5, 3) := by decide +kernel
theorem dX7_minutesUntilLeaving_12 : decode cX7_minutesUntilLeaving 12 = .ok (.iconst 0, 1) := by decide +kernel
theorem dX7_minutesUntilLeaving_13 : decode cX7_minutesUntilLeaving 13 = .ok (.ireturn, 1) := by decide +kernel
theorem dX7_minutesUntilLeaving_14 : decode cX7_minutesUntilLeaving 14 = .ok (.iconst (-1), 1) := by decide +kernel
theorem dX7_minutesUntilLeaving_15 : decode cX7_minutesUntilLeaving 15 = .ok (.istore_n 2, 1) := by decide +kernel
theorem dX7_minutesUntilLeaving_16 : decode cX7_minutesUntilLeaving 16 = .ok (.aload_n 0, 1) := by decide +kernel
theorem dX7_minutesUntilLeaving_17 : decode cX7_minutesUntilLeaving 17 = .ok (.iconst 0, 1) := by decide +kernel
theorem dX7_minutesUntilLeaving_18 : decode cX7_minutesUntilLeaving 18 = .ok (.bipush 11, 2) := by decide +kernel
theorem dX7_minutesUntilLeaving_20 : decode cX7_minutesUntilLeaving 20 = .ok (.invokevirtual 33, 3) := by decide +kernel
theorem dX7_minutesUntilLeaving_23 : decode cX7_minutesUntilLeaving 23 = .ok (.aload_n 0, 1) := by decide +kernel
theorem dX7_minutesUntilLeaving_24 : decode cX7_minutesUntilLeaving 24 = .ok (.iload_n 1, 1) := by decide +kernel
theorem dX7_minutesUntilLeaving_25 : decode cX7_minutesUntilLeaving 25 = .ok (.iconst 4, 1) := by decide +kernel
theorem dX7_minutesUntilLeaving_26 : decode cX7_minutesUntilLeaving 26 = .ok (.iconst 1, 1) := by decide +kernel
theorem dX7_minutesUntilLeaving_27 : decode cX7_minutesUntilLeaving 27 = .ok (.invokevirtual 64, 3) := by decide +kernel
theorem dX7_minutesUntilLeaving_30 : decode cX7_minutesUntilLeaving 30 = .ok (.iconst 1, 1) := by decide +kernel
theorem dX7_minutesUntilLeaving_31 : decode cX7_minutesUntilLeaving 31 = .ok (.istore_n 3, 1) := by decide +kernel
theorem dX7_minutesUntilLeaving_32 : decode cX7_minutesUntilLeaving 32 = .ok (.iload_n 2, 1) := by decide +kernel
theorem dX7_minutesUntilLeaving_33 : decode cX7_minutesUntilLeaving 33 = .ok (.ifCond .ge 35, 3) := by decide +kernel
theorem dX7_minutesUntilLeaving_36 : decode cX7_minutesUntilLeaving 36 = .ok (.iload_n 3, 1) := by decide +kernel
theorem dX7_minutesUntilLeaving_37 : decode cX7_minutesUntilLeaving 37 = .ok (.sipush 200, 3) := by decide +kernel
theorem dX7_minutesUntilLeaving_40 : decode cX7_minutesUntilLeaving 40 = .ok (.if_icmp .gt 28, 3) := by decide +kernel
theorem dX7_minutesUntilLeaving_43 : decode cX7_minutesUntilLeaving 43 = .ok (.aload_n 0, 1) := by decide +kernel
theorem dX7_minutesUntilLeaving_44 : decode cX7_minutesUntilLeaving 44 = .ok (.invokevirtual 125, 3) := by decide +kernel
theorem dX7_minutesUntilLeaving_47 : decode cX7_minutesUntilLeaving 47 = .ok (.istore 4, 2) := by decide +kernel
theorem dX7_minutesUntilLeaving_49 : decode cX7_minutesUntilLeaving 49 = .ok (.aload_n 0, 1) := by decide +kernel
theorem dX7_minutesUntilLeaving_50 : decode cX7_minutesUntilLeaving 50 = .ok (.invokevirtual 160, 3) := by decide +kernel
theorem dX7_minutesUntilLeaving_53 : decode cX7_minutesUntilLeaving 53 = .ok (.ifCond .eq 7, 3) := by decide +kernel
theorem dX7_minutesUntilLeaving_56 : decode cX7_minutesUntilLeaving 56 = .ok (.iconst (-1), 1) := by decide +kernel
theorem dX7_minutesUntilLeaving_57 : decode cX7_minutesUntilLeaving 57 = .ok (.goto 4, 3) := by decide +kernel
theorem dX7_minutesUntilLeaving_60 : decode cX7_minutesUntilLeaving 60 = .ok (.iload_n 3, 1) := by decide +kernel
theorem dX7_minutesUntilLeaving_61 : decode cX7_minutesUntilLeaving 61 = .ok (.istore_n 2, 1) := by decide +kernel
theorem dX7_minutesUntilLeaving_62 : decode cX7_minutesUntilLeaving 62 = .ok (.iinc 3 1, 3) := by decide +kernel
theorem dX7_minutesUntilLeaving_65 : decode cX7_minutesUntilLeaving 65 = .ok (.goto (-33), 3) := by decide +kernel
theorem dX7_minutesUntilLeaving_68 : decode cX7_minutesUntilLeaving 68 = .ok (.aload_n 0, 1) := by decide +kernel
theorem dX7_minutesUntilLeaving_69 : decode cX7_minutesUntilLeaving 69 = .ok (.bipush 11, 2) := by decide +kernel
theorem dX7_minutesUntilLeaving_71 : decode cX7_minutesUntilLeaving 71 = .ok (.iconst 0, 1) := by decide +kernel
theorem dX7_minutesUntilLeaving_72 : decode cX7_minutesUntilLeaving 72 = .ok (.invokevirtual 33, 3) := by decide +kernel
theorem dX7_minutesUntilLeaving_75 : decode cX7_minutesUntilLeaving 75 = .ok (.aload_n 0, 1) := by decide +kernel
theorem dX7_minutesUntilLeaving_76 : decode cX7_minutesUntilLeaving 76 = .ok (.iload_n 2, 1) := by decide +kernel
theorem dX7_minutesUntilLeaving_77 : decode cX7_minutesUntilLeaving 77 = .ok (.ifCond .ge 7, 3) := by decide +kernel
theorem dX7_minutesUntilLeaving_80 : decode cX7_minutesUntilLeaving 80 = .ok (.iconst 2, 1) := by decide +kernel
theorem dX7_minutesUntilLeaving_81 : decode cX7_minutesUntilLeaving 81 = .ok (.goto 4, 3) := by decide +kernel
theorem dX7_minutesUntilLeaving_84 : decode cX7_minutesUntilLeaving 84 = .ok (.iconst 0, 1) := by decide +kernel
theorem dX7_minutesUntilLeaving_85 : decode cX7_minutesUntilLeaving 85 = .ok (.putfield 30, 3) := by decide +kernel
theorem dX7_minutesUntilLeaving_88 : decode cX7_minutesUntilLeaving 88 = .ok (.iload_n 2, 1) := by decide +kernel
theorem dX7_minutesUntilLeaving_89 : decode cX7_minutesUntilLeaving 89 = .ok (.ifCond .ge 7, 3) := by decide +kernel
theorem dX7_minutesUntilLeaving_92 : decode cX7_minutesUntilLeaving 92 = .ok (.iconst 0, 1) := by decide +kernel
theorem dX7_minutesUntilLeaving_93 : decode cX7_minutesUntilLeaving 93 = .ok (.goto 4, 3) := by decide +kernel
theorem dX7_minutesUntilLeaving_96 : decode cX7_minutesUntilLeaving 96 = .ok (.iload_n 2, 1) := by decide +kernel
theorem dX7_minutesUntilLeaving_97 : decode cX7_minutesUntilLeaving 97 = .ok (.ireturn, 1) := by decide +kernel
theorem dX7_minutesUntilEqual_0 : decode cX7_minutesUntilEqual 0 = .ok (.aload_n 0, 1) := by decide +kernel
theorem dX7_minutesUntilEqual_1 : decode cX7_minutesUntilEqual 1 = .ok (.iload_n 1, 1) := by decide +kernel
theorem dX7_minutesUntilEqual_2 : decode cX7_minutesUntilEqual 2 = .ok (.invokestatic 106, 3) := by decide +kernel
theorem dX7_minutesUntilEqual_5 : decode cX7_minutesUntilEqual 5 = .ok (.invokevirtual 134, 3) := by decide +kernel
theorem dX7_minutesUntilEqual_8 : decode cX7_minutesUntilEqual 8 = .ok (.ifCond .ne 5, 3) := by decide +kernel
theorem dX7_minutesUntilEqual_11 : decode cX7_minutesUntilEqual 11 = .ok (.iconst 0, 1) := by decide +kernel
theorem dX7_minutesUntilEqual_12 : decode cX7_minutesUntilEqual 12 = .ok (.ireturn, 1) := by decide +kernel
theorem dX7_minutesUntilEqual_13 : decode cX7_minutesUntilEqual 13 = .ok (.aload_n 0, 1) := by decide +kernel
theorem dX7_minutesUntilEqual_14 : decode cX7_minutesUntilEqual 14 = .ok (.iload_n 1, 1) := by decide +kernel
theorem dX7_minutesUntilEqual_15 : decode cX7_minutesUntilEqual 15 = .ok (.invokevirtual 55, 3) := by decide +kernel
theorem dX7_minutesUntilEqual_18 : decode cX7_minutesUntilEqual 18 = .ok (.ifCond .ne 7, 3) := by decide +kernel
theorem dX7_minutesUntilEqual_21 : decode cX7_minutesUntilEqual 21 = .ok (.iconst 0, 1) := by decide +kernel
theorem dX7_minutesUntilEqual_22 : decode cX7_minutesUntilEqual 22 = .ok (.goto 4, 3) := by decide +kernel
theorem dX7_minutesUntilEqual_25 : decode cX7_minutesUntilEqual 25 = .ok (.iconst (-1), 1) := by decide +kernel
theorem dX7_minutesUntilEqual_26 : decode cX7_minutesUntilEqual 26 = .ok (.istore_n 2, 1) := by decide +kernel
theorem dX7_minutesUntilEqual_27 : decode cX7_minutesUntilEqual 27 = .ok (.aload_n 0, 1) := by decide +kernel
theorem dX7_minutesUntilEqual_28 : decode cX7_minutesUntilEqual 28 = .ok (.iconst 0, 1) := by decide +kernel
theorem dX7_minutesUntilEqual_29 : decode cX7_minutesUntilEqual 29 = .ok (.bipush 11, 2) := by decide +kernel
theorem dX7_minutesUntilEqual_31 : decode cX7_minutesUntilEqual 31 = .ok (.invokevirtual 33, 3) := by decide +kernel
theorem dX7_minutesUntilEqual_34 : decode cX7_minutesUntilEqual 34 = .ok (.iconst 1, 1) := by decide +kernel
theorem dX7_minutesUntilEqual_35 : decode cX7_minutesUntilEqual 35 = .ok (.istore_n 3, 1) := by decide +kernel
theorem dX7_minutesUntilEqual_36 : decode cX7_minutesUntilEqual 36 = .ok (.iload_n 2, 1) := by decide +kernel
theorem dX7_minutesUntilEqual_37 : decode cX7_minutesUntilEqual 37 = .ok (.ifCond .ge 36, 3) := by decide +kernel
theorem dX7_minutesUntilEqual_40 : decode cX7_minutesUntilEqual 40 = .ok (.iload_n 3, 1) := by decide +kernel
theorem dX7_minutesUntilEqual_41 : decode cX7_minutesUntilEqual 41 = .ok (.sipush 200, 3) := by decide +kernel
theorem dX7_minutesUntilEqual_44 : decode cX7_minutesUntilEqual 44 = .ok (.if_icmp .gt 29, 3) := by decide +kernel
theorem dX7_minutesUntilEqual_47 : decode cX7_minutesUntilEqual 47 = .ok (.aload_n 0, 1) := by decide +kernel
theorem dX7_minutesUntilEqual_48 : decode cX7_minutesUntilEqual 48 = .ok (.invokevirtual 125, 3) := by decide +kernel
theorem dX7_minutesUntilEqual_51 : decode cX7_minutesUntilEqual 51 = .ok (.istore 4, 2) := by decide +kernel
theorem dX7_minutesUntilEqual_53 : decode cX7_minutesUntilEqual 53 = .ok (.aload_n 0, 1) := by decide +kernel
theorem dX7_minutesUntilEqual_54 : decode cX7_minutesUntilEqual 54 = .ok (.iload_n 1, 1) := by decide +kernel
theorem dX7_minutesUntilEqual_55 : decode cX7_minutesUntilEqual 55 = .ok (.invokevirtual 55, 3) := by decide +kernel
theorem dX7_minutesUntilEqual_58 : decode cX7_minutesUntilEqual 58 = .ok (.ifCond .ne 7, 3) := by decide +kernel
theorem dX7_minutesUntilEqual_61 : decode cX7_minutesUntilEqual 61 = .ok (.iload_n 3, 1) := by decide +kernel
theorem dX7_minutesUntilEqual_62 : decode cX7_minutesUntilEqual 62 = .ok (.goto 4, 3) := by decide +kernel
theorem dX7_minutesUntilEqual_65 : decode cX7_minutesUntilEqual 65 = .ok (.iconst (-1), 1) := by decide +kernel
theorem dX7_minutesUntilEqual_66 : decode cX7_minutesUntilEqual 66 = .ok (.istore_n 2, 1) := by decide +kernel
theorem dX7_minutesUntilEqual_67 : decode cX7_minutesUntilEqual 67 = .ok (.iinc 3 1, 3) := by decide +kernel
theorem dX7_minutesUntilEqual_70 : decode cX7_minutesUntilEqual 70 = .ok (.goto (-34), 3) := by decide +kernel
theorem dX7_minutesUntilEqual_73 : decode cX7_minutesUntilEqual 73 = .ok (.aload_n 0, 1) := by decide +kernel
theorem dX7_minutesUntilEqual_74 : decode cX7_minutesUntilEqual 74 = .ok (.bipush 11, 2) := by decide +kernel
theorem dX7_minutesUntilEqual_76 : decode cX7_minutesUntilEqual 76 = .ok (.iconst 0, 1) := by decide +kernel
theorem dX7_minutesUntilEqual_77 : decode cX7_minutesUntilEqual 77 = .ok (.invokevirtual 33, 3) := by decide +kernel
theorem dX7_minutesUntilEqual_80 : decode cX7_minutesUntilEqual 80 = .ok (.aload_n 0, 1) := by decide +kernel
theorem dX7_minutesUntilEqual_81 : decode cX7_minutesUntilEqual 81 = .ok (.iload_n 2, 1) := by decide +kernel
theorem dX7_minutesUntilEqual_82 : decode cX7_minutesUntilEqual 82 = .ok (.ifCond .ge 7, 3) := by decide +kernel
theorem dX7_minutesUntilEqual_85 : decode cX7_minutesUntilEqual 85 = .ok (.iconst 2, 1) := by decide +kernel
theorem dX7_minutesUntilEqual_86 : decode cX7_minutesUntilEqual 86 = .ok (.goto 4, 3) := by decide +kernel
theorem dX7_minutesUntilEqual_89 : decode cX7_minutesUntilEqual 89 = .ok (.iconst 0, 1) := by decide +kernel
theorem dX7_minutesUntilEqual_90 : decode cX7_minutesUntilEqual 90 = .ok (.putfield 30, 3) := by decide +kernel
theorem dX7_minutesUntilEqual_93 : decode cX7_minutesUntilEqual 93 = .ok (.iload_n 2, 1) := by decide +kernel
theorem dX7_minutesUntilEqual_94 : decode cX7_minutesUntilEqual 94 = .ok (.ifCond .ge 7, 3) := by decide +kernel
theorem dX7_minutesUntilEqual_97 : decode cX7_minutesUntilEqual 97 = .ok (.iconst 0, 1) := by decide +kernel
theorem dX7_minutesUntilEqual_98 : decode cX7_minutesUntilEqual 98 = .ok (.goto 4, 3) := by decide +kernel
theorem dX7_minutesUntilEqual_101 : decode cX7_minutesUntilEqual 101 = .ok (.iload_n 2, 1) := by decide +kernel
theorem dX7_minutesUntilEqual_102 : decode cX7_minutesUntilEqual 102 = .ok (.ireturn, 1) := by decide +kernel
theorem dX7_volumeAfter_0 : decode cX7_volumeAfter 0 = .ok (.aload_n 0, 1) := by decide +kernel
theorem dX7_volumeAfter_1 : decode cX7_volumeAfter 1 = .ok (.iload_n 1, 1) := by decide +kernel
theorem dX7_volumeAfter_2 : decode cX7_volumeAfter 2 = .ok (.invokestatic 131, 3) := by decide +kernel
theorem dX7_volumeAfter_5 : decode cX7_volumeAfter 5 = .ok (.ifCond .ne 7, 3) := by decide +kernel
theorem dX7_volumeAfter_8 : decode cX7_volumeAfter 8 = .ok (.iconst 1, 1) := by decide +kernel
theorem dX7_volumeAfter_9 : decode cX7_volumeAfter 9 = .ok (.goto 19, 3) := by decide +kernel
theorem dX7_volumeAfter_12 : decode cX7_volumeAfter 12 = .ok (.iload_n 2, 1) := by decide +kernel
theorem dX7_volumeAfter_13 : decode cX7_volumeAfter 13 = .ok (.iconst 0, 1) := by decide +kernel
theorem dX7_volumeAfter_14 : decode cX7_volumeAfter 14 = .ok (.sipush 200, 3) := by decide +kernel
theorem dX7_volumeAfter_17 : decode cX7_volumeAfter 17 = .ok (.invokestatic 43, 3) := by decide +kernel
theorem dX7_volumeAfter_20 : decode cX7_volumeAfter 20 = .ok (.ifCond .eq 7, 3) := by decide +kernel
theorem dX7_volumeAfter_23 : decode cX7_volumeAfter 23 = .ok (.iconst 0, 1) := by decide +kernel
theorem dX7_volumeAfter_24 : decode cX7_volumeAfter 24 = .ok (.goto 4, 3) := by decide +kernel
theorem dX7_volumeAfter_27 : decode cX7_volumeAfter 27 = .ok (.iconst 2, 1) := by decide +kernel
theorem dX7_volumeAfter_28 : decode cX7_volumeAfter 28 = .ok (.putfield 30, 3) := by decide +kernel
theorem dX7_volumeAfter_31 : decode cX7_volumeAfter 31 = .ok (.aload_n 0, 1) := by decide +kernel
theorem dX7_volumeAfter_32 : decode cX7_volumeAfter 32 = .ok (.getfield 30, 3) := by decide +kernel
theorem dX7_volumeAfter_35 : decode cX7_volumeAfter 35 = .ok (.ifCond .eq 5, 3) := by decide +kernel
theorem dX7_volumeAfter_38 : decode cX7_volumeAfter 38 = .ok (.iconst 0, 1) := by decide +kernel
theorem dX7_volumeAfter_39 : decode cX7_volumeAfter 39 = .ok (.ireturn, 1) := by decide +kernel
theorem dX7_volumeAfter_40 : decode cX7_volumeAfter 40 = .ok (.aload_n 0, 1) := by decide +kernel
theorem dX7_volumeAfter_41 : decode cX7_volumeAfter 41 = .ok (.iconst 0, 1) := by decide +kernel
theorem dX7_volumeAfter_42 : decode cX7_volumeAfter 42 = .ok (.bipush 11, 2) := by decide +kernel
theorem dX7_volumeAfter_44 : decode cX7_volumeAfter 44 = .ok (.invokevirtual 33, 3) := by decide +kernel
theorem dX7_volumeAfter_47 : decode cX7_volumeAfter 47 = .ok (.iconst 0, 1) := by decide +kernel
theorem dX7_volumeAfter_48 : decode cX7_volumeAfter 48 = .ok (.istore_n 3, 1) := by decide +kernel
theorem dX7_volumeAfter_49 : decode cX7_volumeAfter 49 = .ok (.iload_n 3, 1) := by decide +kernel
theorem dX7_volumeAfter_50 : decode cX7_volumeAfter 50 = .ok (.iload_n 2, 1) := by decide +kernel
theorem dX7_volumeAfter_51 : decode cX7_volumeAfter 51 = .ok (.if_icmp .ge 15, 3) := by decide +kernel
theorem dX7_volumeAfter_54 : decode cX7_volumeAfter 54 = .ok (.aload_n 0, 1) := by decide +kernel
theorem dX7_volumeAfter_55 : decode cX7_volumeAfter 55 = .ok (.invokevirtual 125, 3) := by decide +kernel
theorem dX7_volumeAfter_58 : decode cX7_volumeAfter 58 = .ok (.istore 4, 2) := by decide +kernel
theorem dX7_volumeAfter_60 : decode cX7_volumeAfter 60 = .ok (.iinc 3 1, 3) := by decide +kernel
theorem dX7_volumeAfter_63 : decode cX7_volumeAfter 63 = .ok (.goto (-14), 3) := by decide +kernel
theorem dX7_volumeAfter_66 : decode cX7_volumeAfter 66 = .ok (.aload_n 0, 1) := by decide +kernel
theorem dX7_volumeAfter_67 : decode cX7_volumeAfter 67 = .ok (.getfield 9, 3) := by decide +kernel
theorem dX7_volumeAfter_70 : decode cX7_volumeAfter 70 = .ok (.bipush 11, 2) := by decide +kernel
theorem dX7_volumeAfter_72 : decode cX7_volumeAfter 72 = .ok (.iload_n 1, 1) := by decide +kernel
theorem dX7_volumeAfter_73 : decode cX7_volumeAfter 73 = .ok (.iadd, 1) := by decide +kernel
theorem dX7_volumeAfter_74 : decode cX7_volumeAfter 74 = .ok (.iaload, 1) := by decide +kernel
theorem dX7_volumeAfter_75 : decode cX7_volumeAfter 75 = .ok (.istore_n 3, 1) := by decide +kernel
theorem dX7_volumeAfter_76 : decode cX7_volumeAfter 76 = .ok (.aload_n 0, 1) := by decide +kernel
theorem dX7_volumeAfter_77 : decode cX7_volumeAfter 77 = .ok (.bipush 11, 2) := by decide +kernel
theorem dX7_volumeAfter_79 : decode cX7_volumeAfter 79 = .ok (.iconst 0, 1) := by decide +kernel
theorem dX7_volumeAfter_80 : decode cX7_volumeAfter 80 = .ok (.invokevirtual 33, 3) := by decide +kernel
theorem dX7_volumeAfter_83 : decode cX7_volumeAfter 83 = .ok (.iload_n 3, 1) := by decide +kernel
theorem dX7_volumeAfter_84 : decode cX7_volumeAfter 84 = .ok (.ireturn, 1) := by decide +kernel
theorem dX7_eventCount_0 : decode cX7_eventCount 0 = .ok (.aload_n 0, 1) := by decide +kernel
theorem dX7_eventCount_1 : decode cX7_eventCount 1 = .ok (.bipush 7, 2) := by decide +kernel
theorem dX7_eventCount_3 : decode cX7_eventCount 3 = .ok (.invokevirtual 141, 3) := by decide +kernel
theorem dX7_eventCount_6 : decode cX7_eventCount 6 = .ok (.ireturn, 1) := by decide +kernel
theorem dX7_isEvent_0 : decode cX7_isEvent 0 = .ok (.iload_n 1, 1) := by decide +kernel
theorem dX7_isEvent_1 : decode cX7_isEvent 1 = .ok (.iconst 0, 1) := by decide +kernel
theorem dX7_isEvent_2 : decode cX7_isEvent 2 = .ok (.aload_n 0, 1) := by decide +kernel
theorem dX7_isEvent_3 : decode cX7_isEvent 3 = .ok (.getfield 9, 3) := by decide +kernel
theorem dX7_isEvent_6 : decode cX7_isEvent 6 = .ok (.bipush 7, 2) := by decide +kernel
theorem dX7_isEvent_8 : decode cX7_isEvent 8 = .ok (.iaload, 1) := by decide +kernel
theorem dX7_isEvent_9 : decode cX7_isEvent 9 = .ok (.iconst 1, 1) := by decide +kernel
theorem dX7_isEvent_10 : decode cX7_isEvent 10 = .ok (.isub, 1) := by decide +kernel
theorem dX7_isEvent_11 : decode cX7_isEvent 11 = .ok (.invokestatic 43, 3) := by decide +kernel
theorem dX7_isEvent_14 : decode cX7_isEvent 14 = .ok (.ireturn, 1) := by decide +kernel
theorem dX7_eventKind_0 : decode cX7_eventKind 0 = .ok (.aload_n 0, 1) := by decide +kernel
theorem dX7_eventKind_1 : decode cX7_eventKind 1 = .ok (.aload_n 0, 1) := by decide +kernel
theorem dX7_eventKind_2 : decode cX7_eventKind 2 = .ok (.iload_n 1, 1) := by decide +kernel
theorem dX7_eventKind_3 : decode cX7_eventKind 3 = .ok (.invokevirtual 164, 3) := by decide +kernel
theorem dX7_eventKind_6 : decode cX7_eventKind 6 = .ok (.invokevirtual 134, 3) := by decide +kernel
theorem dX7_eventKind_9 : decode cX7_eventKind 9 = .ok (.ifCond .eq 18, 3) := by decide +kernel
theorem dX7_eventKind_12 : decode cX7_eventKind 12 = .ok (.aload_n 0, 1) := by decide +kernel
theorem dX7_eventKind_13 : decode cX7_eventKind 13 = .ok (.getfield 9, 3) := by decide +kernel
theorem dX7_eventKind_16 : decode cX7_eventKind 16 = .ok (.bipush 24, 2) := by decide +kernel
theorem dX7_eventKind_18 : decode cX7_eventKind 18 = .ok (.iconst 2, 1) := by decide +kernel
theorem dX7_eventKind_19 : decode cX7_eventKind 19 = .ok (.iload_n 1, 1) := by decide +kernel
theorem dX7_eventKind_20 : decode cX7_eventKind 20 = .ok (.imul, 1) := by decide +kernel
theorem dX7_eventKind_21 : decode cX7_eventKind 21 = .ok (.iadd, 1) := by decide +kernel
theorem dX7_eventKind_22 : decode cX7_eventKind 22 = .ok (.iaload, 1) := by decide +kernel
theorem dX7_eventKind_23 : decode cX7_eventKind 23 = .ok (.i2c, 1) := by decide +kernel
theorem dX7_eventKind_24 : decode cX7_eventKind 24 = .ok (.goto 4, 3) := by decide +kernel
theorem dX7_eventKind_27 : decode cX7_eventKind 27 = .ok (.iconst 0, 1) := by decide +kernel
theorem dX7_eventKind_28 : decode cX7_eventKind 28 = .ok (.ireturn, 1) := by decide +kernel
theorem dX7_eventNumber_0 : decode cX7_eventNumber 0 = .ok (.aload_n 0, 1) := by decide +kernel
theorem dX7_eventNumber_1 : decode cX7_eventNumber 1 = .ok (.aload_n 0, 1) := by decide +kernel
theorem dX7_eventNumber_2 : decode cX7_eventNumber 2 = .ok (.iload_n 1, 1) := by decide +kernel
theorem dX7_eventNumber_3 : decode cX7_eventNumber 3 = .ok (.invokevirtual 164, 3) := by decide +kernel
theorem dX7_eventNumber_6 : decode cX7_eventNumber 6 = .ok (.invokevirtual 134, 3) := by decide +kernel
theorem dX7_eventNumber_9 : decode cX7_eventNumber 9 = .ok (.ifCond .eq 19, 3) := by decide +kernel
theorem dX7_eventNumber_12 : decode cX7_eventNumber 12 = .ok (.aload_n 0, 1) := by decide +kernel
theorem dX7_eventNumber_13 : decode cX7_eventNumber 13 = .ok (.getfield 9, 3) := by decide +kernel
theorem dX7_eventNumber_16 : decode cX7_eventNumber 16 = .ok (.bipush 24, 2) := by decide +kernel
theorem dX7_eventNumber_18 : decode cX7_eventNumber 18 = .ok (.iconst 2, 1) := by decide +kernel
theorem dX7_eventNumber_19 : decode cX7_eventNumber 19 = .ok (.iload_n 1, 1) := by decide +kernel
theorem dX7_eventNumber_20 : decode cX7_eventNumber 20 = .ok (.imul, 1) := by decide +kernel
theorem dX7_eventNumber_21 : decode cX7_eventNumber 21 = .ok (.iadd, 1) := by decide +kernel
theorem dX7_eventNumber_22 : decode cX7_eventNumber 22 = .ok (.iconst 1, 1) := by decide +kernel
theorem dX7_eventNumber_23 : decode cX7_eventNumber 23 = .ok (.iadd, 1) := by decide +kernel
theorem dX7_eventNumber_24 : decode cX7_eventNumber 24 = .ok (.iaload, 1) := by decide +kernel
theorem dX7_eventNumber_25 : decode cX7_eventNumber 25 = .ok (.goto 4, 3) := by decide +kernel
theorem dX7_eventNumber_28 : decode cX7_eventNumber 28 = .ok (.iconst 0, 1) := by decide +kernel
theorem dX7_eventNumber_29 : decode cX7_eventNumber 29 = .ok (.ireturn, 1) := by decide +kernel
theorem dX7_time_0 : decode cX7_time 0 = .ok (.aload_n 0, 1) := by decide +kernel
theorem dX7_time_1 : decode cX7_time 1 = .ok (.iconst 0, 1) := by decide +kernel
theorem dX7_time_2 : decode cX7_time 2 = .ok (.invokevirtual 141, 3) := by decide +kernel
theorem dX7_time_5 : decode cX7_time 5 = .ok (.ireturn, 1) := by decide +kernel
theorem dX7_meanLevel_0 : decode cX7_meanLevel 0 = .ok (.aload_n 0, 1) := by decide +kernel
theorem dX7_meanLevel_1 : decode cX7_meanLevel 1 = .ok (.iconst 0, 1) := by decide +kernel
theorem dX7_meanLevel_2 : decode cX7_meanLevel 2 = .ok (.putfield 30, 3) := by decide +kernel
theorem dX7_meanLevel_5 : decode cX7_meanLevel 5 = .ok (.aload_n 0, 1) := by decide +kernel
theorem dX7_meanLevel_6 : decode cX7_meanLevel 6 = .ok (.invokevirtual 144, 3) := by decide +kernel
theorem dX7_meanLevel_9 : decode cX7_meanLevel 9 = .ok (.i2f, 1) := by decide +kernel
theorem dX7_meanLevel_10 : decode cX7_meanLevel 10 = .ok (.ldc 167, 2) := by decide +kernel
theorem dX7_meanLevel_12 : decode cX7_meanLevel 12 = .ok (.fdiv, 1) := by decide +kernel
theorem dX7_meanLevel_13 : decode cX7_meanLevel 13 = .ok (.freturn, 1) := by decide +kernel
theorem dX7_isConsistent_0 : decode cX7_isConsistent 0 = .ok (.aload_n 0, 1) := by decide +kernel
theorem dX7_isConsistent_1 : decode cX7_isConsistent 1 = .ok (.iconst 0, 1) := by decide +kernel
theorem dX7_isConsistent_2 : decode cX7_isConsistent 2 = .ok (.putfield 30, 3) := by decide +kernel
theorem dX7_isConsistent_5 : decode cX7_isConsistent 5 = .ok (.iconst 1, 1) := by decide +kernel
theorem dX7_isConsistent_6 : decode cX7_isConsistent 6 = .ok (.ireturn, 1) := by decide +kernel
theorem dX7_writes_0 : decode cX7_writes 0 = .ok (.aload_n 0, 1) := by decide +kernel
theorem dX7_writes_1 : decode cX7_writes 1 = .ok (.getfield 13, 3) := by decide +kernel
theorem dX7_writes_4 : decode cX7_writes 4 = .ok (.aload_n 0, 1) := by decide +kernel
theorem dX7_writes_5 : decode cX7_writes 5 = .ok (.getfield 168, 3) := by decide +kernel
theorem dX7_writes_8 : decode cX7_writes 8 = .ok (.iload_n 1, 1) := by decide +kernel
theorem dX7_writes_9 : decode cX7_writes 9 = .ok (.i2c, 1) := by decide +kernel
theorem dX7_writes_10 : decode cX7_writes 10 = .ok (.castore, 1) := by decide +kernel
theorem dX7_writes_11 : decode cX7_writes 11 = .ok (.aload_n 0, 1) := by decide +kernel
theorem dX7_writes_12 : decode cX7_writes 12 = .ok (.dup, 1) := by decide +kernel
theorem dX7_writes_13 : decode cX7_writes 13 = .ok (.getfield 168, 3) := by decide +kernel
theorem dX7_writes_16 : decode cX7_writes 16 = .ok (.iconst 1, 1) := by decide +kernel
theorem dX7_writes_17 : decode cX7_writes 17 = .ok (.iadd, 1) := by decide +kernel
theorem dX7_writes_18 : decode cX7_writes 18 = .ok (.putfield 168, 3) := by decide +kernel
theorem dX7_writes_21 : decode cX7_writes 21 = .ok (.return_, 1) := by decide +kernel
theorem dX7_writesNumber_0 : decode cX7_writesNumber 0 = .ok (.iload_n 1, 1) := by decide +kernel
theorem dX7_writesNumber_1 : decode cX7_writesNumber 1 = .ok (.bipush 9, 2) := by decide +kernel
theorem dX7_writesNumber_3 : decode cX7_writesNumber 3 = .ok (.if_icmp .le 11, 3) := by decide +kernel
theorem dX7_writesNumber_6 : decode cX7_writesNumber 6 = .ok (.aload_n 0, 1) := by decide +kernel
theorem dX7_writesNumber_7 : decode cX7_writesNumber 7 = .ok (.iload_n 1, 1) := by decide +kernel
theorem dX7_writesNumber_8 : decode cX7_writesNumber 8 = .ok (.bipush 10, 2) := by decide +kernel
theorem dX7_writesNumber_10 : decode cX7_writesNumber 10 = .ok (.idiv, 1) := by decide +kernel
theorem dX7_writesNumber_11 : decode cX7_writesNumber 11 = .ok (.invokevirtual 171, 3) := by decide +kernel
theorem dX7_writesNumber_14 : decode cX7_writesNumber 14 = .ok (.aload_n 0, 1) := by decide +kernel
theorem dX7_writesNumber_15 : decode cX7_writesNumber 15 = .ok (.bipush 48, 2) := by decide +kernel
theorem dX7_writesNumber_17 : decode cX7_writesNumber 17 = .ok (.iload_n 1, 1) := by decide +kernel
theorem dX7_writesNumber_18 : decode cX7_writesNumber 18 = .ok (.bipush 10, 2) := by decide +kernel
theorem dX7_writesNumber_20 : decode cX7_writesNumber 20 = .ok (.irem, 1) := by decide +kernel
theorem dX7_writesNumber_21 : decode cX7_writesNumber 21 = .ok (.iadd, 1) := by decide +kernel
theorem dX7_writesNumber_22 : decode cX7_writesNumber 22 = .ok (.invokevirtual 174, 3) := by decide +kernel
theorem dX7_writesNumber_25 : decode cX7_writesNumber 25 = .ok (.return_, 1) := by decide +kernel
theorem dX7_renderLevels_0 : decode cX7_renderLevels 0 = .ok (.aload_n 0, 1) := by decide +kernel
theorem dX7_renderLevels_1 : decode cX7_renderLevels 1 = .ok (.iconst 0, 1) := by decide +kernel
theorem dX7_renderLevels_2 : decode cX7_renderLevels 2 = .ok (.putfield 30, 3) := by decide +kernel
theorem dX7_renderLevels_5 : decode cX7_renderLevels 5 = .ok (.aload_n 0, 1) := by decide +kernel
theorem dX7_renderLevels_6 : decode cX7_renderLevels 6 = .ok (.iconst 0, 1) := by decide +kernel
theorem dX7_renderLevels_7 : decode cX7_renderLevels 7 = .ok (.putfield 168, 3) := by decide +kernel
theorem dX7_renderLevels_10 : decode cX7_renderLevels 10 = .ok (.iconst 0, 1) := by decide +kernel
theorem dX7_renderLevels_11 : decode cX7_renderLevels 11 = .ok (.istore_n 1, 1) := by decide +kernel
theorem dX7_renderLevels_12 : decode cX7_renderLevels 12 = .ok (.iload_n 1, 1) := by decide +kernel
theorem dX7_renderLevels_13 : decode cX7_renderLevels 13 = .ok (.iconst 5, 1) := by decide +kernel
theorem dX7_renderLevels_14 : decode cX7_renderLevels 14 = .ok (.if_icmp .ge 57, 3) := by decide +kernel
theorem dX7_renderLevels_17 : decode cX7_renderLevels 17 = .ok (.iload_n 1, 1) := by decide +kernel
theorem dX7_renderLevels_18 : decode cX7_renderLevels 18 = .ok (.ifCond .le 29, 3) := by decide +kernel
theorem dX7_renderLevels_21 : decode cX7_renderLevels 21 = .ok (.aload_n 0, 1) := by decide +kernel
theorem dX7_renderLevels_22 : decode cX7_renderLevels 22 = .ok (.aload_n 0, 1) := by decide +kernel
theorem dX7_renderLevels_23 : decode cX7_renderLevels 23 = .ok (.getfield 9, 3) := by decide +kernel
theorem dX7_renderLevels_26 : decode cX7_renderLevels 26 = .ok (.bipush 20, 2) := by decide +kernel
theorem dX7_renderLevels_28 : decode cX7_renderLevels 28 = .ok (.iload_n 1, 1) := by decide +kernel
theorem dX7_renderLevels_29 : decode cX7_renderLevels 29 = .ok (.iadd, 1) := by decide +kernel
theorem dX7_renderLevels_30 : decode cX7_renderLevels 30 = .ok (.iconst 1, 1) := by decide +kernel
theorem dX7_renderLevels_31 : decode cX7_renderLevels 31 = .ok (.isub, 1) := by decide +kernel
theorem dX7_renderLevels_32 : decode cX7_renderLevels 32 = .ok (.iaload, 1) := by decide +kernel
theorem dX7_renderLevels_33 : decode cX7_renderLevels 33 = .ok (.iconst 1, 1) := by decide +kernel
theorem dX7_renderLevels_34 : decode cX7_renderLevels 34 = .ok (.if_icmp .ne 8, 3) := by decide +kernel
theorem dX7_renderLevels_37 : decode cX7_renderLevels 37 = .ok (.bipush 47, 2) := by decide +kernel
theorem dX7_renderLevels_39 : decode cX7_renderLevels 39 = .ok (.goto 5, 3) := by decide +kernel
theorem dX7_renderLevels_42 : decode cX7_renderLevels 42 = .ok (.bipush 124, 2) := by decide +kernel
theorem dX7_renderLevels_44 : decode cX7_renderLevels 44 = .ok (.invokevirtual 174, 3) := by decide +kernel
theorem dX7_renderLevels_47 : decode cX7_renderLevels 47 = .ok (.aload_n 0, 1) := by decide +kernel
theorem dX7_renderLevels_48 : decode cX7_renderLevels 48 = .ok (.aload_n 0, 1) := by decide +kernel
theorem dX7_renderLevels_49 : decode cX7_renderLevels 49 = .ok (.getfield 9, 3) := by decide +kernel
theorem dX7_renderLevels_52 : decode cX7_renderLevels 52 = .ok (.bipush 11, 2) := by decide +kernel
theorem dX7_renderLevels_54 : decode cX7_renderLevels 54 = .ok (.iload_n 1, 1) := by decide +kernel
theorem dX7_renderLevels_55 : decode cX7_renderLevels 55 = .ok (.iadd, 1) := by decide +kernel
theorem dX7_renderLevels_56 : decode cX7_renderLevels 56 = .ok (.iaload, 1) := by decide +kernel
theorem dX7_renderLevels_57 : decode cX7_renderLevels 57 = .ok (.iload_n 1, 1) := by decide +kernel
theorem dX7_renderLevels_58 : decode cX7_renderLevels 58 = .ok (.invokestatic 47, 3) := by decide +kernel
theorem dX7_renderLevels_61 : decode cX7_renderLevels 61 = .ok (.idiv, 1) := by decide +kernel
theorem dX7_renderLevels_62 : decode cX7_renderLevels 62 = .ok (.invokevirtual 171, 3) := by decide +kernel
theorem dX7_renderLevels_65 : decode cX7_renderLevels 65 = .ok (.iinc 1 1, 3) := by decide +kernel
theorem dX7_renderLevels_68 : decode cX7_renderLevels 68 = .ok (.goto (-56), 3) := by decide +kernel
theorem dX7_renderLevels_71 : decode cX7_renderLevels 71 = .ok (.aload_n 0, 1) := by decide +kernel
theorem dX7_renderLevels_72 : decode cX7_renderLevels 72 = .ok (.getfield 168, 3) := by decide +kernel
theorem dX7_renderLevels_75 : decode cX7_renderLevels 75 = .ok (.ireturn, 1) := by decide +kernel
theorem dX7_renderBoat_0 : decode cX7_renderBoat 0 = .ok (.aload_n 0, 1) := by decide +kernel
theorem dX7_renderBoat_1 : decode cX7_renderBoat 1 = .ok (.aload_n 0, 1) := by decide +kernel
theorem dX7_renderBoat_2 : decode cX7_renderBoat 2 = .ok (.iload_n 1, 1) := by decide +kernel
theorem dX7_renderBoat_3 : decode cX7_renderBoat 3 = .ok (.invokevirtual 150, 3) := by decide +kernel
theorem dX7_renderBoat_6 : decode cX7_renderBoat 6 = .ok (.invokevirtual 134, 3) := by decide +kernel
theorem dX7_renderBoat_9 : decode cX7_renderBoat 9 = .ok (.ifCond .ne 5, 3) := by decide +kernel
theorem dX7_renderBoat_12 : decode cX7_renderBoat 12 = .ok (.iconst 0, 1) := by decide +kernel
theorem dX7_renderBoat_13 : decode cX7_renderBoat 13 = .ok (.ireturn, 1) := by decide +kernel
theorem dX7_renderBoat_14 : decode cX7_renderBoat 14 = .ok (.aload_n 0, 1) := by decide +kernel
theorem dX7_renderBoat_15 : decode cX7_renderBoat 15 = .ok (.iconst 0, 1) := by decide +kernel
theorem dX7_renderBoat_16 : decode cX7_renderBoat 16 = .ok (.putfield 168, 3) := by decide +kernel
theorem dX7_renderBoat_19 : decode cX7_renderBoat 19 = .ok (.aload_n 0, 1) := by decide +kernel
theorem dX7_renderBoat_20 : decode cX7_renderBoat 20 = .ok (.aload_n 0, 1) := by decide +kernel
theorem dX7_renderBoat_21 : decode cX7_renderBoat 21 = .ok (.iload_n 1, 1) := by decide +kernel
theorem dX7_renderBoat_22 : decode cX7_renderBoat 22 = .ok (.iconst 0, 1) := by decide +kernel
theorem dX7_renderBoat_23 : decode cX7_renderBoat 23 = .ok (.invokevirtual 61, 3) := by decide +kernel
theorem dX7_renderBoat_26 : decode cX7_renderBoat 26 = .ok (.invokestatic 153, 3) := by decide +kernel
theorem dX7_renderBoat_29 : decode cX7_renderBoat 29 = .ok (.invokevirtual 174, 3) := by decide +kernel
theorem dX7_renderBoat_32 : decode cX7_renderBoat 32 = .ok (.aload_n 0, 1) := by decide +kernel
theorem dX7_renderBoat_33 : decode cX7_renderBoat 33 = .ok (.aload_n 0, 1) := by decide +kernel
theorem dX7_renderBoat_34 : decode cX7_renderBoat 34 = .ok (.iload_n 1, 1) := by decide +kernel
theorem dX7_renderBoat_35 : decode cX7_renderBoat 35 = .ok (.iconst 1, 1) := by decide +kernel
theorem dX7_renderBoat_36 : decode cX7_renderBoat 36 = .ok (.invokevirtual 61, 3) := by decide +kernel
theorem dX7_renderBoat_39 : decode cX7_renderBoat 39 = .ok (.invokevirtual 171, 3) := by decide +kernel
theorem dX7_renderBoat_42 : decode cX7_renderBoat 42 = .ok (.aload_n 0, 1) := by decide +kernel
theorem dX7_renderBoat_43 : decode cX7_renderBoat 43 = .ok (.aload_n 0, 1) := by decide +kernel
theorem dX7_renderBoat_44 : decode cX7_renderBoat 44 = .ok (.iload_n 1, 1) := by decide +kernel
theorem dX7_renderBoat_45 : decode cX7_renderBoat 45 = .ok (.iconst 2, 1) := by decide +kernel
theorem dX7_renderBoat_46 : decode cX7_renderBoat 46 = .ok (.invokevirtual 61, 3) := by decide +kernel
theorem dX7_renderBoat_49 : decode cX7_renderBoat 49 = .ok (.iconst 1, 1) := by decide +kernel
theorem dX7_renderBoat_50 : decode cX7_renderBoat 50 = .ok (.if_icmp .ne 8, 3) := by decide +kernel
theorem dX7_renderBoat_53 : decode cX7_renderBoat 53 = .ok (.bipush 118, 2) := by decide +kernel
theorem dX7_renderBoat_55 : decode cX7_renderBoat 55 = .ok (.goto 5, 3) := by decide +kernel
theorem dX7_renderBoat_58 : decode cX7_renderBoat 58 = .ok (.bipush 94, 2) := by decide +kernel
theorem dX7_renderBoat_60 : decode cX7_renderBoat 60 = .ok (.invokevirtual 174, 3) := by decide +kernel
theorem dX7_renderBoat_63 : decode cX7_renderBoat 63 = .ok (.aload_n 0, 1) := by decide +kernel
theorem dX7_renderBoat_64 : decode cX7_renderBoat 64 = .ok (.aload_n 0, 1) := by decide +kernel
theorem dX7_renderBoat_65 : decode cX7_renderBoat 65 = .ok (.iload_n 1, 1) := by decide +kernel
theorem dX7_renderBoat_66 : decode cX7_renderBoat 66 = .ok (.iconst 3, 1) := by decide +kernel
theorem dX7_renderBoat_67 : decode cX7_renderBoat 67 = .ok (.invokevirtual 61, 3) := by decide +kernel
theorem dX7_renderBoat_70 : decode cX7_renderBoat 70 = .ok (.invokevirtual 171, 3) := by decide +kernel
theorem dX7_renderBoat_73 : decode cX7_renderBoat 73 = .ok (.aload_n 0, 1) := by decide +kernel
theorem dX7_renderBoat_74 : decode cX7_renderBoat 74 = .ok (.getfield 168, 3) := by decide +kernel
theorem dX7_renderBoat_77 : decode cX7_renderBoat 77 = .ok (.ireturn, 1) := by decide +kernel
theorem dX7_outputAt_0 : decode cX7_outputAt 0 = .ok (.aload_n 0, 1) := by decide +kernel
theorem dX7_outputAt_1 : decode cX7_outputAt 1 = .ok (.iload_n 1, 1) := by decide +kernel
theorem dX7_outputAt_2 : decode cX7_outputAt 2 = .ok (.iconst 0, 1) := by decide +kernel
theorem dX7_outputAt_3 : decode cX7_outputAt 3 = .ok (.aload_n 0, 1) := by decide +kernel
theorem dX7_outputAt_4 : decode cX7_outputAt 4 = .ok (.getfield 168, 3) := by decide +kernel
theorem dX7_outputAt_7 : decode cX7_outputAt 7 = .ok (.iconst 1, 1) := by decide +kernel
theorem dX7_outputAt_8 : decode cX7_outputAt 8 = .ok (.isub, 1) := by decide +kernel
theorem dX7_outputAt_9 : decode cX7_outputAt 9 = .ok (.invokestatic 43, 3) := by decide +kernel
theorem dX7_outputAt_12 : decode cX7_outputAt 12 = .ok (.invokevirtual 134, 3) := by decide +kernel
theorem dX7_outputAt_15 : decode cX7_outputAt 15 = .ok (.ifCond .eq 12, 3) := by decide +kernel
theorem dX7_outputAt_18 : decode cX7_outputAt 18 = .ok (.aload_n 0, 1) := by decide +kernel
theorem dX7_outputAt_19 : decode cX7_outputAt 19 = .ok (.getfield 13, 3) := by decide +kernel
theorem dX7_outputAt_22 : decode cX7_outputAt 22 = .ok (.iload_n 1, 1) := by decide +kernel
theorem dX7_outputAt_23 : decode cX7_outputAt 23 = .ok (.caload, 1) := by decide +kernel
theorem dX7_outputAt_24 : decode cX7_outputAt 24 = .ok (.goto 4, 3) := by decide +kernel
theorem dX7_outputAt_27 : decode cX7_outputAt 27 = .ok (.iconst 0, 1) := by decide +kernel
theorem dX7_outputAt_28 : decode cX7_outputAt 28 = .ok (.ireturn, 1) := by decide +kernel
theorem dX7_type_0 : decode cX7_type 0 = .ok (.aload_n 0, 1) := by decide +kernel
theorem dX7_type_1 : decode cX7_type 1 = .ok (.iload_n 1, 1) := by decide +kernel
theorem dX7_type_2 : decode cX7_type 2 = .ok (.bipush 32, 2) := by decide +kernel
theorem dX7_type_4 : decode cX7_type 4 = .ok (.bipush 126, 2) := by decide +kernel
theorem dX7_type_6 : decode cX7_type 6 = .ok (.invokestatic 43, 3) := by decide +kernel
theorem dX7_type_9 : decode cX7_type 9 = .ok (.ifCond .ne 7, 3) := by decide +kernel
theorem dX7_type_12 : decode cX7_type 12 = .ok (.iconst 1, 1) := by decide +kernel
theorem dX7_type_13 : decode cX7_type 13 = .ok (.goto 17, 3) := by decide +kernel
theorem dX7_type_16 : decode cX7_type 16 = .ok (.aload_n 0, 1) := by decide +kernel
theorem dX7_type_17 : decode cX7_type 17 = .ok (.getfield 177, 3) := by decide +kernel
theorem dX7_type_20 : decode cX7_type 20 = .ok (.bipush 60, 2) := by decide +kernel
theorem dX7_type_22 : decode cX7_type 22 = .ok (.if_icmp .ne 7, 3) := by decide +kernel
theorem dX7_type_25 : decode cX7_type 25 = .ok (.iconst 2, 1) := by decide +kernel
theorem dX7_type_26 : decode cX7_type 26 = .ok (.goto 4, 3) := by decide +kernel
theorem dX7_type_29 : decode cX7_type 29 = .ok (.iconst 0, 1) := by decide +kernel
theorem dX7_type_30 : decode cX7_type 30 = .ok (.putfield 30, 3) := by decide +kernel
theorem dX7_type_33 : decode cX7_type 33 = .ok (.aload_n 0, 1) := by decide +kernel
theorem dX7_type_34 : decode cX7_type 34 = .ok (.getfield 30, 3) := by decide +kernel
theorem dX7_type_37 : decode cX7_type 37 = .ok (.ifCond .eq 5, 3) := by decide +kernel
theorem dX7_type_40 : decode cX7_type 40 = .ok (.iconst 0, 1) := by decide +kernel
theorem dX7_type_41 : decode cX7_type 41 = .ok (.ireturn, 1) := by decide +kernel
theorem dX7_type_42 : decode cX7_type 42 = .ok (.aload_n 0, 1) := by decide +kernel
theorem dX7_type_43 : decode cX7_type 43 = .ok (.getfield 17, 3) := by decide +kernel
theorem dX7_type_46 : decode cX7_type 46 = .ok (.aload_n 0, 1) := by decide +kernel
theorem dX7_type_47 : decode cX7_type 47 = .ok (.getfield 177, 3) := by decide +kernel
theorem dX7_type_50 : decode cX7_type 50 = .ok (.iload_n 1, 1) := by decide +kernel
theorem dX7_type_51 : decode cX7_type 51 = .ok (.castore, 1) := by decide +kernel
theorem dX7_type_52 : decode cX7_type 52 = .ok (.aload_n 0, 1) := by decide +kernel
theorem dX7_type_53 : decode cX7_type 53 = .ok (.dup, 1) := by decide +kernel
theorem dX7_type_54 : decode cX7_type 54 = .ok (.getfield 177, 3) := by decide +kernel
theorem dX7_type_57 : decode cX7_type 57 = .ok (.iconst 1, 1) := by decide +kernel
theorem dX7_type_58 : decode cX7_type 58 = .ok (.iadd, 1) := by decide +kernel
theorem dX7_type_59 : decode cX7_type 59 = .ok (.putfield 177, 3) := by decide +kernel
theorem dX7_type_62 : decode cX7_type 62 = .ok (.aload_n 0, 1) := by decide +kernel
theorem dX7_type_63 : decode cX7_type 63 = .ok (.getfield 177, 3) := by decide +kernel
theorem dX7_type_66 : decode cX7_type 66 = .ok (.ireturn, 1) := by decide +kernel
theorem dX7_sign_0 : decode cX7_sign 0 = .ok (.aload_n 0, 1) := by decide +kernel
theorem dX7_sign_1 : decode cX7_sign 1 = .ok (.getfield 180, 3) := by decide +kernel
theorem dX7_sign_4 : decode cX7_sign 4 = .ok (.aload_n 0, 1) := by decide +kernel
theorem dX7_sign_5 : decode cX7_sign 5 = .ok (.getfield 177, 3) := by decide +kernel
theorem dX7_sign_8 : decode cX7_sign 8 = .ok (.if_icmp .ge 15, 3) := by decide +kernel
theorem dX7_sign_11 : decode cX7_sign 11 = .ok (.aload_n 0, 1) := by decide +kernel
theorem dX7_sign_12 : decode cX7_sign 12 = .ok (.getfield 17, 3) := by decide +kernel
theorem dX7_sign_15 : decode cX7_sign 15 = .ok (.aload_n 0, 1) := by decide +kernel
theorem dX7_sign_16 : decode cX7_sign 16 = .ok (.getfield 180, 3) := by decide +kernel
theorem dX7_sign_19 : decode cX7_sign 19 = .ok (.caload, 1) := by decide +kernel
theorem dX7_sign_20 : decode cX7_sign 20 = .ok (.goto 4, 3) := by decide +kernel
theorem dX7_sign_23 : decode cX7_sign 23 = .ok (.iconst (-1), 1) := by decide +kernel
theorem dX7_sign_24 : decode cX7_sign 24 = .ok (.ireturn, 1) := by decide +kernel
theorem dX7_needs_0 : decode cX7_needs 0 = .ok (.aload_n 0, 1) := by decide +kernel
theorem dX7_needs_1 : decode cX7_needs 1 = .ok (.getfield 183, 3) := by decide +kernel
theorem dX7_needs_4 : decode cX7_needs 4 = .ok (.ifCond .lt 4, 3) := by decide +kernel
theorem dX7_needs_7 : decode cX7_needs 7 = .ok (.return_, 1) := by decide +kernel
theorem dX7_needs_8 : decode cX7_needs 8 = .ok (.aload_n 0, 1) := by decide +kernel
theorem dX7_needs_9 : decode cX7_needs 9 = .ok (.invokevirtual 186, 3) := by decide +kernel
theorem dX7_needs_12 : decode cX7_needs 12 = .ok (.iload_n 1, 1) := by decide +kernel
theorem dX7_needs_13 : decode cX7_needs 13 = .ok (.if_icmp .eq 12, 3) := by decide +kernel
theorem dX7_needs_16 : decode cX7_needs 16 = .ok (.aload_n 0, 1) := by decide +kernel
theorem dX7_needs_17 : decode cX7_needs 17 = .ok (.aload_n 0, 1) := by decide +kernel
theorem dX7_needs_18 : decode cX7_needs 18 = .ok (.getfield 180, 3) := by decide +kernel
theorem dX7_needs_21 : decode cX7_needs 21 = .ok (.putfield 183, 3) := by decide +kernel
theorem dX7_needs_24 : decode cX7_needs 24 = .ok (.return_, 1) := by decide +kernel
theorem dX7_needs_25 : decode cX7_needs 25 = .ok (.aload_n 0, 1) := by decide +kernel
theorem dX7_needs_26 : decode cX7_needs 26 = .ok (.dup, 1) := by decide +kernel
theorem dX7_needs_27 : decode cX7_needs 27 = .ok (.getfield 180, 3) := by decide +kernel
theorem dX7_needs_30 : decode cX7_needs 30 = .ok (.iconst 1, 1) := by decide +kernel
theorem dX7_needs_31 : decode cX7_needs 31 = .ok (.iadd, 1) := by decide +kernel
theorem dX7_needs_32 : decode cX7_needs 32 = .ok (.putfield 180, 3) := by decide +kernel
theorem dX7_needs_35 : decode cX7_needs 35 = .ok (.return_, 1) := by decide +kernel
theorem dX7_letters_0 : decode cX7_letters 0 = .ok (.aload_n 0, 1) := by decide +kernel
theorem dX7_letters_1 : decode cX7_letters 1 = .ok (.iload_n 1, 1) := by decide +kernel
theorem dX7_letters_2 : decode cX7_letters 2 = .ok (.invokevirtual 189, 3) := by decide +kernel
theorem dX7_letters_5 : decode cX7_letters 5 = .ok (.aload_n 0, 1) := by decide +kernel
theorem dX7_letters_6 : decode cX7_letters 6 = .ok (.iload_n 2, 1) := by decide +kernel
theorem dX7_letters_7 : decode cX7_letters 7 = .ok (.invokevirtual 189, 3) := by decide +kernel
theorem dX7_letters_10 : decode cX7_letters 10 = .ok (.aload_n 0, 1) := by decide +kernel
theorem dX7_letters_11 : decode cX7_letters 11 = .ok (.iload_n 3, 1) := by decide +kernel
theorem dX7_letters_12 : decode cX7_letters 12 = .ok (.invokevirtual 189, 3) := by decide +kernel
theorem dX7_letters_15 : decode cX7_letters 15 = .ok (.return_, 1) := by decide +kernel
theorem dX7_number_0 : decode cX7_number 0 = .ok (.aload_n 0, 1) := by decide +kernel
theorem dX7_number_1 : decode cX7_number 1 = .ok (.getfield 183, 3) := by decide +kernel
theorem dX7_number_4 : decode cX7_number 4 = .ok (.ifCond .lt 5, 3) := by decide +kernel
theorem dX7_number_7 : decode cX7_number 7 = .ok (.iconst 0, 1) := by decide +kernel
theorem dX7_number_8 : decode cX7_number 8 = .ok (.ireturn, 1) := by decide +kernel
theorem dX7_number_9 : decode cX7_number 9 = .ok (.aload_n 0, 1) := by decide +kernel
theorem dX7_number_10 : decode cX7_number 10 = .ok (.invokevirtual 186, 3) := by decide +kernel
theorem dX7_number_13 : decode cX7_number 13 = .ok (.bipush 48, 2) := by decide +kernel
theorem dX7_number_15 : decode cX7_number 15 = .ok (.bipush 57, 2) := by decide +kernel
theorem dX7_number_17 : decode cX7_number 17 = .ok (.invokestatic 43, 3) := by decide +kernel
theorem dX7_number_20 : decode cX7_number 20 = .ok (.ifCond .ne 13, 3) := by decide +kernel
theorem dX7_number_23 : decode cX7_number 23 = .ok (.aload_n 0, 1) := by decide +kernel
theorem dX7_number_24 : decode cX7_number 24 = .ok (.aload_n 0, 1) := by decide +kernel
theorem dX7_number_25 : decode cX7_number 25 = .ok (.getfield 180, 3) := by decide +kernel
theorem dX7_number_28 : decode cX7_number 28 = .ok (.putfield 183, 3) := by decide +kernel
theorem dX7_number_31 : decode cX7_number 31 = .ok (.iconst 0, 1) := by decide +kernel
theorem dX7_number_32 : decode cX7_number 32 = .ok (.ireturn, 1) := by decide +kernel
theorem dX7_number_33 : decode cX7_number 33 = .ok (.iconst 0, 1) := by decide +kernel
theorem dX7_number_34 : decode cX7_number 34 = .ok (.istore_n 2, 1) := by decide +kernel
theorem dX7_number_35 : decode cX7_number 35 = .ok (.iconst 0, 1) := by decide +kernel
theorem dX7_number_36 : decode cX7_number 36 = .ok (.istore_n 3, 1) := by decide +kernel
theorem dX7_number_37 : decode cX7_number 37 = .ok (.iload_n 3, 1) := by decide +kernel
theorem dX7_number_38 : decode cX7_number 38 = .ok (.iload_n 1, 1) := by decide +kernel
theorem dX7_number_39 : decode cX7_number 39 = .ok (.if_icmp .ge 46, 3) := by decide +kernel
theorem dX7_number_42 : decode cX7_number 42 = .ok (.aload_n 0, 1) := by decide +kernel
theorem dX7_number_43 : decode cX7_number 43 = .ok (.invokevirtual 186, 3) := by decide +kernel
theorem dX7_number_46 : decode cX7_number 46 = .ok (.bipush 48, 2) := by decide +kernel
theorem dX7_number_48 : decode cX7_number 48 = .ok (.bipush 57, 2) := by decide +kernel
theorem dX7_number_50 : decode cX7_number 50 = .ok (.invokestatic 43, 3) := by decide +kernel
theorem dX7_number_53 : decode cX7_number 53 = .ok (.ifCond .eq 32, 3) := by decide +kernel
theorem dX7_number_56 : decode cX7_number 56 = .ok (.bipush 10, 2) := by decide +kernel
theorem dX7_number_58 : decode cX7_number 58 = .ok (.iload_n 2, 1) := by decide +kernel
theorem dX7_number_59 : decode cX7_number 59 = .ok (.imul, 1) := by decide +kernel
theorem dX7_number_60 : decode cX7_number 60 = .ok (.aload_n 0, 1) := by decide +kernel
theorem dX7_number_61 : decode cX7_number 61 = .ok (.invokevirtual 186, 3) := by decide +kernel
theorem dX7_number_64 : decode cX7_number 64 = .ok (.iadd, 1) := by decide +kernel
theorem dX7_number_65 : decode cX7_number 65 = .ok (.bipush 48, 2) := by decide +kernel
theorem dX7_number_67 : decode cX7_number 67 = .ok (.isub, 1) := by decide +kernel
theorem dX7_number_68 : decode cX7_number 68 = .ok (.istore_n 2, 1) := by decide +kernel
theorem dX7_number_69 : decode cX7_number 69 = .ok (.aload_n 0, 1) := by decide +kernel
theorem dX7_number_70 : decode cX7_number 70 = .ok (.dup, 1) := by decide +kernel
theorem dX7_number_71 : decode cX7_number 71 = .ok (.getfield 180, 3) := by decide +kernel
theorem dX7_number_74 : decode cX7_number 74 = .ok (.iconst 1, 1) := by decide +kernel
theorem dX7_number_75 : decode cX7_number 75 = .ok (.iadd, 1) := by decide +kernel
theorem dX7_number_76 : decode cX7_number 76 = .ok (.putfield 180, 3) := by decide +kernel
theorem dX7_number_79 : decode cX7_number 79 = .ok (.iinc 3 1, 3) := by decide +kernel
theorem dX7_number_82 : decode cX7_number 82 = .ok (.goto (-45), 3) := by decide +kernel
theorem dX7_number_85 : decode cX7_number 85 = .ok (.iload_n 2, 1) := by decide +kernel
theorem dX7_number_86 : decode cX7_number 86 = .ok (.ireturn, 1) := by decide +kernel
theorem dX7_behind_0 : decode cX7_behind 0 = .ok (.aload_n 0, 1) := by decide +kernel
theorem dX7_behind_1 : decode cX7_behind 1 = .ok (.bipush 32, 2) := by decide +kernel
theorem dX7_behind_3 : decode cX7_behind 3 = .ok (.invokevirtual 189, 3) := by decide +kernel
theorem dX7_behind_6 : decode cX7_behind 6 = .ok (.aload_n 0, 1) := by decide +kernel
theorem dX7_behind_7 : decode cX7_behind 7 = .ok (.iload_n 1, 1) := by decide +kernel
theorem dX7_behind_8 : decode cX7_behind 8 = .ok (.invokevirtual 192, 3) := by decide +kernel
theorem dX7_behind_11 : decode cX7_behind 11 = .ok (.ireturn, 1) := by decide +kernel
theorem dX7_oneOf_0 : decode cX7_oneOf 0 = .ok (.aload_n 0, 1) := by decide +kernel
theorem dX7_oneOf_1 : decode cX7_oneOf 1 = .ok (.getfield 183, 3) := by decide +kernel
theorem dX7_oneOf_4 : decode cX7_oneOf 4 = .ok (.ifCond .lt 5, 3) := by decide +kernel
theorem dX7_oneOf_7 : decode cX7_oneOf 7 = .ok (.iconst 0, 1) := by decide +kernel
theorem dX7_oneOf_8 : decode cX7_oneOf 8 = .ok (.ireturn, 1) := by decide +kernel
theorem dX7_oneOf_9 : decode cX7_oneOf 9 = .ok (.aload_n 0, 1) := by decide +kernel
theorem dX7_oneOf_10 : decode cX7_oneOf 10 = .ok (.invokevirtual 186, 3) := by decide +kernel
theorem dX7_oneOf_13 : decode cX7_oneOf 13 = .ok (.istore 4, 2) := by decide +kernel
theorem dX7_oneOf_15 : decode cX7_oneOf 15 = .ok (.iload 4, 2) := by decide +kernel
theorem dX7_oneOf_17 : decode cX7_oneOf 17 = .ok (.iload_n 1, 1) := by decide +kernel
theorem dX7_oneOf_18 : decode cX7_oneOf 18 = .ok (.if_icmp .ne 7, 3) := by decide +kernel
theorem dX7_oneOf_21 : decode cX7_oneOf 21 = .ok (.iconst 0, 1) := by decide +kernel
theorem dX7_oneOf_22 : decode cX7_oneOf 22 = .ok (.goto 28, 3) := by decide +kernel
theorem dX7_oneOf_25 : decode cX7_oneOf 25 = .ok (.iload 4, 2) := by decide +kernel
theorem dX7_oneOf_27 : decode cX7_oneOf 27 = .ok (.iload_n 2, 1) := by decide +kernel
theorem dX7_oneOf_28 : decode cX7_oneOf 28 = .ok (.if_icmp .ne 7, 3) := by decide +kernel
theorem dX7_oneOf_31 : decode cX7_oneOf 31 = .ok (.iconst 1, 1) := by decide +kernel
theorem dX7_oneOf_32 : decode cX7_oneOf 32 = .ok (.goto 18, 3) := by decide +kernel
theorem dX7_oneOf_35 : decode cX7_oneOf 35 = .ok (.iload_n 3, 1) := by decide +kernel
theorem dX7_oneOf_36 : decode cX7_oneOf 36 = .ok (.ifCond .eq 13, 3) := by decide +kernel
theorem dX7_oneOf_39 : decode cX7_oneOf 39 = .ok (.iload 4, 2) := by decide +kernel
theorem dX7_oneOf_41 : decode cX7_oneOf 41 = .ok (.iload_n 3, 1) := by decide +kernel
theorem dX7_oneOf_42 : decode cX7_oneOf 42 = .ok (.if_icmp .ne 7, 3) := by decide +kernel
theorem dX7_oneOf_45 : decode cX7_oneOf 45 = .ok (.iconst 2, 1) := by decide +kernel
theorem dX7_oneOf_46 : decode cX7_oneOf 46 = .ok (.goto 4, 3) := by decide +kernel
theorem dX7_oneOf_49 : decode cX7_oneOf 49 = .ok (.iconst (-1), 1) := by decide +kernel
theorem dX7_oneOf_50 : decode cX7_oneOf 50 = .ok (.istore 5, 2) := by decide +kernel
theorem dX7_oneOf_52 : decode cX7_oneOf 52 = .ok (.iload 5, 2) := by decide +kernel
theorem dX7_oneOf_54 : decode cX7_oneOf 54 = .ok (.ifCond .ge 13, 3) := by decide +kernel
theorem dX7_oneOf_57 : decode cX7_oneOf 57 = .ok (.aload_n 0, 1) := by decide +kernel
theorem dX7_oneOf_58 : decode cX7_oneOf 58 = .ok (.aload_n 0, 1) := by decide +kernel
theorem dX7_oneOf_59 : decode cX7_oneOf 59 = .ok (.getfield 180, 3) := by decide +kernel
theorem dX7_oneOf_62 : decode cX7_oneOf 62 = .ok (.putfield 183, 3) := by decide +kernel
theorem dX7_oneOf_65 : decode cX7_oneOf 65 = .ok (.iconst 0, 1) := by decide +kernel
theorem dX7_oneOf_66 : decode cX7_oneOf 66 = .ok (.ireturn, 1) := by decide +kernel
theorem dX7_oneOf_67 : decode cX7_oneOf 67 = .ok (.aload_n 0, 1) := by decide +kernel
theorem dX7_oneOf_68 : decode cX7_oneOf 68 = .ok (.dup, 1) := by decide +kernel
theorem dX7_oneOf_69 : decode cX7_oneOf 69 = .ok (.getfield 180, 3) := by decide +kernel
theorem dX7_oneOf_72 : decode cX7_oneOf 72 = .ok (.iconst 1, 1) := by decide +kernel
theorem dX7_oneOf_73 : decode cX7_oneOf 73 = .ok (.iadd, 1) := by decide +kernel
theorem dX7_oneOf_74 : decode cX7_oneOf 74 = .ok (.putfield 180, 3) := by decide +kernel
theorem dX7_oneOf_77 : decode cX7_oneOf 77 = .ok (.iload 5, 2) := by decide +kernel
theorem dX7_oneOf_79 : decode cX7_oneOf 79 = .ok (.ireturn, 1) := by decide +kernel
theorem dX7_word_0 : decode cX7_word 0 = .ok (.iload_n 1, 1) := by decide +kernel
theorem dX7_word_1 : decode cX7_word 1 = .ok (.lookupswitch 149 #[(98, 59), (100, 130), (111, 91), (114, 117), (115, 104), (118, 72)], 59) := by decide +kernel
theorem dX7_word_60 : decode cX7_word 60 = .ok (.aload_n 0, 1) := by decide +kernel
theorem dX7_word_61 : decode cX7_word 61 = .ok (.bipush 111, 2) := by decide +kernel
theorem dX7_word_63 : decode cX7_word 63 = .ok (.bipush 97, 2) := by decide +kernel
theorem dX7_word_65 : decode cX7_word 65 = .ok (.bipush 116, 2) := by decide +kernel
theorem dX7_word_67 : decode cX7_word 67 = .ok (.invokevirtual 195, 3) := by decide +kernel
theorem dX7_word_70 : decode cX7_word 70 = .ok (.goto 90, 3) := by decide +kernel
theorem dX7_word_73 : decode cX7_word 73 = .ok (.aload_n 0, 1) := by decide +kernel
theorem dX7_word_74 : decode cX7_word 74 = .ok (.bipush 97, 2) := by decide +kernel
theorem dX7_word_76 : decode cX7_word 76 = .ok (.bipush 108, 2) := by decide +kernel
theorem dX7_word_78 : decode cX7_word 78 = .ok (.bipush 118, 2) := by decide +kernel
theorem dX7_word_80 : decode cX7_word 80 = .ok (.invokevirtual 195, 3) := by decide +kernel
theorem dX7_word_83 : decode cX7_word 83 = .ok (.aload_n 0, 1) := by decide +kernel
theorem dX7_word_84 : decode cX7_word 84 = .ok (.bipush 101, 2) := by decide +kernel
theorem dX7_word_86 : decode cX7_word 86 = .ok (.invokevirtual 189, 3) := by decide +kernel
theorem dX7_word_89 : decode cX7_word 89 = .ok (.goto 71, 3) := by decide +kernel
theorem dX7_word_92 : decode cX7_word 92 = .ok (.aload_n 0, 1) := by decide +kernel
theorem dX7_word_93 : decode cX7_word 93 = .ok (.bipush 112, 2) := by decide +kernel
theorem dX7_word_95 : decode cX7_word 95 = .ok (.bipush 101, 2) := by decide +kernel
theorem dX7_word_97 : decode cX7_word 97 = .ok (.bipush 110, 2) := by decide +kernel
theorem dX7_word_99 : decode cX7_word 99 = .ok (.invokevirtual 195, 3) := by decide +kernel
theorem dX7_word_102 : decode cX7_word 102 = .ok (.goto 58, 3) := by decide +kernel
theorem dX7_word_105 : decode cX7_word 105 = .ok (.aload_n 0, 1) := by decide +kernel
theorem dX7_word_106 : decode cX7_word 106 = .ok (.bipush 104, 2) := by decide +kernel
theorem dX7_word_108 : decode cX7_word 108 = .ok (.bipush 117, 2) := by decide +kernel
theorem dX7_word_110 : decode cX7_word 110 = .ok (.bipush 116, 2) := by decide +kernel
theorem dX7_word_112 : decode cX7_word 112 = .ok (.invokevirtual 195, 3) := by decide +kernel
theorem dX7_word_115 : decode cX7_word 115 = .ok (.goto 45, 3) := by decide +kernel
theorem dX7_word_118 : decode cX7_word 118 = .ok (.aload_n 0, 1) := by decide +kernel
theorem dX7_word_119 : decode cX7_word 119 = .ok (.bipush 97, 2) := by decide +kernel
theorem dX7_word_121 : decode cX7_word 121 = .ok (.bipush 105, 2) := by decide +kernel
theorem dX7_word_123 : decode cX7_word 123 = .ok (.bipush 110, 2) := by decide +kernel
theorem dX7_word_125 : decode cX7_word 125 = .ok (.invokevirtual 195, 3) := by decide +kernel
theorem dX7_word_128 : decode cX7_word 128 = .ok (.goto 32, 3) := by decide +kernel
theorem dX7_word_131 : decode cX7_word 131 = .ok (.aload_n 0, 1) := by decide +kernel
theorem dX7_word_132 : decode cX7_word 132 = .ok (.bipush 114, 2) := by decide +kernel
theorem dX7_word_134 : decode cX7_word 134 = .ok (.bipush 97, 2) := by decide +kernel
theorem dX7_word_136 : decode cX7_word 136 = .ok (.bipush 105, 2) := by decide +kernel
theorem dX7_word_138 : decode cX7_word 138 = .ok (.invokevirtual 195, 3) := by decide +kernel
theorem dX7_word_141 : decode cX7_word 141 = .ok (.aload_n 0, 1) := by decide +kernel
theorem dX7_word_142 : decode cX7_word 142 = .ok (.bipush 110, 2) := by decide +kernel
theorem dX7_word_144 : decode cX7_word 144 = .ok (.invokevirtual 189, 3) := by decide +kernel
theorem dX7_word_147 : decode cX7_word 147 = .ok (.goto 13, 3) := by decide +kernel
theorem dX7_word_150 : decode cX7_word 150 = .ok (.aload_n 0, 1) := by decide +kernel
theorem dX7_word_151 : decode cX7_word 151 = .ok (.bipush 97, 2) := by decide +kernel
theorem dX7_word_153 : decode cX7_word 153 = .ok (.bipush 105, 2) := by decide +kernel
theorem dX7_word_155 : decode cX7_word 155 = .ok (.bipush 116, 2) := by decide +kernel
theorem dX7_word_157 : decode cX7_word 157 = .ok (.invokevirtual 195, 3) := by decide +kernel
theorem dX7_word_160 : decode cX7_word 160 = .ok (.return_, 1) := by decide +kernel
theorem dX7_command_0 : decode cX7_command 0 = .ok (.iconst 4, 1) := by decide +kernel
theorem dX7_command_1 : decode cX7_command 1 = .ok (.aload_n 0, 1) := by decide +kernel
theorem dX7_command_2 : decode cX7_command 2 = .ok (.getfield 198, 3) := by decide +kernel
theorem dX7_command_5 : decode cX7_command 5 = .ok (.imul, 1) := by decide +kernel
theorem dX7_command_6 : decode cX7_command 6 = .ok (.istore_n 1, 1) := by decide +kernel
theorem dX7_command_7 : decode cX7_command 7 = .ok (.aload_n 0, 1) := by decide +kernel
theorem dX7_command_8 : decode cX7_command 8 = .ok (.dup, 1) := by decide +kernel
theorem dX7_command_9 : decode cX7_command 9 = .ok (.getfield 198, 3) := by decide +kernel
theorem dX7_command_12 : decode cX7_command 12 = .ok (.iconst 1, 1) := by decide +kernel
theorem dX7_command_13 : decode cX7_command 13 = .ok (.iadd, 1) := by decide +kernel
theorem dX7_command_14 : decode cX7_command 14 = .ok (.putfield 198, 3) := by decide +kernel
theorem dX7_command_17 : decode cX7_command 17 = .ok (.aload_n 0, 1) := by decide +kernel
theorem dX7_command_18 : decode cX7_command 18 = .ok (.invokevirtual 186, 3) := by decide +kernel
theorem dX7_command_21 : decode cX7_command 21 = .ok (.istore_n 2, 1) := by decide +kernel
theorem dX7_command_22 : decode cX7_command 22 = .ok (.iconst 0, 1) := by decide +kernel
theorem dX7_command_23 : decode cX7_command 23 = .ok (.istore_n 3, 1) := by decide +kernel
theorem dX7_command_24 : decode cX7_command 24 = .ok (.iload_n 3, 1) := by decide +kernel
theorem dX7_command_25 : decode cX7_command 25 = .ok (.iconst 4, 1) := by decide +kernel
theorem dX7_command_26 : decode cX7_command 26 = .ok (.if_icmp .ge 18, 3) := by decide +kernel
theorem dX7_command_29 : decode cX7_command 29 = .ok (.aload_n 0, 1) := by decide +kernel
theorem dX7_command_30 : decode cX7_command 30 = .ok (.getfield 27, 3) := by decide +kernel
theorem dX7_command_33 : decode cX7_command 33 = .ok (.iload_n 1, 1) := by decide +kernel
theorem dX7_command_34 : decode cX7_command 34 = .ok (.iload_n 3, 1) := by decide +kernel
theorem dX7_command_35 : decode cX7_command 35 = .ok (.iadd, 1) := by decide +kernel
theorem dX7_command_36 : decode cX7_command 36 = .ok (.iconst 0, 1) := by decide +kernel
theorem dX7_command_37 : decode cX7_command 37 = .ok (.iastore, 1) := by decide +kernel
theorem dX7_command_38 : decode cX7_command 38 = .ok (.iinc 3 1, 3) := by decide +kernel
theorem dX7_command_41 : decode cX7_command 41 = .ok (.goto (-17), 3) := by decide +kernel
theorem dX7_command_44 : decode cX7_command 44 = .ok (.iload_n 2, 1) := by decide +kernel
theorem dX7_command_45 : decode cX7_command 45 = .ok (.bipush 98, 2) := by decide +kernel
theorem dX7_command_47 : decode cX7_command 47 = .ok (.if_icmp .eq 48, 3) := by decide +kernel
theorem dX7_command_50 : decode cX7_command 50 = .ok (.iload_n 2, 1) := by decide +kernel
theorem dX7_command_51 : decode cX7_command 51 = .ok (.bipush 118, 2) := by decide +kernel
theorem dX7_command_53 : decode cX7_command 53 = .ok (.if_icmp .eq 42, 3) := by decide +kernel
theorem dX7_command_56 : decode cX7_command 56 = .ok (.iload_n 2, 1) := by decide +kernel
theorem dX7_command_57 : decode cX7_command 57 = .ok (.bipush 111, 2) := by decide +kernel
theorem dX7_command_59 : decode cX7_command 59 = .ok (.if_icmp .eq 36, 3) := by decide +kernel
theorem dX7_command_62 : decode cX7_command 62 = .ok (.iload_n 2, 1) := by decide +kernel
theorem dX7_command_63 : decode cX7_command 63 = .ok (.bipush 115, 2) := by decide +kernel
theorem dX7_command_65 : decode cX7_command 65 = .ok (.if_icmp .eq 30, 3) := by decide +kernel
theorem dX7_command_68 : decode cX7_command 68 = .ok (.iload_n 2, 1) := by decide +kernel
theorem dX7_command_69 : decode cX7_command 69 = .ok (.bipush 114, 2) := by decide +kernel
theorem dX7_command_71 : decode cX7_command 71 = .ok (.if_icmp .eq 24, 3) := by decide +kernel
theorem dX7_command_74 : decode cX7_command 74 = .ok (.iload_n 2, 1) := by decide +kernel
theorem dX7_command_75 : decode cX7_command 75 = .ok (.bipush 100, 2) := by decide +kernel
theorem dX7_command_77 : decode cX7_command 77 = .ok (.if_icmp .eq 18, 3) := by decide +kernel
theorem dX7_command_80 : decode cX7_command 80 = .ok (.iload_n 2, 1) := by decide +kernel
theorem dX7_command_81 : decode cX7_command 81 = .ok (.bipush 119, 2) := by decide +kernel
theorem dX7_command_83 : decode cX7_command 83 = .ok (.if_icmp .eq 12, 3) := by decide +kernel
theorem dX7_command_86 : decode cX7_command 86 = .ok (.aload_n 0, 1) := by decide +kernel
theorem dX7_command_87 : decode cX7_command 87 = .ok (.aload_n 0, 1) := by decide +kernel
theorem dX7_command_88 : decode cX7_command 88 = .ok (.getfield 180, 3) := by decide +kernel
theorem dX7_command_91 : decode cX7_command 91 = .ok (.putfield 183, 3) := by decide +kernel
theorem dX7_command_94 : decode cX7_command 94 = .ok (.return_, 1) := by decide +kernel
theorem dX7_command_95 : decode cX7_command 95 = .ok (.aload_n 0, 1) := by decide +kernel
theorem dX7_command_96 : decode cX7_command 96 = .ok (.dup, 1) := by decide +kernel
theorem dX7_command_97 : decode cX7_command 97 = .ok (.getfield 180, 3) := by decide +kernel
theorem dX7_command_100 : decode cX7_command 100 = .ok (.iconst 1, 1) := by decide +kernel
theorem dX7_command_101 : decode cX7_command 101 = .ok (.iadd, 1) := by decide +kernel
theorem dX7_command_102 : decode cX7_command 102 = .ok (.putfield 180, 3) := by decide +kernel
theorem dX7_command_105 : decode cX7_command 105 = .ok (.aload_n 0, 1) := by decide +kernel
theorem dX7_command_106 : decode cX7_command 106 = .ok (.iload_n 2, 1) := by decide +kernel
theorem dX7_command_107 : decode cX7_command 107 = .ok (.invokevirtual 201, 3) := by decide +kernel
theorem dX7_command_110 : decode cX7_command 110 = .ok (.aload_n 0, 1) := by decide +kernel
theorem dX7_command_111 : decode cX7_command 111 = .ok (.getfield 27, 3) := by decide +kernel
theorem dX7_command_114 : decode cX7_command 114 = .ok (.iload_n 1, 1) := by decide +kernel
theorem dX7_command_115 : decode cX7_command 115 = .ok (.iload_n 2, 1) := by decide +kernel
theorem dX7_command_116 : decode cX7_command 116 = .ok (.iastore, 1) := by decide +kernel
theorem dX7_command_117 : decode cX7_command 117 = .ok (.iload_n 2, 1) := by decide +kernel
theorem dX7_command_118 : decode cX7_command 118 = .ok (.lookupswitch 164 #[(98, 34), (118, 99), (119, 128)], 34) := by decide +kernel
theorem dX7_command_152 : decode cX7_command 152 = .ok (.aload_n 0, 1) := by decide +kernel
theorem dX7_command_153 : decode cX7_command 153 = .ok (.bipush 32, 2) := by decide +kernel
theorem dX7_command_155 : decode cX7_command 155 = .ok (.invokevirtual 189, 3) := by decide +kernel
theorem dX7_command_158 : decode cX7_command 158 = .ok (.aload_n 0, 1) := by decide +kernel
theorem dX7_command_159 : decode cX7_command 159 = .ok (.getfield 27, 3) := by decide +kernel
theorem dX7_command_162 : decode cX7_command 162 = .ok (.iload_n 1, 1) := by decide +kernel
theorem dX7_command_163 : decode cX7_command 163 = .ok (.iconst 1, 1) := by decide +kernel
theorem dX7_command_164 : decode cX7_command 164 = .ok (.iadd, 1) := by decide +kernel
theorem dX7_command_165 : decode cX7_command 165 = .ok (.aload_n 0, 1) := by decide +kernel
theorem dX7_command_166 : decode cX7_command 166 = .ok (.bipush 114, 2) := by decide +kernel
theorem dX7_command_168 : decode cX7_command 168 = .ok (.bipush 103, 2) := by decide +kernel
theorem dX7_command_170 : decode cX7_command 170 = .ok (.bipush 98, 2) := by decide +kernel
theorem dX7_command_172 : decode cX7_command 172 = .ok (.invokevirtual 204, 3) := by decide +kernel
theorem dX7_command_175 : decode cX7_command 175 = .ok (.iastore, 1) := by decide +kernel
theorem dX7_command_176 : decode cX7_command 176 = .ok (.aload_n 0, 1) := by decide +kernel
theorem dX7_command_177 : decode cX7_command 177 = .ok (.getfield 27, 3) := by decide +kernel
theorem dX7_command_180 : decode cX7_command 180 = .ok (.iload_n 1, 1) := by decide +kernel
theorem dX7_command_181 : decode cX7_command 181 = .ok (.iconst 2, 1) := by decide +kernel
theorem dX7_command_182 : decode cX7_command 182 = .ok (.iadd, 1) := by decide +kernel
theorem dX7_command_183 : decode cX7_command 183 = .ok (.aload_n 0, 1) := by decide +kernel
theorem dX7_command_184 : decode cX7_command 184 = .ok (.iconst 1, 1) := by decide +kernel
theorem dX7_command_185 : decode cX7_command 185 = .ok (.invokevirtual 192, 3) := by decide +kernel
theorem dX7_command_188 : decode cX7_command 188 = .ok (.iastore, 1) := by decide +kernel
theorem dX7_command_189 : decode cX7_command 189 = .ok (.aload_n 0, 1) := by decide +kernel
theorem dX7_command_190 : decode cX7_command 190 = .ok (.bipush 32, 2) := by decide +kernel
theorem dX7_command_192 : decode cX7_command 192 = .ok (.invokevirtual 189, 3) := by decide +kernel
theorem dX7_command_195 : decode cX7_command 195 = .ok (.aload_n 0, 1) := by decide +kernel
theorem dX7_command_196 : decode cX7_command 196 = .ok (.getfield 27, 3) := by decide +kernel
theorem dX7_command_199 : decode cX7_command 199 = .ok (.iload_n 1, 1) := by decide +kernel
theorem dX7_command_200 : decode cX7_command 200 = .ok (.iconst 3, 1) := by decide +kernel
theorem dX7_command_201 : decode cX7_command 201 = .ok (.iadd, 1) := by decide +kernel
theorem dX7_command_202 : decode cX7_command 202 = .ok (.iconst 1, 1) := by decide +kernel
theorem dX7_command_203 : decode cX7_command 203 = .ok (.aload_n 0, 1) := by decide +kernel
theorem dX7_command_204 : decode cX7_command 204 = .ok (.bipush 100, 2) := by decide +kernel
theorem dX7_command_206 : decode cX7_command 206 = .ok (.bipush 117, 2) := by decide +kernel
theorem dX7_command_208 : decode cX7_command 208 = .ok (.iconst 0, 1) := by decide +kernel
theorem dX7_command_209 : decode cX7_command 209 = .ok (.invokevirtual 204, 3) := by decide +kernel
theorem dX7_command_212 : decode cX7_command 212 = .ok (.isub, 1) := by decide +kernel
theorem dX7_command_213 : decode cX7_command 213 = .ok (.iastore, 1) := by decide +kernel
theorem dX7_command_214 : decode cX7_command 214 = .ok (.goto 81, 3) := by decide +kernel
theorem dX7_command_217 : decode cX7_command 217 = .ok (.aload_n 0, 1) := by decide +kernel
theorem dX7_command_218 : decode cX7_command 218 = .ok (.getfield 27, 3) := by decide +kernel
theorem dX7_command_221 : decode cX7_command 221 = .ok (.iload_n 1, 1) := by decide +kernel
theorem dX7_command_222 : decode cX7_command 222 = .ok (.iconst 1, 1) := by decide +kernel
theorem dX7_command_223 : decode cX7_command 223 = .ok (.iadd, 1) := by decide +kernel
theorem dX7_command_224 : decode cX7_command 224 = .ok (.aload_n 0, 1) := by decide +kernel
theorem dX7_command_225 : decode cX7_command 225 = .ok (.iconst 1, 1) := by decide +kernel
theorem dX7_command_226 : decode cX7_command 226 = .ok (.invokevirtual 207, 3) := by decide +kernel
theorem dX7_command_229 : decode cX7_command 229 = .ok (.iastore, 1) := by decide +kernel
theorem dX7_command_230 : decode cX7_command 230 = .ok (.aload_n 0, 1) := by decide +kernel
theorem dX7_command_231 : decode cX7_command 231 = .ok (.getfield 27, 3) := by decide +kernel
theorem dX7_command_234 : decode cX7_command 234 = .ok (.iload_n 1, 1) := by decide +kernel
theorem dX7_command_235 : decode cX7_command 235 = .ok (.iconst 2, 1) := by decide +kernel
theorem dX7_command_236 : decode cX7_command 236 = .ok (.iadd, 1) := by decide +kernel
theorem dX7_command_237 : decode cX7_command 237 = .ok (.aload_n 0, 1) := by decide +kernel
theorem dX7_command_238 : decode cX7_command 238 = .ok (.iconst 1, 1) := by decide +kernel
theorem dX7_command_239 : decode cX7_command 239 = .ok (.invokevirtual 207, 3) := by decide +kernel
theorem dX7_command_242 : decode cX7_command 242 = .ok (.iastore, 1) := by decide +kernel
theorem dX7_command_243 : decode cX7_command 243 = .ok (.goto 52, 3) := by decide +kernel
theorem dX7_command_246 : decode cX7_command 246 = .ok (.aload_n 0, 1) := by decide +kernel
theorem dX7_command_247 : decode cX7_command 247 = .ok (.getfield 27, 3) := by decide +kernel
theorem dX7_command_250 : decode cX7_command 250 = .ok (.iload_n 1, 1) := by decide +kernel
theorem dX7_command_251 : decode cX7_command 251 = .ok (.iconst 1, 1) := by decide +kernel
theorem dX7_command_252 : decode cX7_command 252 = .ok (.iadd, 1) := by decide +kernel
theorem dX7_command_253 : decode cX7_command 253 = .ok (.aload_n 0, 1) := by decide +kernel
theorem dX7_command_254 : decode cX7_command 254 = .ok (.getfield 183, 3) := by decide +kernel
theorem dX7_command_257 : decode cX7_command 257 = .ok (.ifCond .ge 20, 3) := by decide +kernel
theorem dX7_command_260 : decode cX7_command 260 = .ok (.aload_n 0, 1) := by decide +kernel
theorem dX7_command_261 : decode cX7_command 261 = .ok (.invokevirtual 186, 3) := by decide +kernel
theorem dX7_command_264 : decode cX7_command 264 = .ok (.bipush 32, 2) := by decide +kernel
theorem dX7_command_266 : decode cX7_command 266 = .ok (.if_icmp .ne 11, 3) := by decide +kernel
theorem dX7_command_269 : decode cX7_command 269 = .ok (.aload_n 0, 1) := by decide +kernel
theorem dX7_command_270 : decode cX7_command 270 = .ok (.iconst 3, 1) := by decide +kernel
theorem dX7_command_271 : decode cX7_command 271 = .ok (.invokevirtual 207, 3) := by decide +kernel
theorem dX7_command_274 : decode cX7_command 274 = .ok (.goto 4, 3) := by decide +kernel
theorem dX7_command_277 : decode cX7_command 277 = .ok (.iconst 1, 1) := by decide +kernel
theorem dX7_command_278 : decode cX7_command 278 = .ok (.iastore, 1) := by decide +kernel
theorem dX7_command_279 : decode cX7_command 279 = .ok (.goto 16, 3) := by decide +kernel
theorem dX7_command_282 : decode cX7_command 282 = .ok (.aload_n 0, 1) := by decide +kernel
theorem dX7_command_283 : decode cX7_command 283 = .ok (.getfield 27, 3) := by decide +kernel
theorem dX7_command_286 : decode cX7_command 286 = .ok (.iload_n 1, 1) := by decide +kernel
theorem dX7_command_287 : decode cX7_command 287 = .ok (.iconst 1, 1) := by decide +kernel
theorem dX7_command_288 : decode cX7_command 288 = .ok (.iadd, 1) := by decide +kernel
theorem dX7_command_289 : decode cX7_command 289 = .ok (.aload_n 0, 1) := by decide +kernel
theorem dX7_command_290 : decode cX7_command 290 = .ok (.iconst 1, 1) := by decide +kernel
theorem dX7_command_291 : decode cX7_command 291 = .ok (.invokevirtual 207, 3) := by decide +kernel
theorem dX7_command_294 : decode cX7_command 294 = .ok (.iastore, 1) := by decide +kernel
theorem dX7_command_295 : decode cX7_command 295 = .ok (.return_, 1) := by decide +kernel
theorem dX7_parse_0 : decode cX7_parse 0 = .ok (.aload_n 0, 1) := by decide +kernel
theorem dX7_parse_1 : decode cX7_parse 1 = .ok (.iconst 0, 1) := by decide +kernel
theorem dX7_parse_2 : decode cX7_parse 2 = .ok (.putfield 180, 3) := by decide +kernel
theorem dX7_parse_5 : decode cX7_parse 5 = .ok (.aload_n 0, 1) := by decide +kernel
theorem dX7_parse_6 : decode cX7_parse 6 = .ok (.iconst (-1), 1) := by decide +kernel
theorem dX7_parse_7 : decode cX7_parse 7 = .ok (.putfield 183, 3) := by decide +kernel
theorem dX7_parse_10 : decode cX7_parse 10 = .ok (.aload_n 0, 1) := by decide +kernel
theorem dX7_parse_11 : decode cX7_parse 11 = .ok (.iconst 0, 1) := by decide +kernel
theorem dX7_parse_12 : decode cX7_parse 12 = .ok (.putfield 198, 3) := by decide +kernel
theorem dX7_parse_15 : decode cX7_parse 15 = .ok (.aload_n 0, 1) := by decide +kernel
theorem dX7_parse_16 : decode cX7_parse 16 = .ok (.invokevirtual 210, 3) := by decide +kernel
theorem dX7_parse_19 : decode cX7_parse 19 = .ok (.aload_n 0, 1) := by decide +kernel
theorem dX7_parse_20 : decode cX7_parse 20 = .ok (.getfield 183, 3) := by decide +kernel
theorem dX7_parse_23 : decode cX7_parse 23 = .ok (.ifCond .ge 29, 3) := by decide +kernel
theorem dX7_parse_26 : decode cX7_parse 26 = .ok (.aload_n 0, 1) := by decide +kernel
theorem dX7_parse_27 : decode cX7_parse 27 = .ok (.invokevirtual 186, 3) := by decide +kernel
theorem dX7_parse_30 : decode cX7_parse 30 = .ok (.bipush 59, 2) := by decide +kernel
theorem dX7_parse_32 : decode cX7_parse 32 = .ok (.if_icmp .ne 20, 3) := by decide +kernel
theorem dX7_parse_35 : decode cX7_parse 35 = .ok (.aload_n 0, 1) := by decide +kernel
theorem dX7_parse_36 : decode cX7_parse 36 = .ok (.dup, 1) := by decide +kernel
theorem dX7_parse_37 : decode cX7_parse 37 = .ok (.getfield 180, 3) := by decide +kernel
theorem dX7_parse_40 : decode cX7_parse 40 = .ok (.iconst 1, 1) := by decide +kernel
theorem dX7_parse_41 : decode cX7_parse 41 = .ok (.iadd, 1) := by decide +kernel
theorem dX7_parse_42 : decode cX7_parse 42 = .ok (.putfield 180, 3) := by decide +kernel
theorem dX7_parse_45 : decode cX7_parse 45 = .ok (.aload_n 0, 1) := by decide +kernel
theorem dX7_parse_46 : decode cX7_parse 46 = .ok (.invokevirtual 210, 3) := by decide +kernel
theorem dX7_parse_49 : decode cX7_parse 49 = .ok (.goto (-30), 3) := by decide +kernel
theorem dX7_parse_52 : decode cX7_parse 52 = .ok (.aload_n 0, 1) := by decide +kernel
theorem dX7_parse_53 : decode cX7_parse 53 = .ok (.getfield 183, 3) := by decide +kernel
theorem dX7_parse_56 : decode cX7_parse 56 = .ok (.ifCond .ge 22, 3) := by decide +kernel
theorem dX7_parse_59 : decode cX7_parse 59 = .ok (.aload_n 0, 1) := by decide +kernel
theorem dX7_parse_60 : decode cX7_parse 60 = .ok (.getfield 180, 3) := by decide +kernel
theorem dX7_parse_63 : decode cX7_parse 63 = .ok (.aload_n 0, 1) := by decide +kernel
theorem dX7_parse_64 : decode cX7_parse 64 = .ok (.getfield 177, 3) := by decide +kernel
theorem dX7_parse_67 : decode cX7_parse 67 = .ok (.if_icmp .ge 11, 3) := by decide +kernel
theorem dX7_parse_70 : decode cX7_parse 70 = .ok (.aload_n 0, 1) := by decide +kernel
theorem dX7_parse_71 : decode cX7_parse 71 = .ok (.aload_n 0, 1) := by decide +kernel
theorem dX7_parse_72 : decode cX7_parse 72 = .ok (.getfield 180, 3) := by decide +kernel
theorem dX7_parse_75 : decode cX7_parse 75 = .ok (.putfield 183, 3) := by decide +kernel
theorem dX7_parse_78 : decode cX7_parse 78 = .ok (.return_, 1) := by decide +kernel
theorem dX7_does_0 : decode cX7_does 0 = .ok (.aload_n 0, 1) := by decide +kernel
theorem dX7_does_1 : decode cX7_does 1 = .ok (.getfield 27, 3) := by decide +kernel
theorem dX7_does_4 : decode cX7_does 4 = .ok (.iload_n 1, 1) := by decide +kernel
theorem dX7_does_5 : decode cX7_does 5 = .ok (.iconst 1, 1) := by decide +kernel
theorem dX7_does_6 : decode cX7_does 6 = .ok (.iadd, 1) := by decide +kernel
theorem dX7_does_7 : decode cX7_does 7 = .ok (.iaload, 1) := by decide +kernel
theorem dX7_does_8 : decode cX7_does 8 = .ok (.istore_n 2, 1) := by decide +kernel
theorem dX7_does_9 : decode cX7_does 9 = .ok (.aload_n 0, 1) := by decide +kernel
theorem dX7_does_10 : decode cX7_does 10 = .ok (.getfield 27, 3) := by decide +kernel
theorem dX7_does_13 : decode cX7_does 13 = .ok (.iload_n 1, 1) := by decide +kernel
theorem dX7_does_14 : decode cX7_does 14 = .ok (.iaload, 1) := by decide +kernel
theorem dX7_does_15 : decode cX7_does 15 = .ok (.lookupswitch 119 #[(98, 57), (100, 112), (111, 93), (114, 105), (115, 99), (118, 79)], 57) := by decide +kernel
theorem dX7_does_72 : decode cX7_does 72 = .ok (.aload_n 0, 1) := by decide +kernel
theorem dX7_does_73 : decode cX7_does 73 = .ok (.iload_n 2, 1) := by decide +kernel
theorem dX7_does_74 : decode cX7_does 74 = .ok (.aload_n 0, 1) := by decide +kernel
theorem dX7_does_75 : decode cX7_does 75 = .ok (.getfield 27, 3) := by decide +kernel
theorem dX7_does_78 : decode cX7_does 78 = .ok (.iload_n 1, 1) := by decide +kernel
theorem dX7_does_79 : decode cX7_does 79 = .ok (.iconst 2, 1) := by decide +kernel
theorem dX7_does_80 : decode cX7_does 80 = .ok (.iadd, 1) := by decide +kernel
theorem dX7_does_81 : decode cX7_does 81 = .ok (.iaload, 1) := by decide +kernel
theorem dX7_does_82 : decode cX7_does 82 = .ok (.aload_n 0, 1) := by decide +kernel
theorem dX7_does_83 : decode cX7_does 83 = .ok (.getfield 27, 3) := by decide +kernel
theorem dX7_does_86 : decode cX7_does 86 = .ok (.iload_n 1, 1) := by decide +kernel
theorem dX7_does_87 : decode cX7_does 87 = .ok (.iconst 3, 1) := by decide +kernel
theorem dX7_does_88 : decode cX7_does 88 = .ok (.iadd, 1) := by decide +kernel
theorem dX7_does_89 : decode cX7_does 89 = .ok (.iaload, 1) := by decide +kernel
theorem dX7_does_90 : decode cX7_does 90 = .ok (.invokevirtual 98, 3) := by decide +kernel
theorem dX7_does_93 : decode cX7_does 93 = .ok (.ireturn, 1) := by decide +kernel
theorem dX7_does_94 : decode cX7_does 94 = .ok (.aload_n 0, 1) := by decide +kernel
theorem dX7_does_95 : decode cX7_does 95 = .ok (.iload_n 2, 1) := by decide +kernel
theorem dX7_does_96 : decode cX7_does 96 = .ok (.aload_n 0, 1) := by decide +kernel
theorem dX7_does_97 : decode cX7_does 97 = .ok (.getfield 27, 3) := by decide +kernel
theorem dX7_does_100 : decode cX7_does 100 = .ok (.iload_n 1, 1) := by decide +kernel
theorem dX7_does_101 : decode cX7_does 101 = .ok (.iconst 2, 1) := by decide +kernel
theorem dX7_does_102 : decode cX7_does 102 = .ok (.iadd, 1) := by decide +kernel
theorem dX7_does_103 : decode cX7_does 103 = .ok (.iaload, 1) := by decide +kernel
theorem dX7_does_104 : decode cX7_does 104 = .ok (.invokevirtual 109, 3) := by decide +kernel
theorem dX7_does_107 : decode cX7_does 107 = .ok (.ireturn, 1) := by decide +kernel
theorem dX7_does_108 : decode cX7_does 108 = .ok (.aload_n 0, 1) := by decide +kernel
theorem dX7_does_109 : decode cX7_does 109 = .ok (.iload_n 2, 1) := by decide +kernel
theorem dX7_does_110 : decode cX7_does 110 = .ok (.invokevirtual 116, 3) := by decide +kernel
theorem dX7_does_113 : decode cX7_does 113 = .ok (.ireturn, 1) := by decide +kernel
theorem dX7_does_114 : decode cX7_does 114 = .ok (.aload_n 0, 1) := by decide +kernel
theorem dX7_does_115 : decode cX7_does 115 = .ok (.iload_n 2, 1) := by decide +kernel
theorem dX7_does_116 : decode cX7_does 116 = .ok (.invokevirtual 119, 3) := by decide +kernel
theorem dX7_does_119 : decode cX7_does 119 = .ok (.ireturn, 1) := by decide +kernel
theorem dX7_does_120 : decode cX7_does 120 = .ok (.aload_n 0, 1) := by decide +kernel
theorem dX7_does_121 : decode cX7_does 121 = .ok (.iconst 1, 1) := by decide +kernel
theorem dX7_does_122 : decode cX7_does 122 = .ok (.iload_n 2, 1) := by decide +kernel
theorem dX7_does_123 : decode cX7_does 123 = .ok (.invokevirtual 122, 3) := by decide +kernel
theorem dX7_does_126 : decode cX7_does 126 = .ok (.ireturn, 1) := by decide +kernel
theorem dX7_does_127 : decode cX7_does 127 = .ok (.aload_n 0, 1) := by decide +kernel
theorem dX7_does_128 : decode cX7_does 128 = .ok (.iconst 2, 1) := by decide +kernel
theorem dX7_does_129 : decode cX7_does 129 = .ok (.iload_n 2, 1) := by decide +kernel
theorem dX7_does_130 : decode cX7_does 130 = .ok (.invokevirtual 122, 3) := by decide +kernel
theorem dX7_does_133 : decode cX7_does 133 = .ok (.ireturn, 1) := by decide +kernel
theorem dX7_does_134 : decode cX7_does 134 = .ok (.aload_n 0, 1) := by decide +kernel
theorem dX7_does_135 : decode cX7_does 135 = .ok (.iload_n 2, 1) := by decide +kernel
theorem dX7_does_136 : decode cX7_does 136 = .ok (.invokevirtual 128, 3) := by decide +kernel
theorem dX7_does_139 : decode cX7_does 139 = .ok (.ireturn, 1) := by decide +kernel
theorem dX7_runScript_0 : decode cX7_runScript 0 = .ok (.aload_n 0, 1) := by decide +kernel
theorem dX7_runScript_1 : decode cX7_runScript 1 = .ok (.invokevirtual 213, 3) := by decide +kernel
theorem dX7_runScript_4 : decode cX7_runScript 4 = .ok (.aload_n 0, 1) := by decide +kernel
theorem dX7_runScript_5 : decode cX7_runScript 5 = .ok (.iconst 0, 1) := by decide +kernel
theorem dX7_runScript_6 : decode cX7_runScript 6 = .ok (.putfield 177, 3) := by decide +kernel
theorem dX7_runScript_9 : decode cX7_runScript 9 = .ok (.aload_n 0, 1) := by decide +kernel
theorem dX7_runScript_10 : decode cX7_runScript 10 = .ok (.getfield 183, 3) := by decide +kernel
theorem dX7_runScript_13 : decode cX7_runScript 13 = .ok (.ifCond .lt 18, 3) := by decide +kernel
theorem dX7_runScript_16 : decode cX7_runScript 16 = .ok (.aload_n 0, 1) := by decide +kernel
theorem dX7_runScript_17 : decode cX7_runScript 17 = .ok (.aload_n 0, 1) := by decide +kernel
theorem dX7_runScript_18 : decode cX7_runScript 18 = .ok (.getfield 183, 3) := by decide +kernel
theorem dX7_runScript_21 : decode cX7_runScript 21 = .ok (.putfield 20, 3) := by decide +kernel
theorem dX7_runScript_24 : decode cX7_runScript 24 = .ok (.aload_n 0, 1) := by decide +kernel
theorem dX7_runScript_25 : decode cX7_runScript 25 = .ok (.iconst 1, 1) := by decide +kernel
theorem dX7_runScript_26 : decode cX7_runScript 26 = .ok (.putfield 30, 3) := by decide +kernel
theorem dX7_runScript_29 : decode cX7_runScript 29 = .ok (.iconst 0, 1) := by decide +kernel
theorem dX7_runScript_30 : decode cX7_runScript 30 = .ok (.ireturn, 1) := by decide +kernel
theorem dX7_runScript_31 : decode cX7_runScript 31 = .ok (.aload_n 0, 1) := by decide +kernel
theorem dX7_runScript_32 : decode cX7_runScript 32 = .ok (.invokevirtual 92, 3) := by decide +kernel
theorem dX7_runScript_35 : decode cX7_runScript 35 = .ok (.iconst 0, 1) := by decide +kernel
theorem dX7_runScript_36 : decode cX7_runScript 36 = .ok (.istore_n 1, 1) := by decide +kernel
theorem dX7_runScript_37 : decode cX7_runScript 37 = .ok (.iload_n 1, 1) := by decide +kernel
theorem dX7_runScript_38 : decode cX7_runScript 38 = .ok (.aload_n 0, 1) := by decide +kernel
theorem dX7_runScript_39 : decode cX7_runScript 39 = .ok (.getfield 198, 3) := by decide +kernel
theorem dX7_runScript_42 : decode cX7_runScript 42 = .ok (.if_icmp .ge 19, 3) := by decide +kernel
theorem dX7_runScript_45 : decode cX7_runScript 45 = .ok (.aload_n 0, 1) := by decide +kernel
theorem dX7_runScript_46 : decode cX7_runScript 46 = .ok (.iconst 4, 1) := by decide +kernel
theorem dX7_runScript_47 : decode cX7_runScript 47 = .ok (.iload_n 1, 1) := by decide +kernel
theorem dX7_runScript_48 : decode cX7_runScript 48 = .ok (.imul, 1) := by decide +kernel
theorem dX7_runScript_49 : decode cX7_runScript 49 = .ok (.invokevirtual 216, 3) := by decide +kernel
theorem dX7_runScript_52 : decode cX7_runScript 52 = .ok (.ifCond .ne 9, 3) := by decide +kernel
theorem dX7_runScript_55 : decode cX7_runScript 55 = .ok (.iinc 1 1, 3) := by decide +kernel
theorem dX7_runScript_58 : decode cX7_runScript 58 = .ok (.goto (-21), 3) := by decide +kernel
theorem dX7_runScript_61 : decode cX7_runScript 61 = .ok (.iload_n 1, 1) := by decide +kernel
theorem dX7_runScript_62 : decode cX7_runScript 62 = .ok (.aload_n 0, 1) := by decide +kernel
theorem dX7_runScript_63 : decode cX7_runScript 63 = .ok (.getfield 198, 3) := by decide +kernel
theorem dX7_runScript_66 : decode cX7_runScript 66 = .ok (.if_icmp .ne 7, 3) := by decide +kernel
theorem dX7_runScript_69 : decode cX7_runScript 69 = .ok (.iconst 1, 1) := by decide +kernel
theorem dX7_runScript_70 : decode cX7_runScript 70 = .ok (.goto 4, 3) := by decide +kernel
theorem dX7_runScript_73 : decode cX7_runScript 73 = .ok (.iconst 0, 1) := by decide +kernel
theorem dX7_runScript_74 : decode cX7_runScript 74 = .ok (.istore_n 2, 1) := by decide +kernel
theorem dX7_runScript_75 : decode cX7_runScript 75 = .ok (.aload_n 0, 1) := by decide +kernel
theorem dX7_runScript_76 : decode cX7_runScript 76 = .ok (.iload_n 2, 1) := by decide +kernel
theorem dX7_runScript_77 : decode cX7_runScript 77 = .ok (.ifCond .eq 10, 3) := by decide +kernel
theorem dX7_runScript_80 : decode cX7_runScript 80 = .ok (.aload_n 0, 1) := by decide +kernel
theorem dX7_runScript_81 : decode cX7_runScript 81 = .ok (.getfield 24, 3) := by decide +kernel
theorem dX7_runScript_84 : decode cX7_runScript 84 = .ok (.goto 4, 3) := by decide +kernel
theorem dX7_runScript_87 : decode cX7_runScript 87 = .ok (.iload_n 1, 1) := by decide +kernel
theorem dX7_runScript_88 : decode cX7_runScript 88 = .ok (.putfield 24, 3) := by decide +kernel
theorem dX7_runScript_91 : decode cX7_runScript 91 = .ok (.aload_n 0, 1) := by decide +kernel
theorem dX7_runScript_92 : decode cX7_runScript 92 = .ok (.aload_n 0, 1) := by decide +kernel
theorem dX7_runScript_93 : decode cX7_runScript 93 = .ok (.getfield 198, 3) := by decide +kernel
theorem dX7_runScript_96 : decode cX7_runScript 96 = .ok (.putfield 40, 3) := by decide +kernel
theorem dX7_runScript_99 : decode cX7_runScript 99 = .ok (.aload_n 0, 1) := by decide +kernel
theorem dX7_runScript_100 : decode cX7_runScript 100 = .ok (.iload_n 2, 1) := by decide +kernel
theorem dX7_runScript_101 : decode cX7_runScript 101 = .ok (.ifCond .eq 7, 3) := by decide +kernel
theorem dX7_runScript_104 : decode cX7_runScript 104 = .ok (.iconst 0, 1) := by decide +kernel
theorem dX7_runScript_105 : decode cX7_runScript 105 = .ok (.goto 4, 3) := by decide +kernel
theorem dX7_runScript_108 : decode cX7_runScript 108 = .ok (.iconst 3, 1) := by decide +kernel
theorem dX7_runScript_109 : decode cX7_runScript 109 = .ok (.iconst 0, 1) := by decide +kernel
theorem dX7_runScript_110 : decode cX7_runScript 110 = .ok (.iconst 0, 1) := by decide +kernel
theorem dX7_runScript_111 : decode cX7_runScript 111 = .ok (.iconst 2, 1) := by decide +kernel
theorem dX7_runScript_112 : decode cX7_runScript 112 = .ok (.iconst 0, 1) := by decide +kernel
theorem dX7_runScript_113 : decode cX7_runScript 113 = .ok (.invokevirtual 102, 3) := by decide +kernel
theorem dX7_runScript_116 : decode cX7_runScript 116 = .ok (.ireturn, 1) := by decide +kernel
theorem dX7_errorPosition_0 : decode cX7_errorPosition 0 = .ok (.aload_n 0, 1) := by decide +kernel
theorem dX7_errorPosition_1 : decode cX7_errorPosition 1 = .ok (.aload_n 0, 1) := by decide +kernel
theorem dX7_errorPosition_2 : decode cX7_errorPosition 2 = .ok (.getfield 20, 3) := by decide +kernel
theorem dX7_errorPosition_5 : decode cX7_errorPosition 5 = .ok (.iconst (-1), 1) := by decide +kernel
theorem dX7_errorPosition_6 : decode cX7_errorPosition 6 = .ok (.if_icmp .eq 7, 3) := by decide +kernel
theorem dX7_errorPosition_9 : decode cX7_errorPosition 9 = .ok (.iconst 1, 1) := by decide +kernel
theorem dX7_errorPosition_10 : decode cX7_errorPosition 10 = .ok (.goto 4, 3) := by decide +kernel
theorem dX7_errorPosition_13 : decode cX7_errorPosition 13 = .ok (.iconst 0, 1) := by decide +kernel
theorem dX7_errorPosition_14 : decode cX7_errorPosition 14 = .ok (.invokevirtual 134, 3) := by decide +kernel
theorem dX7_errorPosition_17 : decode cX7_errorPosition 17 = .ok (.ifCond .eq 10, 3) := by decide +kernel
theorem dX7_errorPosition_20 : decode cX7_errorPosition 20 = .ok (.aload_n 0, 1) := by decide +kernel
theorem dX7_errorPosition_21 : decode cX7_errorPosition 21 = .ok (.getfield 20, 3) := by decide +kernel
theorem dX7_errorPosition_24 : decode cX7_errorPosition 24 = .ok (.goto 4, 3) := by decide +kernel
theorem dX7_errorPosition_27 : decode cX7_errorPosition 27 = .ok (.iconst 0, 1) := by decide +kernel
theorem dX7_errorPosition_28 : decode cX7_errorPosition 28 = .ok (.ireturn, 1) := by decide +kernel
theorem dX7_failedCommand_0 : decode cX7_failedCommand 0 = .ok (.aload_n 0, 1) := by decide +kernel
theorem dX7_failedCommand_1 : decode cX7_failedCommand 1 = .ok (.aload_n 0, 1) := by decide +kernel
theorem dX7_failedCommand_2 : decode cX7_failedCommand 2 = .ok (.getfield 24, 3) := by decide +kernel
theorem dX7_failedCommand_5 : decode cX7_failedCommand 5 = .ok (.iconst (-1), 1) := by decide +kernel
theorem dX7_failedCommand_6 : decode cX7_failedCommand 6 = .ok (.if_icmp .eq 7, 3) := by decide +kernel
theorem dX7_failedCommand_9 : decode cX7_failedCommand 9 = .ok (.iconst 1, 1) := by decide +kernel
theorem dX7_failedCommand_10 : decode cX7_failedCommand 10 = .ok (.goto 4, 3) := by decide +kernel
theorem dX7_failedCommand_13 : decode cX7_failedCommand 13 = .ok (.iconst 0, 1) := by decide +kernel
theorem dX7_failedCommand_14 : decode cX7_failedCommand 14 = .ok (.invokevirtual 134, 3) := by decide +kernel
theorem dX7_failedCommand_17 : decode cX7_failedCommand 17 = .ok (.ifCond .eq 10, 3) := by decide +kernel
theorem dX7_failedCommand_20 : decode cX7_failedCommand 20 = .ok (.aload_n 0, 1) := by decide +kernel
theorem dX7_failedCommand_21 : decode cX7_failedCommand 21 = .ok (.getfield 24, 3) := by decide +kernel
theorem dX7_failedCommand_24 : decode cX7_failedCommand 24 = .ok (.goto 4, 3) := by decide +kernel
theorem dX7_failedCommand_27 : decode cX7_failedCommand 27 = .ok (.iconst 0, 1) := by decide +kernel
theorem dX7_failedCommand_28 : decode cX7_failedCommand 28 = .ok (.ireturn, 1) := by decide +kernel
theorem dX7_undo_0 : decode cX7_undo 0 = .ok (.aload_n 0, 1) := by decide +kernel
theorem dX7_undo_1 : decode cX7_undo 1 = .ok (.aload_n 0, 1) := by decide +kernel
theorem dX7_undo_2 : decode cX7_undo 2 = .ok (.getfield 37, 3) := by decide +kernel
theorem dX7_undo_5 : decode cX7_undo 5 = .ok (.ifCond .le 7, 3) := by decide +kernel
theorem dX7_undo_8 : decode cX7_undo 8 = .ok (.iconst 1, 1) := by decide +kernel
theorem dX7_undo_9 : decode cX7_undo 9 = .ok (.goto 4, 3) := by decide +kernel
theorem dX7_undo_12 : decode cX7_undo 12 = .ok (.iconst 0, 1) := by decide +kernel
theorem dX7_undo_13 : decode cX7_undo 13 = .ok (.invokevirtual 134, 3) := by decide +kernel
theorem dX7_undo_16 : decode cX7_undo 16 = .ok (.ifCond .ne 5, 3) := by decide +kernel
theorem dX7_undo_19 : decode cX7_undo 19 = .ok (.iconst 0, 1) := by decide +kernel
theorem dX7_undo_20 : decode cX7_undo 20 = .ok (.ireturn, 1) := by decide +kernel
theorem dX7_undo_21 : decode cX7_undo 21 = .ok (.aload_n 0, 1) := by decide +kernel
theorem dX7_undo_22 : decode cX7_undo 22 = .ok (.aload_n 0, 1) := by decide +kernel
theorem dX7_undo_23 : decode cX7_undo 23 = .ok (.getfield 37, 3) := by decide +kernel
theorem dX7_undo_26 : decode cX7_undo 26 = .ok (.iconst 0, 1) := by decide +kernel
theorem dX7_undo_27 : decode cX7_undo 27 = .ok (.invokevirtual 33, 3) := by decide +kernel
theorem dX7_undo_30 : decode cX7_undo 30 = .ok (.aload_n 0, 1) := by decide +kernel
theorem dX7_undo_31 : decode cX7_undo 31 = .ok (.dup, 1) := by decide +kernel
theorem dX7_undo_32 : decode cX7_undo 32 = .ok (.getfield 37, 3) := by decide +kernel
theorem dX7_undo_35 : decode cX7_undo 35 = .ok (.iconst 1, 1) := by decide +kernel
theorem dX7_undo_36 : decode cX7_undo 36 = .ok (.isub, 1) := by decide +kernel
theorem dX7_undo_37 : decode cX7_undo 37 = .ok (.putfield 37, 3) := by decide +kernel
theorem dX7_undo_40 : decode cX7_undo 40 = .ok (.aload_n 0, 1) := by decide +kernel
theorem dX7_undo_41 : decode cX7_undo 41 = .ok (.getfield 37, 3) := by decide +kernel
theorem dX7_undo_44 : decode cX7_undo 44 = .ok (.ireturn, 1) := by decide +kernel
theorem dX7_save_0 : decode cX7_save 0 = .ok (.aload_n 0, 1) := by decide +kernel
theorem dX7_save_1 : decode cX7_save 1 = .ok (.iconst 0, 1) := by decide +kernel
theorem dX7_save_2 : decode cX7_save 2 = .ok (.putfield 30, 3) := by decide +kernel
theorem dX7_save_5 : decode cX7_save 5 = .ok (.aload_n 0, 1) := by decide +kernel
theorem dX7_save_6 : decode cX7_save 6 = .ok (.iconst 1, 1) := by decide +kernel
theorem dX7_save_7 : decode cX7_save 7 = .ok (.putfield 219, 3) := by decide +kernel
theorem dX7_save_10 : decode cX7_save 10 = .ok (.aload_n 0, 1) := by decide +kernel
theorem dX7_save_11 : decode cX7_save 11 = .ok (.iconst 0, 1) := by decide +kernel
theorem dX7_save_12 : decode cX7_save 12 = .ok (.bipush 9, 2) := by decide +kernel
theorem dX7_save_14 : decode cX7_save 14 = .ok (.invokevirtual 33, 3) := by decide +kernel
theorem dX7_save_17 : decode cX7_save 17 = .ok (.aload_n 0, 1) := by decide +kernel
theorem dX7_save_18 : decode cX7_save 18 = .ok (.getfield 9, 3) := by decide +kernel
theorem dX7_save_21 : decode cX7_save 21 = .ok (.bipush 6, 2) := by decide +kernel
theorem dX7_save_23 : decode cX7_save 23 = .ok (.iaload, 1) := by decide +kernel
theorem dX7_save_24 : decode cX7_save 24 = .ok (.ireturn, 1) := by decide +kernel
theorem dX7_restore_0 : decode cX7_restore 0 = .ok (.aload_n 0, 1) := by decide +kernel
theorem dX7_restore_1 : decode cX7_restore 1 = .ok (.aload_n 0, 1) := by decide +kernel
theorem dX7_restore_2 : decode cX7_restore 2 = .ok (.getfield 219, 3) := by decide +kernel
theorem dX7_restore_5 : decode cX7_restore 5 = .ok (.invokevirtual 134, 3) := by decide +kernel
theorem dX7_restore_8 : decode cX7_restore 8 = .ok (.ifCond .ne 5, 3) := by decide +kernel
theorem dX7_restore_11 : decode cX7_restore 11 = .ok (.iconst 0, 1) := by decide +kernel
theorem dX7_restore_12 : decode cX7_restore 12 = .ok (.ireturn, 1) := by decide +kernel
theorem dX7_restore_13 : decode cX7_restore 13 = .ok (.aload_n 0, 1) := by decide +kernel
theorem dX7_restore_14 : decode cX7_restore 14 = .ok (.bipush 9, 2) := by decide +kernel
theorem dX7_restore_16 : decode cX7_restore 16 = .ok (.iconst 0, 1) := by decide +kernel
theorem dX7_restore_17 : decode cX7_restore 17 = .ok (.invokevirtual 33, 3) := by decide +kernel
theorem dX7_restore_20 : decode cX7_restore 20 = .ok (.aload_n 0, 1) := by decide +kernel
theorem dX7_restore_21 : decode cX7_restore 21 = .ok (.iconst 0, 1) := by decide +kernel
theorem dX7_restore_22 : decode cX7_restore 22 = .ok (.putfield 37, 3) := by decide +kernel
theorem dX7_restore_25 : decode cX7_restore 25 = .ok (.aload_n 0, 1) := by decide +kernel
theorem dX7_restore_26 : decode cX7_restore 26 = .ok (.getfield 9, 3) := by decide +kernel
theorem dX7_restore_29 : decode cX7_restore 29 = .ok (.bipush 6, 2) := by decide +kernel
theorem dX7_restore_31 : decode cX7_restore 31 = .ok (.iaload, 1) := by decide +kernel
theorem dX7_restore_32 : decode cX7_restore 32 = .ok (.ireturn, 1) := by decide +kernel
end
section
/-! THE MEMORY: all cells of the class and of the reference stand at fixed places; a memory gives the numbers of each place. Every contract speaks of the one world 'ml_wm'. -/
abbrev ml_E : Type := Program × Env × Room × State × MethodId × Array Value × List Frame × Method × Code
abbrev ml_M : Type := Nat → Nat → Int32
/-- the first cell of ours; the classes; the array classes; the address of each place; the addresses of static arrays and text constants; the launch -/
abbrev ml_G : Type := Nat × va_G × (Nat → ClassId) × (Nat → Nat) × (Nat → Nat) × Launch
def ml_all : List Cond := lw_tbl.filter goodWord
theorem ml_in {w : Cond} (h : w ∈ lw_tbl) (hg : goodWord w = true) : w ∈ ml_all := List.mem_filter.mpr ⟨h, hg⟩
theorem ml_tb {w : Cond} (i : Nat) (h : tables_1[i]? = some w) (hg : goodWord w = true) : w ∈ ml_all := ml_in (List.mem_append_right _ (List.mem_of_getElem? h)) hg
theorem ml_pv {q : MethodName × Nat} (h : q ∈ lw_privs) (hg : goodWord (Cond.selects q.1.cls q.1 q.1) = true) : Cond.selects q.1.cls q.1 q.1 ∈ ml_all := ml_in (List.mem_append_left _ (List.mem_map.mpr ⟨q, h, rfl⟩)) hg
def ml_ws (y : MethodName) (cc : ByteArray) (n : Nat) (ret : Option FieldType) : List Cond := Cond.code y cc n ret :: ml_all
theorem ml_good {y : MethodName} {cc : ByteArray} {n : Nat} {ret : Option FieldType} (h : Cond.code y cc n ret ∈ ml_all) : GoodIn ml_all (ml_ws y cc n ret) := by
  intro w hw
  rcases List.mem_cons.mp hw with rfl | hw
  · exact ⟨h, good_of_word (List.mem_filter.mp h).2⟩
  · exact ⟨hw, good_of_word (List.mem_filter.mp hw).2⟩
def ml_rf (g : ml_G) (k : Nat) : Value := .ref (g.2.2.2.1 k)
def ml_ar (g : ml_G) (t n : Nat) (m : Nat → Int32) : va_E := .inl (g.2.2.1 t, n, .inl m)
def ml_fl (i : Nat) : Nat := 16 + 15 * i
def ml_base (g : ml_G) (k : Nat) (m : Nat → Int32) : va_E := match k with
  | 0 => .inr (10, [ml_rf g (ml_fl 0), ml_rf g (ml_fl 1), ml_rf g (ml_fl 2), .int (m 3), ml_rf g 1, ml_rf g 3, ml_rf g 9, .int (m 7), .int (m 8)])
  | 1 => .inr (7, [ml_rf g 2, .int (m 1), .int (m 2)])
  | 2 => .inl (g.2.2.1 3, 8, .inr (.inr (.inr (.inr (fun i => some (g.2.2.2.1 (ml_fl (3 + i))))))))
  | 3 => .inr (8, [ml_rf g 4, .int (m 1), .int (m 2), .int (m 3), .int (m 4), ml_rf g 5, ml_rf g 6, ml_rf g 7, ml_rf g 8])
  | 4 => ml_ar g 1 60 m
  | 5 => ml_ar g 0 60 m
  | 6 => ml_ar g 0 60 m
  | 7 => ml_ar g 0 60 m
  | 8 => ml_ar g 0 60 m
  | 9 => .inr (1, [ml_rf g 10, .int (m 1), .int (m 2), .int (m 3)])
  | 10 => ml_ar g 4 16 m
  | 11 => .inr (11, [.int (m 0), ml_rf g 12, .int (m 2), .int (m 3), .int (m 4), .int (m 5), ml_rf g 13, .int (m 7), ml_rf g 14, .int (m 9), .int (m 10), .int (m 11), .int (m 12), .int (m 13), ml_rf g 15, .int (m 15)])
  | 12 => ml_ar g 0 960 m
  | 13 => ml_ar g 1 40 m
  | 14 => ml_ar g 1 60 m
  | _ => ml_ar g 0 244 m
def ml_flk (g : ml_G) (b o : Nat) (m : Nat → Int32) : va_E := match o with
  | 0 => .inr (6, [ml_rf g (b + 1), ml_rf g (b + 5), ml_rf g (b + 12), .int (m 3)])
  | 1 => .inr (9, [ml_rf g (b + 2), ml_rf g (b + 3), ml_rf g (b + 4), .int (m 3), .int (m 4), .int (m 5), .int (m 6), .int (m 7)])
  | 2 => ml_ar g 0 5 m
  | 3 => ml_ar g 0 4 m
  | 4 => ml_ar g 2 4 m
  | 5 => .inr (5, [.int (m 0), .int (m 1), ml_rf g (b + 6), ml_rf g (b + 7), ml_rf g (b + 8), ml_rf g (b + 9), ml_rf g (b + 10), ml_rf g (b + 11)])
  | 6 => ml_ar g 0 8 m
  | 7 => ml_ar g 0 8 m
  | 8 => ml_ar g 2 8 m
  | 9 => ml_ar g 0 8 m
  | 10 => ml_ar g 0 8 m
  | 11 => ml_ar g 0 3 m
  | 12 => .inr (4, [ml_rf g (b + 13), ml_rf g (b + 14), .int (m 2), .int (m 3)])
  | 13 => ml_ar g 1 8 m
  | _ => ml_ar g 0 8 m
def ml_ct (g : ml_G) (k : Nat) (m : Nat → Int32) : va_E :=
  if k < 16 then ml_base g k m
  else if k < 181 then ml_flk g (16 + 15 * ((k - 16) / 15)) ((k - 16) % 15) m
  else if k = 181 then .inl (g.2.2.1 5, 1, .inr (.inl (fun j => (m j).toInt64)))
  else .inl (g.2.2.1 6, 1, .inr (.inr (.inr (.inl (fun _ => FP.ddiv (FP.i2d (m 0)) (FP.i2d (m 1)))))))
def ml_wm (g : ml_G) (M : ml_M) : va_W := (List.range 183).map (fun k => (g.2.2.2.1 k, ml_ct g k (M k)))
/-- one number is written -/
def ml_w (M : ml_M) (k j : Nat) (x : Int32) : ml_M := fun a => if a = k then upd (M a) j x else M a
theorem ml_w_at {M : ml_M} {k j : Nat} {x : Int32} : ml_w M k j x k = upd (M k) j x := if_pos rfl
theorem ml_w_ne {M : ml_M} {k j : Nat} {x : Int32} {a : Nat} (h : a ≠ k) : ml_w M k j x a = M a := if_neg h
theorem ml_wm_at {g : ml_G} {M : ml_M} {k : Nat} (hk : k < 183) : (ml_wm g M)[k]? = some (g.2.2.2.1 k, ml_ct g k (M k)) := by
  simp [ml_wm, hk]
theorem ml_wm_set {g : ml_G} {M : ml_M} {k j : Nat} {x : Int32} {e : va_E} (he : e = ml_ct g k (upd (M k) j x)) : (ml_wm g M).set k (g.2.2.2.1 k, e) = ml_wm g (ml_w M k j x) := by
  subst he
  apply List.ext_getElem?
  intro i
  rw [List.getElem?_set]
  by_cases hi : i < 183
  · by_cases h : k = i
    · subst h
      simp [ml_wm, hi, ml_w]
    · simp [ml_wm, hi, ml_w, h, Ne.symm h]
  · simp [ml_wm, hi]
    intro h
    omega
theorem ml_D_any {A : Nat → Prop} {g : ml_G} {M M' : ml_M} (h : va_D A (ml_wm g M)) : va_D A (ml_wm g M') := by
  have key : ∀ (k : Nat) (q : Nat × va_E), (ml_wm g M')[k]? = some q → ∃ q2 : Nat × va_E, (ml_wm g M)[k]? = some q2 ∧ q2.1 = q.1 := by
    intro k q hq
    have hk : k < 183 := by
      have := (List.getElem?_eq_some_iff.mp hq).1
      simpa [ml_wm] using this
    rw [ml_wm_at hk] at hq
    cases hq
    exact ⟨_, ml_wm_at hk, rfl⟩
  refine ⟨fun i j p q hp hq e => ?_, fun k q hq => ?_⟩
  · obtain ⟨p2, h1, e1⟩ := key i p hp
    obtain ⟨q2, h2, e2⟩ := key j q hq
    exact h.1 i j p2 q2 h1 h2 (by rw [e1, e2]; exact e)
  · obtain ⟨q2, h1, e1⟩ := key k q hq
    rw [← e1]
    exact h.2 k q2 h1
def ml_P (g : ml_G) (M : ml_M) (H : Heap) : Prop := va_P g.2.1 vwCl (ml_wm g M) H
def ml_A (g : ml_G) : Nat → Prop := fun q => g.1 ≤ q
def ml_ty (g : ml_G) : List (ClassId × FieldType) := [(g.2.2.1 0, .int), (g.2.2.1 1, .char), (g.2.2.1 2, .boolean), (g.2.2.1 3, .object "CanalLocks$Flight"), (g.2.2.1 4, .byte), (g.2.2.1 5, .long), (g.2.2.1 6, .double)]
def ml_K (g : ml_G) (U : State) : Prop := va_K g.2.1 vwCl (ml_ty g) U
def ml_sv (j : Nat) : Int32 := [300, 144, 108, 72, 60].getD j 0
def ml_cs (j : Nat) : Int32 := [114, 103, 98].getD j 0
/-- links between nest mates that the class uses, and the casts of its exceptions -/
def ml_nest : List Cond := [.fieldLinkNest RX1 42 RX6 "COLOUR_SIGNS" "[C" RX6, .fieldLinkNest RX5 38 RX6 "START_VOLUMES" "[I" RX6, .methodLinkNest RX6 11 yX2_init RX6, .methodLinkNest RX6 35 yX4_init RX6, .methodLinkNest RX2 20 yX1_init RX6, .methodLinkNest RX2 27 yX0_init RX6, .methodLinkNest RX2 62 yX6_colourNumber RX6, .methodLinkNest RX2 68 yX6_isGate RX6, .methodLinkNest RX3 24 yX2_init RX6, .methodLinkNest RX5 41 yX6_areaOf RX6, .castable "java/lang/IndexOutOfBoundsException" "java/lang/IndexOutOfBoundsException", .castable "java/lang/IllegalArgumentException" "java/lang/IllegalArgumentException", .castable "java/lang/IllegalStateException" "java/lang/IllegalStateException", .castable "java/util/NoSuchElementException" "java/util/NoSuchElementException", .castable "java/lang/UnsupportedOperationException" "java/lang/UnsupportedOperationException", .declares (Bundle.initS "java/lang/RuntimeException"), .declares (Bundle.initS "java/lang/Exception"), .declares (Bundle.initS Bundle.tN)]
/-- the texts of the class's throws: their constants -/
def ml_txt : List (Nat × String) := [(178, "no such colour"), (198, "the boat does not leave within 200 minutes"), (200, "the basins are not equalized within 200 minutes"), (202, "the minutes are not between 0 and 200"), (253, "no such character of the output text"), (259, "the character code is not between 32 and 126"), (265, "the script buffer is full"), (277, "the script does not have the required form"), (292, "a command of the script failed"), (300, "no script lacked the required form"), (302, "no script had a failed command"), (305, "there is nothing to undo"), (310, "there is no snapshot"), (315, "no such valve or gate"), (317, "no such colour, draught, opening, litres or minutes"), (319, "the boats or the gate do not allow this now"), (323, "the equalizing amount is not 0"), (326, "no such basin"), (331, "no such boat"), (333, "no such event"), (133, "no such rank")]
/-- the texts of the script's words: constants of Script, their bytes -/
def ml_str (i : Nat) : Nat × String × List Int32 := match i with
  | 0 => (46, ";", [59])
  | 1 => (58, "open ", [111, 112, 101, 110, 32])
  | 2 => (66, "shut ", [115, 104, 117, 116, 32])
  | 3 => (68, "rain ", [114, 97, 105, 110, 32])
  | 4 => (70, "drain ", [100, 114, 97, 105, 110, 32])
  | 5 => (75, "boat ", [98, 111, 97, 116, 32])
  | 6 => (77, "rgb", [114, 103, 98])
  | 7 => (79, "0123456789", [48, 49, 50, 51, 52, 53, 54, 55, 56, 57])
  | 8 => (81, " ", [32])
  | 9 => (83, "du", [100, 117])
  | 10 => (85, "valve ", [118, 97, 108, 118, 101, 32])
  | _ => (87, "wait", [119, 97, 105, 116])
/-- thrown classes that an earlier catch does not take -/
def ml_nc : List (String × String) := [("java/lang/IllegalStateException", "java/lang/IllegalArgumentException"), ("java/lang/IllegalArgumentException", "java/lang/IndexOutOfBoundsException"), ("java/lang/IllegalStateException", "java/lang/IndexOutOfBoundsException"), ("java/lang/UnsupportedOperationException", "java/lang/IndexOutOfBoundsException"), ("java/lang/UnsupportedOperationException", "java/lang/IllegalStateException"), ("java/util/NoSuchElementException", "java/lang/IndexOutOfBoundsException")]
def ml_dig (t j : Nat) : Int32 := if t = 0 then nI (48 + j % 10) else nI (48 + j / 10)
/-- what lies in the heap ahead of our cells, and stays -/
def ml_X1 (g : ml_G) (U : State) (H : Heap) : Prop :=
  (va_Z RX6 "START_VOLUMES" "[I" (.ref (g.2.2.2.2.1 0)) (ml_A g) U H ∧ va_T .int (g.2.2.2.2.1 0) 5 (fun j => .int (ml_sv j)) (ml_A g) U H) ∧
  (va_Z RX6 "COLOUR_SIGNS" "[C" (.ref (g.2.2.2.2.1 1)) (ml_A g) U H ∧ va_T .char (g.2.2.2.2.1 1) 3 (fun j => .int (ml_cs j)) (ml_A g) U H) ∧
  (vx_Zq Bundle.tN "UNASSIGNED_STACK" Bundle.steD (ml_A g) U H ∧ vx_Zq Bundle.tN "SUPPRESSED_SENTINEL" Bundle.listD (ml_A g) U H) ∧
  va_Z "java/lang/String" "COMPACT_STRINGS" "Z" (.int 1) (ml_A g) U H ∧
  (va_Z "java/lang/Integer" "DigitOnes" "[B" (.ref (g.2.2.2.2.1 2)) (ml_A g) U H ∧ va_T .byte (g.2.2.2.2.1 2) 100 (fun j => .int (ml_dig 0 j)) (ml_A g) U H) ∧
  (va_Z "java/lang/Integer" "DigitTens" "[B" (.ref (g.2.2.2.2.1 3)) (ml_A g) U H ∧ va_T .byte (g.2.2.2.2.1 3) 100 (fun j => .int (ml_dig 1 j)) (ml_A g) U H) ∧
  (∀ i, i < 12 → va_O "java/lang/String" (g.2.2.2.2.1 (10 + i)) (ml_A g) U H ∧ va_OF "java/lang/String" "coder" "B" (.int 0) (g.2.2.2.2.1 (10 + i)) (ml_A g) U H ∧ va_OF "java/lang/String" "value" "[B" (.ref (g.2.2.2.2.1 (40 + i))) (g.2.2.2.2.1 (10 + i)) (ml_A g) U H ∧ va_T .byte (g.2.2.2.2.1 (40 + i)) (ml_str i).2.2.length (fun j => .int ((ml_str i).2.2.getD j 0)) (ml_A g) U H) ∧
  ∀ q ∈ ml_nc, va_Nc q.1 q.2 U
/-- what the tables say that warming keeps -/
def ml_X2 (g : ml_G) (U : State) : Prop := (∀ w ∈ ml_nest, va_Nw w U) ∧ (∀ q ∈ ml_txt, ∃ a, vk_R RX6 q.1 q.2 a U) ∧ ∀ i, i < 12 → vk_R RX4 (ml_str i).1 (ml_str i).2.1 (g.2.2.2.2.1 (10 + i)) U
def ml_X (g : ml_G) (U : State) (H : Heap) : Prop := ml_X1 g U H ∧ ml_X2 g U
/-- what holds at a call: the world, the tables, the statics -/
def ml_H (g : ml_G) (M : ml_M) (U : State) : Prop := g.1 ≤ U.heap.size ∧ ml_P g M U.heap ∧ ml_K g U ∧ va_D (ml_A g) (ml_wm g M) ∧ ml_X g U U.heap
/-- the frame: the machine, the code, the words, the room, what the call found -/
def ml_F (E : ml_E) (g : ml_G) (cc : ByteArray) (own : String) (nL lv mc ms : Nat) (ret : Option FieldType) (tb : List ExceptionTableEntry) : Prop := match E with
  | (p, _, R, s, m, args, _, meth, c) => (p.tables.exec = Jvm.exec ∧ c.code = cc ∧ (∀ w ∈ ml_all, w.before args s = true) ∧ s.vm.findClass own = some m.cls ∧ c.maxLocals = nL ∧ meth.locks = false) ∧ (ml_K g s ∧ (∃ M, va_D (ml_A g) (ml_wm g M)) ∧ ml_X g s s.heap ∧ g.1 ≤ s.heap.size ∧ g.2.2.2.2.2.stackTraces = false) ∧
    (40 + lv ≤ R.frames ∧ 800 + 64 * lv ≤ R.locals ∧ mc ≤ R.cells ∧ ms ≤ R.slots) ∧ meth.sig.returnType = ret ∧ c.exceptionTable.toList = tb
def ml_J (E : ml_E) (g : ml_G) (nL : Nat) (Q : State → Prop) (k n pc : Nat) (ls : List (Nat × Value)) (st : List Value) (M : ml_M) : Prop := match E with
  | (p, e, R, s, m, args, below, meth, c) => ∀ (H : Heap) (locs : List Loc) (la : Array Slot), ml_P g M H → va_S (ml_A g) s.heap H locs → lv_has la nL ls → W p g.2.2.2.2.2 e R s m args below meth c H locs k n Q (F0 m pc la st)
theorem ml_nest_warm {s U : State} (hW : s.WarmedH U.vm) (h : ∀ w ∈ ml_nest, va_Nw w s) : ∀ w ∈ ml_nest, va_Nw w U := by
  intro w hw
  have h1 := h w hw
  simp only [ml_nest, List.mem_cons, List.mem_nil_iff, or_false] at hw
  rcases hw with rfl | rfl | rfl | rfl | rfl | rfl | rfl | rfl | rfl | rfl | rfl | rfl | rfl | rfl | rfl | rfl | rfl | rfl
  all_goals first | exact va_Nw.warmF hW h1 | exact va_Nw.warmM hW h1 | exact va_Nw.warmC hW h1 | exact va_Nw.warmD hW h1
theorem ml_X1_to {g : ml_G} {s U : State} {H0 H : Heap} (hv : s.vm.Alike U.vm) (hq : ∀ a : Nat, a < H0.size → ¬ ml_A g a → H[a]? = H0[a]?) (h : ml_X1 g s H0) : ml_X1 g U H := by
  obtain ⟨⟨h1, h2⟩, ⟨h3, h4⟩, ⟨h5, h6⟩, h7, ⟨h8, h9⟩, ⟨h10, h11⟩, h12, h13⟩ := h
  exact ⟨⟨va_Z.moved hv (h1.kept hq), va_T.moved hv (h2.kept hq)⟩, ⟨va_Z.moved hv (h3.kept hq), va_T.moved hv (h4.kept hq)⟩, ⟨vx_Zq.moved hv (h5.kept hq), vx_Zq.moved hv (h6.kept hq)⟩, va_Z.moved hv (h7.kept hq), ⟨va_Z.moved hv (h8.kept hq), va_T.moved hv (h9.kept hq)⟩, ⟨va_Z.moved hv (h10.kept hq), va_T.moved hv (h11.kept hq)⟩, fun i hi => ⟨va_O.moved hv ((h12 i hi).1.kept hq), va_OF.moved hv ((h12 i hi).2.1.kept hq), va_OF.moved hv ((h12 i hi).2.2.1.kept hq), va_T.moved hv ((h12 i hi).2.2.2.kept hq)⟩, fun q hq9 => va_Nc.moved hv (h13 q hq9)⟩
theorem ml_X2_to {g : ml_G} {s U : State} (hW : s.WarmedH U.vm) (h : ml_X2 g s) : ml_X2 g U := ⟨ml_nest_warm hW h.1, fun q hq => by obtain ⟨a, ha⟩ := h.2.1 q hq; exact ⟨a, vk_R.warm hW ha⟩, fun i hi => vk_R.warm hW (h.2.2 i hi)⟩
theorem ml_X_to {g : ml_G} {s U : State} {H : Heap} {locs : List Loc} (hW : s.WarmedH U.vm) (hS : va_S (ml_A g) s.heap H locs) (h : ml_X g s s.heap) : ml_X g U H := ⟨ml_X1_to hW.alike hS.2.1 h.1, ml_X2_to hW h.2⟩
theorem ml_H_to {g : ml_G} {M M0 : ml_M} {s t : State} {H : Heap} {locs : List Loc} (hW : s.WarmedH t.vm) (ht : t.heap = H) (hP : ml_P g M H) (hS : va_S (ml_A g) s.heap H locs) (hK : ml_K g s) (hD : va_D (ml_A g) (ml_wm g M0)) (hX : ml_X g s s.heap) (hz : g.1 ≤ s.heap.size) : ml_H g M t := by
  subst ht
  exact ⟨Nat.le_trans hz hS.1, hP, va_K.moved hW.alike hK, ml_D_any hD, ml_X_to hW hS hX⟩
end
section
abbrev ml_ok (i : Int32) (n : Nat) : Prop := ¬ i < 0 ∧ i.toNatClampNeg < n
theorem ml_ok_in {i : Int32} {n : Nat} (h : ml_ok i n) : vp_in i n := fun q => q.elim h.1 (fun q => Nat.not_le.mpr h.2 q)
abbrev ml_R : Type := (Int32 ⊕ Nat) × ml_M
/-- a call's result goes on, a throw leaves -/
def ml_bd (x : Option ml_R) (B : Int32 → ml_M → Option ml_R) : Option ml_R := match x with
  | none => none
  | some (.inl r, M) => B r M
  | some (.inr e, M) => some (.inr e, M)
theorem ml_if {α : Type} {c : Prop} {A : Option α} {r : α} {d : Decidable c} (h : (@ite _ c d A none) = some r) : c ∧ A = some r := by
  by_cases q : c
  · exact ⟨q, by rw [if_pos q] at h; exact h⟩
  · rw [if_neg q] at h; cases h
theorem ml_iconst {E : ml_E} {g : ml_G} {cc : ByteArray} {own : String} {nL lv mc ms : Nat} {ret : Option FieldType} {tb : List ExceptionTableEntry} {Q : State → Prop} {k n pc : Nat} {ls : List (Nat × Value)} {st : List Value} {M : ml_M} {z : Int} {v : Int32} (F : ml_F E g cc own nL lv mc ms ret tb) (hd : decode cc pc = .ok (.iconst z, 1)) (hv : Int32.ofInt z = v) (K : ml_J E g nL Q k n (pc + 1) ls (.int v :: st) M) : ml_J E g nL Q k n (pc) ls (st) M := by
  obtain ⟨p, e, R, s, m, args, below, meth, c⟩ := E
  obtain ⟨⟨hx, hb, ht, ho, hm, hlk⟩, ⟨hK, ⟨M0, hD0⟩, hX, hz, htr⟩, ⟨hR1, hR2, hR3, hR4⟩, hret, htb⟩ := F
  have hD : va_D (ml_A g) (ml_wm g M) := ml_D_any hD0
  intro H locs la hP hS hl
  exact lv_iconst hx hb hd hv (K H locs la hP hS hl)
theorem ml_bipush {E : ml_E} {g : ml_G} {cc : ByteArray} {own : String} {nL lv mc ms : Nat} {ret : Option FieldType} {tb : List ExceptionTableEntry} {Q : State → Prop} {k n pc : Nat} {ls : List (Nat × Value)} {st : List Value} {M : ml_M} {z : Int} {v : Int32} (F : ml_F E g cc own nL lv mc ms ret tb) (hd : decode cc pc = .ok (.bipush z, 2)) (hv : (Int8.ofInt z).toInt32 = v) (K : ml_J E g nL Q k n (pc + 2) ls (.int v :: st) M) : ml_J E g nL Q k n (pc) ls (st) M := by
  obtain ⟨p, e, R, s, m, args, below, meth, c⟩ := E
  obtain ⟨⟨hx, hb, ht, ho, hm, hlk⟩, ⟨hK, ⟨M0, hD0⟩, hX, hz, htr⟩, ⟨hR1, hR2, hR3, hR4⟩, hret, htb⟩ := F
  have hD : va_D (ml_A g) (ml_wm g M) := ml_D_any hD0
  intro H locs la hP hS hl
  exact lv_bipush hx hb hd hv (K H locs la hP hS hl)
theorem ml_sipush {E : ml_E} {g : ml_G} {cc : ByteArray} {own : String} {nL lv mc ms : Nat} {ret : Option FieldType} {tb : List ExceptionTableEntry} {Q : State → Prop} {k n pc : Nat} {ls : List (Nat × Value)} {st : List Value} {M : ml_M} {z : Int} {v : Int32} (F : ml_F E g cc own nL lv mc ms ret tb) (hd : decode cc pc = .ok (.sipush z, 3)) (hv : (Int16.ofInt z).toInt32 = v) (K : ml_J E g nL Q k n (pc + 3) ls (.int v :: st) M) : ml_J E g nL Q k n (pc) ls (st) M := by
  obtain ⟨p, e, R, s, m, args, below, meth, c⟩ := E
  obtain ⟨⟨hx, hb, ht, ho, hm, hlk⟩, ⟨hK, ⟨M0, hD0⟩, hX, hz, htr⟩, ⟨hR1, hR2, hR3, hR4⟩, hret, htb⟩ := F
  have hD : va_D (ml_A g) (ml_wm g M) := ml_D_any hD0
  intro H locs la hP hS hl
  exact lv_sipush hx hb hd hv (K H locs la hP hS hl)
theorem ml_lconst {E : ml_E} {g : ml_G} {cc : ByteArray} {own : String} {nL lv mc ms : Nat} {ret : Option FieldType} {tb : List ExceptionTableEntry} {Q : State → Prop} {k n pc : Nat} {ls : List (Nat × Value)} {st : List Value} {M : ml_M} {z : Fin 2} {v : Int64} (F : ml_F E g cc own nL lv mc ms ret tb) (hd : decode cc pc = .ok (.lconst z, 1)) (hv : Int64.ofNat (z : Nat) = v) (K : ml_J E g nL Q k n (pc + 1) ls (.long v :: st) M) : ml_J E g nL Q k n (pc) ls (st) M := by
  obtain ⟨p, e, R, s, m, args, below, meth, c⟩ := E
  obtain ⟨⟨hx, hb, ht, ho, hm, hlk⟩, ⟨hK, ⟨M0, hD0⟩, hX, hz, htr⟩, ⟨hR1, hR2, hR3, hR4⟩, hret, htb⟩ := F
  have hD : va_D (ml_A g) (ml_wm g M) := ml_D_any hD0
  intro H locs la hP hS hl
  exact lv_lconst hx hb hd hv (K H locs la hP hS hl)
theorem ml_iload_n {E : ml_E} {g : ml_G} {cc : ByteArray} {own : String} {nL lv mc ms : Nat} {ret : Option FieldType} {tb : List ExceptionTableEntry} {Q : State → Prop} {k n pc : Nat} {ls : List (Nat × Value)} {st : List Value} {M : ml_M} {kk : Fin 4} {i q : Nat} {x : Int32} (F : ml_F E g cc own nL lv mc ms ret tb) (hd : decode cc pc = .ok (.iload_n kk, 1)) (hi : (kk : Nat) = i) (hq : ls[q]? = some (i, .int x)) (K : ml_J E g nL Q k n (pc + 1) ls (.int x :: st) M) : ml_J E g nL Q k n (pc) ls (st) M := by
  obtain ⟨p, e, R, s, m, args, below, meth, c⟩ := E
  obtain ⟨⟨hx, hb, ht, ho, hm, hlk⟩, ⟨hK, ⟨M0, hD0⟩, hX, hz, htr⟩, ⟨hR1, hR2, hR3, hR4⟩, hret, htb⟩ := F
  have hD : va_D (ml_A g) (ml_wm g M) := ml_D_any hD0
  intro H locs la hP hS hl
  exact lv_iload_n hx hb hd hi (lv_at hl q hq) (K H locs la hP hS hl)
theorem ml_iload {E : ml_E} {g : ml_G} {cc : ByteArray} {own : String} {nL lv mc ms : Nat} {ret : Option FieldType} {tb : List ExceptionTableEntry} {Q : State → Prop} {k n pc : Nat} {ls : List (Nat × Value)} {st : List Value} {M : ml_M} {i q : Nat} {x : Int32} (F : ml_F E g cc own nL lv mc ms ret tb) (hd : decode cc pc = .ok (.iload i, 2)) (hq : ls[q]? = some (i, .int x)) (K : ml_J E g nL Q k n (pc + 2) ls (.int x :: st) M) : ml_J E g nL Q k n (pc) ls (st) M := by
  obtain ⟨p, e, R, s, m, args, below, meth, c⟩ := E
  obtain ⟨⟨hx, hb, ht, ho, hm, hlk⟩, ⟨hK, ⟨M0, hD0⟩, hX, hz, htr⟩, ⟨hR1, hR2, hR3, hR4⟩, hret, htb⟩ := F
  have hD : va_D (ml_A g) (ml_wm g M) := ml_D_any hD0
  intro H locs la hP hS hl
  exact lv_iload hx hb hd (lv_at hl q hq) (K H locs la hP hS hl)
theorem ml_aload_n {E : ml_E} {g : ml_G} {cc : ByteArray} {own : String} {nL lv mc ms : Nat} {ret : Option FieldType} {tb : List ExceptionTableEntry} {Q : State → Prop} {k n pc : Nat} {ls : List (Nat × Value)} {st : List Value} {M : ml_M} {kk : Fin 4} {i q : Nat} {x : Nat} (F : ml_F E g cc own nL lv mc ms ret tb) (hd : decode cc pc = .ok (.aload_n kk, 1)) (hi : (kk : Nat) = i) (hq : ls[q]? = some (i, .ref x)) (K : ml_J E g nL Q k n (pc + 1) ls (.ref x :: st) M) : ml_J E g nL Q k n (pc) ls (st) M := by
  obtain ⟨p, e, R, s, m, args, below, meth, c⟩ := E
  obtain ⟨⟨hx, hb, ht, ho, hm, hlk⟩, ⟨hK, ⟨M0, hD0⟩, hX, hz, htr⟩, ⟨hR1, hR2, hR3, hR4⟩, hret, htb⟩ := F
  have hD : va_D (ml_A g) (ml_wm g M) := ml_D_any hD0
  intro H locs la hP hS hl
  exact lv_aload_n hx hb hd hi (lv_at hl q hq) (K H locs la hP hS hl)
theorem ml_aload {E : ml_E} {g : ml_G} {cc : ByteArray} {own : String} {nL lv mc ms : Nat} {ret : Option FieldType} {tb : List ExceptionTableEntry} {Q : State → Prop} {k n pc : Nat} {ls : List (Nat × Value)} {st : List Value} {M : ml_M} {i q : Nat} {x : Nat} (F : ml_F E g cc own nL lv mc ms ret tb) (hd : decode cc pc = .ok (.aload i, 2)) (hq : ls[q]? = some (i, .ref x)) (K : ml_J E g nL Q k n (pc + 2) ls (.ref x :: st) M) : ml_J E g nL Q k n (pc) ls (st) M := by
  obtain ⟨p, e, R, s, m, args, below, meth, c⟩ := E
  obtain ⟨⟨hx, hb, ht, ho, hm, hlk⟩, ⟨hK, ⟨M0, hD0⟩, hX, hz, htr⟩, ⟨hR1, hR2, hR3, hR4⟩, hret, htb⟩ := F
  have hD : va_D (ml_A g) (ml_wm g M) := ml_D_any hD0
  intro H locs la hP hS hl
  exact lv_aload hx hb hd (lv_at hl q hq) (K H locs la hP hS hl)
theorem ml_dload {E : ml_E} {g : ml_G} {cc : ByteArray} {own : String} {nL lv mc ms : Nat} {ret : Option FieldType} {tb : List ExceptionTableEntry} {Q : State → Prop} {k n pc : Nat} {ls : List (Nat × Value)} {st : List Value} {M : ml_M} {i q : Nat} {x : UInt64} (F : ml_F E g cc own nL lv mc ms ret tb) (hd : decode cc pc = .ok (.dload i, 2)) (hq : ls[q]? = some (i, .double x)) (K : ml_J E g nL Q k n (pc + 2) ls (.double x :: st) M) : ml_J E g nL Q k n (pc) ls (st) M := by
  obtain ⟨p, e, R, s, m, args, below, meth, c⟩ := E
  obtain ⟨⟨hx, hb, ht, ho, hm, hlk⟩, ⟨hK, ⟨M0, hD0⟩, hX, hz, htr⟩, ⟨hR1, hR2, hR3, hR4⟩, hret, htb⟩ := F
  have hD : va_D (ml_A g) (ml_wm g M) := ml_D_any hD0
  intro H locs la hP hS hl
  exact lv_dload hx hb hd (lv_at hl q hq) (K H locs la hP hS hl)
abbrev ml_put (ls : List (Nat × Value)) (i : Nat) (v : Value) : List (Nat × Value) := (i, v) :: ls.filter (fun q => !(q.1 == i) && !(q.1 + 1 == i && q.2.category == 2))
theorem ml_istore_n {E : ml_E} {g : ml_G} {cc : ByteArray} {own : String} {nL lv mc ms : Nat} {ret : Option FieldType} {tb : List ExceptionTableEntry} {Q : State → Prop} {k n pc : Nat} {ls : List (Nat × Value)} {st : List Value} {M : ml_M} {kk : Fin 4} {i : Nat} {x : Int32} {ls2 : List (Nat × Value)} (F : ml_F E g cc own nL lv mc ms ret tb) (hd : decode cc pc = .ok (.istore_n kk, 1)) (hi : (kk : Nat) = i) (hn : i < nL) (hq : ml_put ls i (.int x) = ls2) (K : ml_J E g nL Q k n (pc + 1) ls2 (st) M) : ml_J E g nL Q k n (pc) ls (.int x :: st) M := by
  obtain ⟨p, e, R, s, m, args, below, meth, c⟩ := E
  obtain ⟨⟨hx, hb, ht, ho, hm, hlk⟩, ⟨hK, ⟨M0, hD0⟩, hX, hz, htr⟩, ⟨hR1, hR2, hR3, hR4⟩, hret, htb⟩ := F
  have hD : va_D (ml_A g) (ml_wm g M) := ml_D_any hD0
  intro H locs la hP hS hl
  exact lv_istore_n hx hb hd hi hl hn hq (fun la2 hl2 => K H locs la2 hP hS hl2)
theorem ml_istore {E : ml_E} {g : ml_G} {cc : ByteArray} {own : String} {nL lv mc ms : Nat} {ret : Option FieldType} {tb : List ExceptionTableEntry} {Q : State → Prop} {k n pc : Nat} {ls : List (Nat × Value)} {st : List Value} {M : ml_M} {i : Nat} {x : Int32} {ls2 : List (Nat × Value)} (F : ml_F E g cc own nL lv mc ms ret tb) (hd : decode cc pc = .ok (.istore i, 2)) (hn : i < nL) (hq : ml_put ls i (.int x) = ls2) (K : ml_J E g nL Q k n (pc + 2) ls2 (st) M) : ml_J E g nL Q k n (pc) ls (.int x :: st) M := by
  obtain ⟨p, e, R, s, m, args, below, meth, c⟩ := E
  obtain ⟨⟨hx, hb, ht, ho, hm, hlk⟩, ⟨hK, ⟨M0, hD0⟩, hX, hz, htr⟩, ⟨hR1, hR2, hR3, hR4⟩, hret, htb⟩ := F
  have hD : va_D (ml_A g) (ml_wm g M) := ml_D_any hD0
  intro H locs la hP hS hl
  exact lv_istore hx hb hd hl hn hq (fun la2 hl2 => K H locs la2 hP hS hl2)
theorem ml_astore_n {E : ml_E} {g : ml_G} {cc : ByteArray} {own : String} {nL lv mc ms : Nat} {ret : Option FieldType} {tb : List ExceptionTableEntry} {Q : State → Prop} {k n pc : Nat} {ls : List (Nat × Value)} {st : List Value} {M : ml_M} {kk : Fin 4} {i : Nat} {x : Nat} {ls2 : List (Nat × Value)} (F : ml_F E g cc own nL lv mc ms ret tb) (hd : decode cc pc = .ok (.astore_n kk, 1)) (hi : (kk : Nat) = i) (hn : i < nL) (hq : ml_put ls i (.ref x) = ls2) (K : ml_J E g nL Q k n (pc + 1) ls2 (st) M) : ml_J E g nL Q k n (pc) ls (.ref x :: st) M := by
  obtain ⟨p, e, R, s, m, args, below, meth, c⟩ := E
  obtain ⟨⟨hx, hb, ht, ho, hm, hlk⟩, ⟨hK, ⟨M0, hD0⟩, hX, hz, htr⟩, ⟨hR1, hR2, hR3, hR4⟩, hret, htb⟩ := F
  have hD : va_D (ml_A g) (ml_wm g M) := ml_D_any hD0
  intro H locs la hP hS hl
  exact lv_astore_n hx hb hd hi hl hn hq (fun la2 hl2 => K H locs la2 hP hS hl2)
theorem ml_astore {E : ml_E} {g : ml_G} {cc : ByteArray} {own : String} {nL lv mc ms : Nat} {ret : Option FieldType} {tb : List ExceptionTableEntry} {Q : State → Prop} {k n pc : Nat} {ls : List (Nat × Value)} {st : List Value} {M : ml_M} {i : Nat} {x : Nat} {ls2 : List (Nat × Value)} (F : ml_F E g cc own nL lv mc ms ret tb) (hd : decode cc pc = .ok (.astore i, 2)) (hn : i < nL) (hq : ml_put ls i (.ref x) = ls2) (K : ml_J E g nL Q k n (pc + 2) ls2 (st) M) : ml_J E g nL Q k n (pc) ls (.ref x :: st) M := by
  obtain ⟨p, e, R, s, m, args, below, meth, c⟩ := E
  obtain ⟨⟨hx, hb, ht, ho, hm, hlk⟩, ⟨hK, ⟨M0, hD0⟩, hX, hz, htr⟩, ⟨hR1, hR2, hR3, hR4⟩, hret, htb⟩ := F
  have hD : va_D (ml_A g) (ml_wm g M) := ml_D_any hD0
  intro H locs la hP hS hl
  exact lv_astore hx hb hd hl hn hq (fun la2 hl2 => K H locs la2 hP hS hl2)
theorem ml_iinc {E : ml_E} {g : ml_G} {cc : ByteArray} {own : String} {nL lv mc ms : Nat} {ret : Option FieldType} {tb : List ExceptionTableEntry} {Q : State → Prop} {k n pc : Nat} {ls : List (Nat × Value)} {st : List Value} {M : ml_M} {i q : Nat} {z : Int} {x v : Int32} {ls2 : List (Nat × Value)} (F : ml_F E g cc own nL lv mc ms ret tb) (hd : decode cc pc = .ok (.iinc i z, 3)) (hq : ls[q]? = some (i, .int x)) (hv : x + Int32.ofInt z = v) (hn : i < nL) (h2 : ml_put ls i (.int v) = ls2) (K : ml_J E g nL Q k n (pc + 3) ls2 (st) M) : ml_J E g nL Q k n (pc) ls (st) M := by
  obtain ⟨p, e, R, s, m, args, below, meth, c⟩ := E
  obtain ⟨⟨hx, hb, ht, ho, hm, hlk⟩, ⟨hK, ⟨M0, hD0⟩, hX, hz, htr⟩, ⟨hR1, hR2, hR3, hR4⟩, hret, htb⟩ := F
  have hD : va_D (ml_A g) (ml_wm g M) := ml_D_any hD0
  intro H locs la hP hS hl
  exact lv_iinc hx hb hd hl hq hv hn h2 (fun la2 hl2 => K H locs la2 hP hS hl2)
theorem ml_iadd {E : ml_E} {g : ml_G} {cc : ByteArray} {own : String} {nL lv mc ms : Nat} {ret : Option FieldType} {tb : List ExceptionTableEntry} {Q : State → Prop} {k n pc : Nat} {ls : List (Nat × Value)} {st : List Value} {M : ml_M} {x y : Int32} (F : ml_F E g cc own nL lv mc ms ret tb) (hd : decode cc pc = .ok (.iadd, 1)) (K : ml_J E g nL Q k n (pc + 1) ls (.int (x + y) :: st) M) : ml_J E g nL Q k n (pc) ls (.int y :: .int x :: st) M := by
  obtain ⟨p, e, R, s, m, args, below, meth, c⟩ := E
  obtain ⟨⟨hx, hb, ht, ho, hm, hlk⟩, ⟨hK, ⟨M0, hD0⟩, hX, hz, htr⟩, ⟨hR1, hR2, hR3, hR4⟩, hret, htb⟩ := F
  have hD : va_D (ml_A g) (ml_wm g M) := ml_D_any hD0
  intro H locs la hP hS hl
  exact lv_iadd hx hb hd (K H locs la hP hS hl)
theorem ml_isub {E : ml_E} {g : ml_G} {cc : ByteArray} {own : String} {nL lv mc ms : Nat} {ret : Option FieldType} {tb : List ExceptionTableEntry} {Q : State → Prop} {k n pc : Nat} {ls : List (Nat × Value)} {st : List Value} {M : ml_M} {x y : Int32} (F : ml_F E g cc own nL lv mc ms ret tb) (hd : decode cc pc = .ok (.isub, 1)) (K : ml_J E g nL Q k n (pc + 1) ls (.int (x - y) :: st) M) : ml_J E g nL Q k n (pc) ls (.int y :: .int x :: st) M := by
  obtain ⟨p, e, R, s, m, args, below, meth, c⟩ := E
  obtain ⟨⟨hx, hb, ht, ho, hm, hlk⟩, ⟨hK, ⟨M0, hD0⟩, hX, hz, htr⟩, ⟨hR1, hR2, hR3, hR4⟩, hret, htb⟩ := F
  have hD : va_D (ml_A g) (ml_wm g M) := ml_D_any hD0
  intro H locs la hP hS hl
  exact lv_isub hx hb hd (K H locs la hP hS hl)
theorem ml_imul {E : ml_E} {g : ml_G} {cc : ByteArray} {own : String} {nL lv mc ms : Nat} {ret : Option FieldType} {tb : List ExceptionTableEntry} {Q : State → Prop} {k n pc : Nat} {ls : List (Nat × Value)} {st : List Value} {M : ml_M} {x y : Int32} (F : ml_F E g cc own nL lv mc ms ret tb) (hd : decode cc pc = .ok (.imul, 1)) (K : ml_J E g nL Q k n (pc + 1) ls (.int (x * y) :: st) M) : ml_J E g nL Q k n (pc) ls (.int y :: .int x :: st) M := by
  obtain ⟨p, e, R, s, m, args, below, meth, c⟩ := E
  obtain ⟨⟨hx, hb, ht, ho, hm, hlk⟩, ⟨hK, ⟨M0, hD0⟩, hX, hz, htr⟩, ⟨hR1, hR2, hR3, hR4⟩, hret, htb⟩ := F
  have hD : va_D (ml_A g) (ml_wm g M) := ml_D_any hD0
  intro H locs la hP hS hl
  exact lv_imul hx hb hd (K H locs la hP hS hl)
theorem ml_iand {E : ml_E} {g : ml_G} {cc : ByteArray} {own : String} {nL lv mc ms : Nat} {ret : Option FieldType} {tb : List ExceptionTableEntry} {Q : State → Prop} {k n pc : Nat} {ls : List (Nat × Value)} {st : List Value} {M : ml_M} {x y : Int32} (F : ml_F E g cc own nL lv mc ms ret tb) (hd : decode cc pc = .ok (.iand, 1)) (K : ml_J E g nL Q k n (pc + 1) ls (.int (x &&& y) :: st) M) : ml_J E g nL Q k n (pc) ls (.int y :: .int x :: st) M := by
  obtain ⟨p, e, R, s, m, args, below, meth, c⟩ := E
  obtain ⟨⟨hx, hb, ht, ho, hm, hlk⟩, ⟨hK, ⟨M0, hD0⟩, hX, hz, htr⟩, ⟨hR1, hR2, hR3, hR4⟩, hret, htb⟩ := F
  have hD : va_D (ml_A g) (ml_wm g M) := ml_D_any hD0
  intro H locs la hP hS hl
  exact lv_iand hx hb hd (K H locs la hP hS hl)
theorem ml_ior {E : ml_E} {g : ml_G} {cc : ByteArray} {own : String} {nL lv mc ms : Nat} {ret : Option FieldType} {tb : List ExceptionTableEntry} {Q : State → Prop} {k n pc : Nat} {ls : List (Nat × Value)} {st : List Value} {M : ml_M} {x y : Int32} (F : ml_F E g cc own nL lv mc ms ret tb) (hd : decode cc pc = .ok (.ior, 1)) (K : ml_J E g nL Q k n (pc + 1) ls (.int (x ||| y) :: st) M) : ml_J E g nL Q k n (pc) ls (.int y :: .int x :: st) M := by
  obtain ⟨p, e, R, s, m, args, below, meth, c⟩ := E
  obtain ⟨⟨hx, hb, ht, ho, hm, hlk⟩, ⟨hK, ⟨M0, hD0⟩, hX, hz, htr⟩, ⟨hR1, hR2, hR3, hR4⟩, hret, htb⟩ := F
  have hD : va_D (ml_A g) (ml_wm g M) := ml_D_any hD0
  intro H locs la hP hS hl
  exact lv_ior hx hb hd (K H locs la hP hS hl)
theorem ml_ishl {E : ml_E} {g : ml_G} {cc : ByteArray} {own : String} {nL lv mc ms : Nat} {ret : Option FieldType} {tb : List ExceptionTableEntry} {Q : State → Prop} {k n pc : Nat} {ls : List (Nat × Value)} {st : List Value} {M : ml_M} {x y : Int32} (F : ml_F E g cc own nL lv mc ms ret tb) (hd : decode cc pc = .ok (.ishl, 1)) (K : ml_J E g nL Q k n (pc + 1) ls (.int (x <<< (y &&& 31)) :: st) M) : ml_J E g nL Q k n (pc) ls (.int y :: .int x :: st) M := by
  obtain ⟨p, e, R, s, m, args, below, meth, c⟩ := E
  obtain ⟨⟨hx, hb, ht, ho, hm, hlk⟩, ⟨hK, ⟨M0, hD0⟩, hX, hz, htr⟩, ⟨hR1, hR2, hR3, hR4⟩, hret, htb⟩ := F
  have hD : va_D (ml_A g) (ml_wm g M) := ml_D_any hD0
  intro H locs la hP hS hl
  exact lv_ishl hx hb hd (K H locs la hP hS hl)
theorem ml_ishr {E : ml_E} {g : ml_G} {cc : ByteArray} {own : String} {nL lv mc ms : Nat} {ret : Option FieldType} {tb : List ExceptionTableEntry} {Q : State → Prop} {k n pc : Nat} {ls : List (Nat × Value)} {st : List Value} {M : ml_M} {x y : Int32} (F : ml_F E g cc own nL lv mc ms ret tb) (hd : decode cc pc = .ok (.ishr, 1)) (K : ml_J E g nL Q k n (pc + 1) ls (.int (x >>> (y &&& 31)) :: st) M) : ml_J E g nL Q k n (pc) ls (.int y :: .int x :: st) M := by
  obtain ⟨p, e, R, s, m, args, below, meth, c⟩ := E
  obtain ⟨⟨hx, hb, ht, ho, hm, hlk⟩, ⟨hK, ⟨M0, hD0⟩, hX, hz, htr⟩, ⟨hR1, hR2, hR3, hR4⟩, hret, htb⟩ := F
  have hD : va_D (ml_A g) (ml_wm g M) := ml_D_any hD0
  intro H locs la hP hS hl
  exact lv_ishr hx hb hd (K H locs la hP hS hl)
theorem ml_idiv {E : ml_E} {g : ml_G} {cc : ByteArray} {own : String} {nL lv mc ms : Nat} {ret : Option FieldType} {tb : List ExceptionTableEntry} {Q : State → Prop} {k n pc : Nat} {ls : List (Nat × Value)} {st : List Value} {M : ml_M} {x y : Int32} (F : ml_F E g cc own nL lv mc ms ret tb) (hd : decode cc pc = .ok (.idiv, 1)) (hne : ¬ y = 0) (K : ml_J E g nL Q k n (pc + 1) ls (.int (x / y) :: st) M) : ml_J E g nL Q k n (pc) ls (.int y :: .int x :: st) M := by
  obtain ⟨p, e, R, s, m, args, below, meth, c⟩ := E
  obtain ⟨⟨hx, hb, ht, ho, hm, hlk⟩, ⟨hK, ⟨M0, hD0⟩, hX, hz, htr⟩, ⟨hR1, hR2, hR3, hR4⟩, hret, htb⟩ := F
  have hD : va_D (ml_A g) (ml_wm g M) := ml_D_any hD0
  intro H locs la hP hS hl
  exact lv_idiv hx hb hd hne (K H locs la hP hS hl)
theorem ml_irem {E : ml_E} {g : ml_G} {cc : ByteArray} {own : String} {nL lv mc ms : Nat} {ret : Option FieldType} {tb : List ExceptionTableEntry} {Q : State → Prop} {k n pc : Nat} {ls : List (Nat × Value)} {st : List Value} {M : ml_M} {x y : Int32} (F : ml_F E g cc own nL lv mc ms ret tb) (hd : decode cc pc = .ok (.irem, 1)) (hne : ¬ y = 0) (K : ml_J E g nL Q k n (pc + 1) ls (.int (x - x / y * y) :: st) M) : ml_J E g nL Q k n (pc) ls (.int y :: .int x :: st) M := by
  obtain ⟨p, e, R, s, m, args, below, meth, c⟩ := E
  obtain ⟨⟨hx, hb, ht, ho, hm, hlk⟩, ⟨hK, ⟨M0, hD0⟩, hX, hz, htr⟩, ⟨hR1, hR2, hR3, hR4⟩, hret, htb⟩ := F
  have hD : va_D (ml_A g) (ml_wm g M) := ml_D_any hD0
  intro H locs la hP hS hl
  exact lv_irem hx hb hd hne (K H locs la hP hS hl)
theorem ml_ineg {E : ml_E} {g : ml_G} {cc : ByteArray} {own : String} {nL lv mc ms : Nat} {ret : Option FieldType} {tb : List ExceptionTableEntry} {Q : State → Prop} {k n pc : Nat} {ls : List (Nat × Value)} {st : List Value} {M : ml_M} {x : Int32} (F : ml_F E g cc own nL lv mc ms ret tb) (hd : decode cc pc = .ok (.ineg, 1)) (K : ml_J E g nL Q k n (pc + 1) ls (.int (-x) :: st) M) : ml_J E g nL Q k n (pc) ls (.int x :: st) M := by
  obtain ⟨p, e, R, s, m, args, below, meth, c⟩ := E
  obtain ⟨⟨hx, hb, ht, ho, hm, hlk⟩, ⟨hK, ⟨M0, hD0⟩, hX, hz, htr⟩, ⟨hR1, hR2, hR3, hR4⟩, hret, htb⟩ := F
  have hD : va_D (ml_A g) (ml_wm g M) := ml_D_any hD0
  intro H locs la hP hS hl
  exact lv_ineg hx hb hd (K H locs la hP hS hl)
theorem ml_i2c {E : ml_E} {g : ml_G} {cc : ByteArray} {own : String} {nL lv mc ms : Nat} {ret : Option FieldType} {tb : List ExceptionTableEntry} {Q : State → Prop} {k n pc : Nat} {ls : List (Nat × Value)} {st : List Value} {M : ml_M} {x : Int32} (F : ml_F E g cc own nL lv mc ms ret tb) (hd : decode cc pc = .ok (.i2c, 1)) (K : ml_J E g nL Q k n (pc + 1) ls (.int (x.toUInt32 % 65536).toInt32 :: st) M) : ml_J E g nL Q k n (pc) ls (.int x :: st) M := by
  obtain ⟨p, e, R, s, m, args, below, meth, c⟩ := E
  obtain ⟨⟨hx, hb, ht, ho, hm, hlk⟩, ⟨hK, ⟨M0, hD0⟩, hX, hz, htr⟩, ⟨hR1, hR2, hR3, hR4⟩, hret, htb⟩ := F
  have hD : va_D (ml_A g) (ml_wm g M) := ml_D_any hD0
  intro H locs la hP hS hl
  exact lv_i2c hx hb hd rfl (K H locs la hP hS hl)
theorem ml_i2b {E : ml_E} {g : ml_G} {cc : ByteArray} {own : String} {nL lv mc ms : Nat} {ret : Option FieldType} {tb : List ExceptionTableEntry} {Q : State → Prop} {k n pc : Nat} {ls : List (Nat × Value)} {st : List Value} {M : ml_M} {x : Int32} (F : ml_F E g cc own nL lv mc ms ret tb) (hd : decode cc pc = .ok (.i2b, 1)) (K : ml_J E g nL Q k n (pc + 1) ls (.int x.toInt8.toInt32 :: st) M) : ml_J E g nL Q k n (pc) ls (.int x :: st) M := by
  obtain ⟨p, e, R, s, m, args, below, meth, c⟩ := E
  obtain ⟨⟨hx, hb, ht, ho, hm, hlk⟩, ⟨hK, ⟨M0, hD0⟩, hX, hz, htr⟩, ⟨hR1, hR2, hR3, hR4⟩, hret, htb⟩ := F
  have hD : va_D (ml_A g) (ml_wm g M) := ml_D_any hD0
  intro H locs la hP hS hl
  exact lv_i2b hx hb hd rfl (K H locs la hP hS hl)
theorem ml_i2l {E : ml_E} {g : ml_G} {cc : ByteArray} {own : String} {nL lv mc ms : Nat} {ret : Option FieldType} {tb : List ExceptionTableEntry} {Q : State → Prop} {k n pc : Nat} {ls : List (Nat × Value)} {st : List Value} {M : ml_M} {x : Int32} (F : ml_F E g cc own nL lv mc ms ret tb) (hd : decode cc pc = .ok (.i2l, 1)) (K : ml_J E g nL Q k n (pc + 1) ls (.long x.toInt64 :: st) M) : ml_J E g nL Q k n (pc) ls (.int x :: st) M := by
  obtain ⟨p, e, R, s, m, args, below, meth, c⟩ := E
  obtain ⟨⟨hx, hb, ht, ho, hm, hlk⟩, ⟨hK, ⟨M0, hD0⟩, hX, hz, htr⟩, ⟨hR1, hR2, hR3, hR4⟩, hret, htb⟩ := F
  have hD : va_D (ml_A g) (ml_wm g M) := ml_D_any hD0
  intro H locs la hP hS hl
  exact lv_i2l hx hb hd rfl (K H locs la hP hS hl)
theorem ml_dup {E : ml_E} {g : ml_G} {cc : ByteArray} {own : String} {nL lv mc ms : Nat} {ret : Option FieldType} {tb : List ExceptionTableEntry} {Q : State → Prop} {k n pc : Nat} {ls : List (Nat × Value)} {st : List Value} {M : ml_M} {va : Value} (F : ml_F E g cc own nL lv mc ms ret tb) (hd : decode cc pc = .ok (.dup, 1)) (h1 : va.category = 1) (K : ml_J E g nL Q k n (pc + 1) ls (va :: va :: st) M) : ml_J E g nL Q k n (pc) ls (va :: st) M := by
  obtain ⟨p, e, R, s, m, args, below, meth, c⟩ := E
  obtain ⟨⟨hx, hb, ht, ho, hm, hlk⟩, ⟨hK, ⟨M0, hD0⟩, hX, hz, htr⟩, ⟨hR1, hR2, hR3, hR4⟩, hret, htb⟩ := F
  have hD : va_D (ml_A g) (ml_wm g M) := ml_D_any hD0
  intro H locs la hP hS hl
  exact lv_dup hx hb hd h1 (K H locs la hP hS hl)
theorem ml_pop {E : ml_E} {g : ml_G} {cc : ByteArray} {own : String} {nL lv mc ms : Nat} {ret : Option FieldType} {tb : List ExceptionTableEntry} {Q : State → Prop} {k n pc : Nat} {ls : List (Nat × Value)} {st : List Value} {M : ml_M} {va : Value} (F : ml_F E g cc own nL lv mc ms ret tb) (hd : decode cc pc = .ok (.pop, 1)) (h1 : va.category = 1) (K : ml_J E g nL Q k n (pc + 1) ls (st) M) : ml_J E g nL Q k n (pc) ls (va :: st) M := by
  obtain ⟨p, e, R, s, m, args, below, meth, c⟩ := E
  obtain ⟨⟨hx, hb, ht, ho, hm, hlk⟩, ⟨hK, ⟨M0, hD0⟩, hX, hz, htr⟩, ⟨hR1, hR2, hR3, hR4⟩, hret, htb⟩ := F
  have hD : va_D (ml_A g) (ml_wm g M) := ml_D_any hD0
  intro H locs la hP hS hl
  exact lv_pop hx hb hd h1 (K H locs la hP hS hl)
theorem ml_dup2 {E : ml_E} {g : ml_G} {cc : ByteArray} {own : String} {nL lv mc ms : Nat} {ret : Option FieldType} {tb : List ExceptionTableEntry} {Q : State → Prop} {k n pc : Nat} {ls : List (Nat × Value)} {st : List Value} {M : ml_M} {va vb : Value} (F : ml_F E g cc own nL lv mc ms ret tb) (hd : decode cc pc = .ok (.dup2, 1)) (h1 : va.category = 1) (h2 : vb.category = 1) (K : ml_J E g nL Q k n (pc + 1) ls (va :: vb :: va :: vb :: st) M) : ml_J E g nL Q k n (pc) ls (va :: vb :: st) M := by
  obtain ⟨p, e, R, s, m, args, below, meth, c⟩ := E
  obtain ⟨⟨hx, hb, ht, ho, hm, hlk⟩, ⟨hK, ⟨M0, hD0⟩, hX, hz, htr⟩, ⟨hR1, hR2, hR3, hR4⟩, hret, htb⟩ := F
  have hD : va_D (ml_A g) (ml_wm g M) := ml_D_any hD0
  intro H locs la hP hS hl
  exact lv_dup2_11 hx hb hd h1 h2 (K H locs la hP hS hl)
theorem ml_dup_x1 {E : ml_E} {g : ml_G} {cc : ByteArray} {own : String} {nL lv mc ms : Nat} {ret : Option FieldType} {tb : List ExceptionTableEntry} {Q : State → Prop} {k n pc : Nat} {ls : List (Nat × Value)} {st : List Value} {M : ml_M} {va vb : Value} (F : ml_F E g cc own nL lv mc ms ret tb) (hd : decode cc pc = .ok (.dup_x1, 1)) (h1 : va.category = 1) (h2 : vb.category = 1) (K : ml_J E g nL Q k n (pc + 1) ls (va :: vb :: va :: st) M) : ml_J E g nL Q k n (pc) ls (va :: vb :: st) M := by
  obtain ⟨p, e, R, s, m, args, below, meth, c⟩ := E
  obtain ⟨⟨hx, hb, ht, ho, hm, hlk⟩, ⟨hK, ⟨M0, hD0⟩, hX, hz, htr⟩, ⟨hR1, hR2, hR3, hR4⟩, hret, htb⟩ := F
  have hD : va_D (ml_A g) (ml_wm g M) := ml_D_any hD0
  intro H locs la hP hS hl
  exact lv_dup_x1 hx hb hd h1 h2 (K H locs la hP hS hl)
theorem ml_if_eq {E : ml_E} {g : ml_G} {cc : ByteArray} {own : String} {nL lv mc ms : Nat} {ret : Option FieldType} {tb : List ExceptionTableEntry} {Q : State → Prop} {k n pc : Nat} {ls : List (Nat × Value)} {st : List Value} {M : ml_M} {α : Type} {A B : Option α} {r : α} {x : Int32} {dec : Decidable (x = 0)} {off : Int} {tgt : Nat} (F : ml_F E g cc own nL lv mc ms ret tb) (hd : decode cc pc = .ok (.ifCond .eq off, 3)) (hg : (pc : Int) + off = (tgt : Int)) (h : (@ite _ (x = 0) dec A B) = some r) (kt : x = 0 → A = some r → ml_J E g nL Q k n (tgt) ls (st) M) (kf : ¬ (x = 0) → B = some r → ml_J E g nL Q k n (pc + 3) ls (st) M) : ml_J E g nL Q k n (pc) ls (.int x :: st) M := by
  obtain ⟨p, e, R, s, m, args, below, meth, c⟩ := E
  obtain ⟨⟨hx, hb, ht, ho, hm, hlk⟩, ⟨hK, ⟨M0, hD0⟩, hX, hz, htr⟩, ⟨hR1, hR2, hR3, hR4⟩, hret, htb⟩ := F
  have hD : va_D (ml_A g) (ml_wm g M) := ml_D_any hD0
  intro H locs la hP hS hl
  exact lv_if_eq hx hb hd hg (fun q => kt q (by rw [if_pos q] at h; exact h) H locs la hP hS hl) (fun q => kf q (by rw [if_neg q] at h; exact h) H locs la hP hS hl)
theorem ml_if_eqT {E : ml_E} {g : ml_G} {cc : ByteArray} {own : String} {nL lv mc ms : Nat} {ret : Option FieldType} {tb : List ExceptionTableEntry} {Q : State → Prop} {k n pc : Nat} {ls : List (Nat × Value)} {st : List Value} {M : ml_M} {x : Int32} {off : Int} {tgt : Nat} (F : ml_F E g cc own nL lv mc ms ret tb) (hd : decode cc pc = .ok (.ifCond .eq off, 3)) (hg : (pc : Int) + off = (tgt : Int)) (q : x = 0) (K : ml_J E g nL Q k n (tgt) ls (st) M) : ml_J E g nL Q k n (pc) ls (.int x :: st) M := by
  obtain ⟨p, e, R, s, m, args, below, meth, c⟩ := E
  obtain ⟨⟨hx, hb, ht, ho, hm, hlk⟩, ⟨hK, ⟨M0, hD0⟩, hX, hz, htr⟩, ⟨hR1, hR2, hR3, hR4⟩, hret, htb⟩ := F
  have hD : va_D (ml_A g) (ml_wm g M) := ml_D_any hD0
  intro H locs la hP hS hl
  exact lv_if_eq hx hb hd hg (fun _ => K H locs la hP hS hl) (fun q2 => absurd q q2)
theorem ml_if_eqF {E : ml_E} {g : ml_G} {cc : ByteArray} {own : String} {nL lv mc ms : Nat} {ret : Option FieldType} {tb : List ExceptionTableEntry} {Q : State → Prop} {k n pc : Nat} {ls : List (Nat × Value)} {st : List Value} {M : ml_M} {x : Int32} {off : Int} {tgt : Nat} (F : ml_F E g cc own nL lv mc ms ret tb) (hd : decode cc pc = .ok (.ifCond .eq off, 3)) (hg : (pc : Int) + off = (tgt : Int)) (q : ¬ (x = 0)) (K : ml_J E g nL Q k n (pc + 3) ls (st) M) : ml_J E g nL Q k n (pc) ls (.int x :: st) M := by
  obtain ⟨p, e, R, s, m, args, below, meth, c⟩ := E
  obtain ⟨⟨hx, hb, ht, ho, hm, hlk⟩, ⟨hK, ⟨M0, hD0⟩, hX, hz, htr⟩, ⟨hR1, hR2, hR3, hR4⟩, hret, htb⟩ := F
  have hD : va_D (ml_A g) (ml_wm g M) := ml_D_any hD0
  intro H locs la hP hS hl
  exact lv_if_eq hx hb hd hg (fun q2 => absurd q2 q) (fun _ => K H locs la hP hS hl)
theorem ml_icmp_eq {E : ml_E} {g : ml_G} {cc : ByteArray} {own : String} {nL lv mc ms : Nat} {ret : Option FieldType} {tb : List ExceptionTableEntry} {Q : State → Prop} {k n pc : Nat} {ls : List (Nat × Value)} {st : List Value} {M : ml_M} {α : Type} {A B : Option α} {r : α} {x y : Int32} {dec : Decidable (x = y)} {off : Int} {tgt : Nat} (F : ml_F E g cc own nL lv mc ms ret tb) (hd : decode cc pc = .ok (.if_icmp .eq off, 3)) (hg : (pc : Int) + off = (tgt : Int)) (h : (@ite _ (x = y) dec A B) = some r) (kt : x = y → A = some r → ml_J E g nL Q k n (tgt) ls (st) M) (kf : ¬ (x = y) → B = some r → ml_J E g nL Q k n (pc + 3) ls (st) M) : ml_J E g nL Q k n (pc) ls (.int y :: .int x :: st) M := by
  obtain ⟨p, e, R, s, m, args, below, meth, c⟩ := E
  obtain ⟨⟨hx, hb, ht, ho, hm, hlk⟩, ⟨hK, ⟨M0, hD0⟩, hX, hz, htr⟩, ⟨hR1, hR2, hR3, hR4⟩, hret, htb⟩ := F
  have hD : va_D (ml_A g) (ml_wm g M) := ml_D_any hD0
  intro H locs la hP hS hl
  exact lv_icmp_eq hx hb hd hg (fun q => kt q (by rw [if_pos q] at h; exact h) H locs la hP hS hl) (fun q => kf q (by rw [if_neg q] at h; exact h) H locs la hP hS hl)
theorem ml_icmp_eqT {E : ml_E} {g : ml_G} {cc : ByteArray} {own : String} {nL lv mc ms : Nat} {ret : Option FieldType} {tb : List ExceptionTableEntry} {Q : State → Prop} {k n pc : Nat} {ls : List (Nat × Value)} {st : List Value} {M : ml_M} {x y : Int32} {off : Int} {tgt : Nat} (F : ml_F E g cc own nL lv mc ms ret tb) (hd : decode cc pc = .ok (.if_icmp .eq off, 3)) (hg : (pc : Int) + off = (tgt : Int)) (q : x = y) (K : ml_J E g nL Q k n (tgt) ls (st) M) : ml_J E g nL Q k n (pc) ls (.int y :: .int x :: st) M := by
  obtain ⟨p, e, R, s, m, args, below, meth, c⟩ := E
  obtain ⟨⟨hx, hb, ht, ho, hm, hlk⟩, ⟨hK, ⟨M0, hD0⟩, hX, hz, htr⟩, ⟨hR1, hR2, hR3, hR4⟩, hret, htb⟩ := F
  have hD : va_D (ml_A g) (ml_wm g M) := ml_D_any hD0
  intro H locs la hP hS hl
  exact lv_icmp_eq hx hb hd hg (fun _ => K H locs la hP hS hl) (fun q2 => absurd q q2)
theorem ml_icmp_eqF {E : ml_E} {g : ml_G} {cc : ByteArray} {own : String} {nL lv mc ms : Nat} {ret : Option FieldType} {tb : List ExceptionTableEntry} {Q : State → Prop} {k n pc : Nat} {ls : List (Nat × Value)} {st : List Value} {M : ml_M} {x y : Int32} {off : Int} {tgt : Nat} (F : ml_F E g cc own nL lv mc ms ret tb) (hd : decode cc pc = .ok (.if_icmp .eq off, 3)) (hg : (pc : Int) + off = (tgt : Int)) (q : ¬ (x = y)) (K : ml_J E g nL Q k n (pc + 3) ls (st) M) : ml_J E g nL Q k n (pc) ls (.int y :: .int x :: st) M := by
  obtain ⟨p, e, R, s, m, args, below, meth, c⟩ := E
  obtain ⟨⟨hx, hb, ht, ho, hm, hlk⟩, ⟨hK, ⟨M0, hD0⟩, hX, hz, htr⟩, ⟨hR1, hR2, hR3, hR4⟩, hret, htb⟩ := F
  have hD : va_D (ml_A g) (ml_wm g M) := ml_D_any hD0
  intro H locs la hP hS hl
  exact lv_icmp_eq hx hb hd hg (fun q2 => absurd q2 q) (fun _ => K H locs la hP hS hl)
theorem ml_if_ne {E : ml_E} {g : ml_G} {cc : ByteArray} {own : String} {nL lv mc ms : Nat} {ret : Option FieldType} {tb : List ExceptionTableEntry} {Q : State → Prop} {k n pc : Nat} {ls : List (Nat × Value)} {st : List Value} {M : ml_M} {α : Type} {A B : Option α} {r : α} {x : Int32} {dec : Decidable (x = 0)} {off : Int} {tgt : Nat} (F : ml_F E g cc own nL lv mc ms ret tb) (hd : decode cc pc = .ok (.ifCond .ne off, 3)) (hg : (pc : Int) + off = (tgt : Int)) (h : (@ite _ (x = 0) dec A B) = some r) (kt : ¬ (x = 0) → B = some r → ml_J E g nL Q k n (tgt) ls (st) M) (kf : x = 0 → A = some r → ml_J E g nL Q k n (pc + 3) ls (st) M) : ml_J E g nL Q k n (pc) ls (.int x :: st) M := by
  obtain ⟨p, e, R, s, m, args, below, meth, c⟩ := E
  obtain ⟨⟨hx, hb, ht, ho, hm, hlk⟩, ⟨hK, ⟨M0, hD0⟩, hX, hz, htr⟩, ⟨hR1, hR2, hR3, hR4⟩, hret, htb⟩ := F
  have hD : va_D (ml_A g) (ml_wm g M) := ml_D_any hD0
  intro H locs la hP hS hl
  exact lv_if_ne hx hb hd hg (fun q => kt q (by rw [if_neg q] at h; exact h) H locs la hP hS hl) (fun q => kf q (by rw [if_pos q] at h; exact h) H locs la hP hS hl)
theorem ml_if_neT {E : ml_E} {g : ml_G} {cc : ByteArray} {own : String} {nL lv mc ms : Nat} {ret : Option FieldType} {tb : List ExceptionTableEntry} {Q : State → Prop} {k n pc : Nat} {ls : List (Nat × Value)} {st : List Value} {M : ml_M} {x : Int32} {off : Int} {tgt : Nat} (F : ml_F E g cc own nL lv mc ms ret tb) (hd : decode cc pc = .ok (.ifCond .ne off, 3)) (hg : (pc : Int) + off = (tgt : Int)) (q : ¬ (x = 0)) (K : ml_J E g nL Q k n (tgt) ls (st) M) : ml_J E g nL Q k n (pc) ls (.int x :: st) M := by
  obtain ⟨p, e, R, s, m, args, below, meth, c⟩ := E
  obtain ⟨⟨hx, hb, ht, ho, hm, hlk⟩, ⟨hK, ⟨M0, hD0⟩, hX, hz, htr⟩, ⟨hR1, hR2, hR3, hR4⟩, hret, htb⟩ := F
  have hD : va_D (ml_A g) (ml_wm g M) := ml_D_any hD0
  intro H locs la hP hS hl
  exact lv_if_ne hx hb hd hg (fun _ => K H locs la hP hS hl) (fun q2 => absurd q (fun z => z q2))
theorem ml_if_neF {E : ml_E} {g : ml_G} {cc : ByteArray} {own : String} {nL lv mc ms : Nat} {ret : Option FieldType} {tb : List ExceptionTableEntry} {Q : State → Prop} {k n pc : Nat} {ls : List (Nat × Value)} {st : List Value} {M : ml_M} {x : Int32} {off : Int} {tgt : Nat} (F : ml_F E g cc own nL lv mc ms ret tb) (hd : decode cc pc = .ok (.ifCond .ne off, 3)) (hg : (pc : Int) + off = (tgt : Int)) (q : x = 0) (K : ml_J E g nL Q k n (pc + 3) ls (st) M) : ml_J E g nL Q k n (pc) ls (.int x :: st) M := by
  obtain ⟨p, e, R, s, m, args, below, meth, c⟩ := E
  obtain ⟨⟨hx, hb, ht, ho, hm, hlk⟩, ⟨hK, ⟨M0, hD0⟩, hX, hz, htr⟩, ⟨hR1, hR2, hR3, hR4⟩, hret, htb⟩ := F
  have hD : va_D (ml_A g) (ml_wm g M) := ml_D_any hD0
  intro H locs la hP hS hl
  exact lv_if_ne hx hb hd hg (fun q2 => absurd q q2) (fun _ => K H locs la hP hS hl)
theorem ml_icmp_ne {E : ml_E} {g : ml_G} {cc : ByteArray} {own : String} {nL lv mc ms : Nat} {ret : Option FieldType} {tb : List ExceptionTableEntry} {Q : State → Prop} {k n pc : Nat} {ls : List (Nat × Value)} {st : List Value} {M : ml_M} {α : Type} {A B : Option α} {r : α} {x y : Int32} {dec : Decidable (x = y)} {off : Int} {tgt : Nat} (F : ml_F E g cc own nL lv mc ms ret tb) (hd : decode cc pc = .ok (.if_icmp .ne off, 3)) (hg : (pc : Int) + off = (tgt : Int)) (h : (@ite _ (x = y) dec A B) = some r) (kt : ¬ (x = y) → B = some r → ml_J E g nL Q k n (tgt) ls (st) M) (kf : x = y → A = some r → ml_J E g nL Q k n (pc + 3) ls (st) M) : ml_J E g nL Q k n (pc) ls (.int y :: .int x :: st) M := by
  obtain ⟨p, e, R, s, m, args, below, meth, c⟩ := E
  obtain ⟨⟨hx, hb, ht, ho, hm, hlk⟩, ⟨hK, ⟨M0, hD0⟩, hX, hz, htr⟩, ⟨hR1, hR2, hR3, hR4⟩, hret, htb⟩ := F
  have hD : va_D (ml_A g) (ml_wm g M) := ml_D_any hD0
  intro H locs la hP hS hl
  exact lv_icmp_ne hx hb hd hg (fun q => kt q (by rw [if_neg q] at h; exact h) H locs la hP hS hl) (fun q => kf q (by rw [if_pos q] at h; exact h) H locs la hP hS hl)
theorem ml_icmp_neT {E : ml_E} {g : ml_G} {cc : ByteArray} {own : String} {nL lv mc ms : Nat} {ret : Option FieldType} {tb : List ExceptionTableEntry} {Q : State → Prop} {k n pc : Nat} {ls : List (Nat × Value)} {st : List Value} {M : ml_M} {x y : Int32} {off : Int} {tgt : Nat} (F : ml_F E g cc own nL lv mc ms ret tb) (hd : decode cc pc = .ok (.if_icmp .ne off, 3)) (hg : (pc : Int) + off = (tgt : Int)) (q : ¬ (x = y)) (K : ml_J E g nL Q k n (tgt) ls (st) M) : ml_J E g nL Q k n (pc) ls (.int y :: .int x :: st) M := by
  obtain ⟨p, e, R, s, m, args, below, meth, c⟩ := E
  obtain ⟨⟨hx, hb, ht, ho, hm, hlk⟩, ⟨hK, ⟨M0, hD0⟩, hX, hz, htr⟩, ⟨hR1, hR2, hR3, hR4⟩, hret, htb⟩ := F
  have hD : va_D (ml_A g) (ml_wm g M) := ml_D_any hD0
  intro H locs la hP hS hl
  exact lv_icmp_ne hx hb hd hg (fun _ => K H locs la hP hS hl) (fun q2 => absurd q (fun z => z q2))
theorem ml_icmp_neF {E : ml_E} {g : ml_G} {cc : ByteArray} {own : String} {nL lv mc ms : Nat} {ret : Option FieldType} {tb : List ExceptionTableEntry} {Q : State → Prop} {k n pc : Nat} {ls : List (Nat × Value)} {st : List Value} {M : ml_M} {x y : Int32} {off : Int} {tgt : Nat} (F : ml_F E g cc own nL lv mc ms ret tb) (hd : decode cc pc = .ok (.if_icmp .ne off, 3)) (hg : (pc : Int) + off = (tgt : Int)) (q : x = y) (K : ml_J E g nL Q k n (pc + 3) ls (st) M) : ml_J E g nL Q k n (pc) ls (.int y :: .int x :: st) M := by
  obtain ⟨p, e, R, s, m, args, below, meth, c⟩ := E
  obtain ⟨⟨hx, hb, ht, ho, hm, hlk⟩, ⟨hK, ⟨M0, hD0⟩, hX, hz, htr⟩, ⟨hR1, hR2, hR3, hR4⟩, hret, htb⟩ := F
  have hD : va_D (ml_A g) (ml_wm g M) := ml_D_any hD0
  intro H locs la hP hS hl
  exact lv_icmp_ne hx hb hd hg (fun q2 => absurd q q2) (fun _ => K H locs la hP hS hl)
theorem ml_if_lt {E : ml_E} {g : ml_G} {cc : ByteArray} {own : String} {nL lv mc ms : Nat} {ret : Option FieldType} {tb : List ExceptionTableEntry} {Q : State → Prop} {k n pc : Nat} {ls : List (Nat × Value)} {st : List Value} {M : ml_M} {α : Type} {A B : Option α} {r : α} {x : Int32} {dec : Decidable (x < 0)} {off : Int} {tgt : Nat} (F : ml_F E g cc own nL lv mc ms ret tb) (hd : decode cc pc = .ok (.ifCond .lt off, 3)) (hg : (pc : Int) + off = (tgt : Int)) (h : (@ite _ (x < 0) dec A B) = some r) (kt : x < 0 → A = some r → ml_J E g nL Q k n (tgt) ls (st) M) (kf : ¬ (x < 0) → B = some r → ml_J E g nL Q k n (pc + 3) ls (st) M) : ml_J E g nL Q k n (pc) ls (.int x :: st) M := by
  obtain ⟨p, e, R, s, m, args, below, meth, c⟩ := E
  obtain ⟨⟨hx, hb, ht, ho, hm, hlk⟩, ⟨hK, ⟨M0, hD0⟩, hX, hz, htr⟩, ⟨hR1, hR2, hR3, hR4⟩, hret, htb⟩ := F
  have hD : va_D (ml_A g) (ml_wm g M) := ml_D_any hD0
  intro H locs la hP hS hl
  exact lv_if_lt hx hb hd hg (fun q => kt q (by rw [if_pos q] at h; exact h) H locs la hP hS hl) (fun q => kf q (by rw [if_neg q] at h; exact h) H locs la hP hS hl)
theorem ml_if_ltT {E : ml_E} {g : ml_G} {cc : ByteArray} {own : String} {nL lv mc ms : Nat} {ret : Option FieldType} {tb : List ExceptionTableEntry} {Q : State → Prop} {k n pc : Nat} {ls : List (Nat × Value)} {st : List Value} {M : ml_M} {x : Int32} {off : Int} {tgt : Nat} (F : ml_F E g cc own nL lv mc ms ret tb) (hd : decode cc pc = .ok (.ifCond .lt off, 3)) (hg : (pc : Int) + off = (tgt : Int)) (q : x < 0) (K : ml_J E g nL Q k n (tgt) ls (st) M) : ml_J E g nL Q k n (pc) ls (.int x :: st) M := by
  obtain ⟨p, e, R, s, m, args, below, meth, c⟩ := E
  obtain ⟨⟨hx, hb, ht, ho, hm, hlk⟩, ⟨hK, ⟨M0, hD0⟩, hX, hz, htr⟩, ⟨hR1, hR2, hR3, hR4⟩, hret, htb⟩ := F
  have hD : va_D (ml_A g) (ml_wm g M) := ml_D_any hD0
  intro H locs la hP hS hl
  exact lv_if_lt hx hb hd hg (fun _ => K H locs la hP hS hl) (fun q2 => absurd q q2)
theorem ml_if_ltF {E : ml_E} {g : ml_G} {cc : ByteArray} {own : String} {nL lv mc ms : Nat} {ret : Option FieldType} {tb : List ExceptionTableEntry} {Q : State → Prop} {k n pc : Nat} {ls : List (Nat × Value)} {st : List Value} {M : ml_M} {x : Int32} {off : Int} {tgt : Nat} (F : ml_F E g cc own nL lv mc ms ret tb) (hd : decode cc pc = .ok (.ifCond .lt off, 3)) (hg : (pc : Int) + off = (tgt : Int)) (q : ¬ (x < 0)) (K : ml_J E g nL Q k n (pc + 3) ls (st) M) : ml_J E g nL Q k n (pc) ls (.int x :: st) M := by
  obtain ⟨p, e, R, s, m, args, below, meth, c⟩ := E
  obtain ⟨⟨hx, hb, ht, ho, hm, hlk⟩, ⟨hK, ⟨M0, hD0⟩, hX, hz, htr⟩, ⟨hR1, hR2, hR3, hR4⟩, hret, htb⟩ := F
  have hD : va_D (ml_A g) (ml_wm g M) := ml_D_any hD0
  intro H locs la hP hS hl
  exact lv_if_lt hx hb hd hg (fun q2 => absurd q2 q) (fun _ => K H locs la hP hS hl)
theorem ml_icmp_lt {E : ml_E} {g : ml_G} {cc : ByteArray} {own : String} {nL lv mc ms : Nat} {ret : Option FieldType} {tb : List ExceptionTableEntry} {Q : State → Prop} {k n pc : Nat} {ls : List (Nat × Value)} {st : List Value} {M : ml_M} {α : Type} {A B : Option α} {r : α} {x y : Int32} {dec : Decidable (x < y)} {off : Int} {tgt : Nat} (F : ml_F E g cc own nL lv mc ms ret tb) (hd : decode cc pc = .ok (.if_icmp .lt off, 3)) (hg : (pc : Int) + off = (tgt : Int)) (h : (@ite _ (x < y) dec A B) = some r) (kt : x < y → A = some r → ml_J E g nL Q k n (tgt) ls (st) M) (kf : ¬ (x < y) → B = some r → ml_J E g nL Q k n (pc + 3) ls (st) M) : ml_J E g nL Q k n (pc) ls (.int y :: .int x :: st) M := by
  obtain ⟨p, e, R, s, m, args, below, meth, c⟩ := E
  obtain ⟨⟨hx, hb, ht, ho, hm, hlk⟩, ⟨hK, ⟨M0, hD0⟩, hX, hz, htr⟩, ⟨hR1, hR2, hR3, hR4⟩, hret, htb⟩ := F
  have hD : va_D (ml_A g) (ml_wm g M) := ml_D_any hD0
  intro H locs la hP hS hl
  exact lv_icmp_lt hx hb hd hg (fun q => kt q (by rw [if_pos q] at h; exact h) H locs la hP hS hl) (fun q => kf q (by rw [if_neg q] at h; exact h) H locs la hP hS hl)
theorem ml_icmp_ltT {E : ml_E} {g : ml_G} {cc : ByteArray} {own : String} {nL lv mc ms : Nat} {ret : Option FieldType} {tb : List ExceptionTableEntry} {Q : State → Prop} {k n pc : Nat} {ls : List (Nat × Value)} {st : List Value} {M : ml_M} {x y : Int32} {off : Int} {tgt : Nat} (F : ml_F E g cc own nL lv mc ms ret tb) (hd : decode cc pc = .ok (.if_icmp .lt off, 3)) (hg : (pc : Int) + off = (tgt : Int)) (q : x < y) (K : ml_J E g nL Q k n (tgt) ls (st) M) : ml_J E g nL Q k n (pc) ls (.int y :: .int x :: st) M := by
  obtain ⟨p, e, R, s, m, args, below, meth, c⟩ := E
  obtain ⟨⟨hx, hb, ht, ho, hm, hlk⟩, ⟨hK, ⟨M0, hD0⟩, hX, hz, htr⟩, ⟨hR1, hR2, hR3, hR4⟩, hret, htb⟩ := F
  have hD : va_D (ml_A g) (ml_wm g M) := ml_D_any hD0
  intro H locs la hP hS hl
  exact lv_icmp_lt hx hb hd hg (fun _ => K H locs la hP hS hl) (fun q2 => absurd q q2)
theorem ml_icmp_ltF {E : ml_E} {g : ml_G} {cc : ByteArray} {own : String} {nL lv mc ms : Nat} {ret : Option FieldType} {tb : List ExceptionTableEntry} {Q : State → Prop} {k n pc : Nat} {ls : List (Nat × Value)} {st : List Value} {M : ml_M} {x y : Int32} {off : Int} {tgt : Nat} (F : ml_F E g cc own nL lv mc ms ret tb) (hd : decode cc pc = .ok (.if_icmp .lt off, 3)) (hg : (pc : Int) + off = (tgt : Int)) (q : ¬ (x < y)) (K : ml_J E g nL Q k n (pc + 3) ls (st) M) : ml_J E g nL Q k n (pc) ls (.int y :: .int x :: st) M := by
  obtain ⟨p, e, R, s, m, args, below, meth, c⟩ := E
  obtain ⟨⟨hx, hb, ht, ho, hm, hlk⟩, ⟨hK, ⟨M0, hD0⟩, hX, hz, htr⟩, ⟨hR1, hR2, hR3, hR4⟩, hret, htb⟩ := F
  have hD : va_D (ml_A g) (ml_wm g M) := ml_D_any hD0
  intro H locs la hP hS hl
  exact lv_icmp_lt hx hb hd hg (fun q2 => absurd q2 q) (fun _ => K H locs la hP hS hl)
theorem ml_if_ge {E : ml_E} {g : ml_G} {cc : ByteArray} {own : String} {nL lv mc ms : Nat} {ret : Option FieldType} {tb : List ExceptionTableEntry} {Q : State → Prop} {k n pc : Nat} {ls : List (Nat × Value)} {st : List Value} {M : ml_M} {α : Type} {A B : Option α} {r : α} {x : Int32} {dec : Decidable (0 ≤ x)} {off : Int} {tgt : Nat} (F : ml_F E g cc own nL lv mc ms ret tb) (hd : decode cc pc = .ok (.ifCond .ge off, 3)) (hg : (pc : Int) + off = (tgt : Int)) (h : (@ite _ (0 ≤ x) dec A B) = some r) (kt : 0 ≤ x → A = some r → ml_J E g nL Q k n (tgt) ls (st) M) (kf : ¬ (0 ≤ x) → B = some r → ml_J E g nL Q k n (pc + 3) ls (st) M) : ml_J E g nL Q k n (pc) ls (.int x :: st) M := by
  obtain ⟨p, e, R, s, m, args, below, meth, c⟩ := E
  obtain ⟨⟨hx, hb, ht, ho, hm, hlk⟩, ⟨hK, ⟨M0, hD0⟩, hX, hz, htr⟩, ⟨hR1, hR2, hR3, hR4⟩, hret, htb⟩ := F
  have hD : va_D (ml_A g) (ml_wm g M) := ml_D_any hD0
  intro H locs la hP hS hl
  exact lv_if_ge hx hb hd hg (fun q => kt q (by rw [if_pos q] at h; exact h) H locs la hP hS hl) (fun q => kf q (by rw [if_neg q] at h; exact h) H locs la hP hS hl)
theorem ml_if_geT {E : ml_E} {g : ml_G} {cc : ByteArray} {own : String} {nL lv mc ms : Nat} {ret : Option FieldType} {tb : List ExceptionTableEntry} {Q : State → Prop} {k n pc : Nat} {ls : List (Nat × Value)} {st : List Value} {M : ml_M} {x : Int32} {off : Int} {tgt : Nat} (F : ml_F E g cc own nL lv mc ms ret tb) (hd : decode cc pc = .ok (.ifCond .ge off, 3)) (hg : (pc : Int) + off = (tgt : Int)) (q : 0 ≤ x) (K : ml_J E g nL Q k n (tgt) ls (st) M) : ml_J E g nL Q k n (pc) ls (.int x :: st) M := by
  obtain ⟨p, e, R, s, m, args, below, meth, c⟩ := E
  obtain ⟨⟨hx, hb, ht, ho, hm, hlk⟩, ⟨hK, ⟨M0, hD0⟩, hX, hz, htr⟩, ⟨hR1, hR2, hR3, hR4⟩, hret, htb⟩ := F
  have hD : va_D (ml_A g) (ml_wm g M) := ml_D_any hD0
  intro H locs la hP hS hl
  exact lv_if_ge hx hb hd hg (fun _ => K H locs la hP hS hl) (fun q2 => absurd q q2)
theorem ml_if_geF {E : ml_E} {g : ml_G} {cc : ByteArray} {own : String} {nL lv mc ms : Nat} {ret : Option FieldType} {tb : List ExceptionTableEntry} {Q : State → Prop} {k n pc : Nat} {ls : List (Nat × Value)} {st : List Value} {M : ml_M} {x : Int32} {off : Int} {tgt : Nat} (F : ml_F E g cc own nL lv mc ms ret tb) (hd : decode cc pc = .ok (.ifCond .ge off, 3)) (hg : (pc : Int) + off = (tgt : Int)) (q : ¬ (0 ≤ x)) (K : ml_J E g nL Q k n (pc + 3) ls (st) M) : ml_J E g nL Q k n (pc) ls (.int x :: st) M := by
  obtain ⟨p, e, R, s, m, args, below, meth, c⟩ := E
  obtain ⟨⟨hx, hb, ht, ho, hm, hlk⟩, ⟨hK, ⟨M0, hD0⟩, hX, hz, htr⟩, ⟨hR1, hR2, hR3, hR4⟩, hret, htb⟩ := F
  have hD : va_D (ml_A g) (ml_wm g M) := ml_D_any hD0
  intro H locs la hP hS hl
  exact lv_if_ge hx hb hd hg (fun q2 => absurd q2 q) (fun _ => K H locs la hP hS hl)
theorem ml_icmp_ge {E : ml_E} {g : ml_G} {cc : ByteArray} {own : String} {nL lv mc ms : Nat} {ret : Option FieldType} {tb : List ExceptionTableEntry} {Q : State → Prop} {k n pc : Nat} {ls : List (Nat × Value)} {st : List Value} {M : ml_M} {α : Type} {A B : Option α} {r : α} {x y : Int32} {dec : Decidable (y ≤ x)} {off : Int} {tgt : Nat} (F : ml_F E g cc own nL lv mc ms ret tb) (hd : decode cc pc = .ok (.if_icmp .ge off, 3)) (hg : (pc : Int) + off = (tgt : Int)) (h : (@ite _ (y ≤ x) dec A B) = some r) (kt : y ≤ x → A = some r → ml_J E g nL Q k n (tgt) ls (st) M) (kf : ¬ (y ≤ x) → B = some r → ml_J E g nL Q k n (pc + 3) ls (st) M) : ml_J E g nL Q k n (pc) ls (.int y :: .int x :: st) M := by
  obtain ⟨p, e, R, s, m, args, below, meth, c⟩ := E
  obtain ⟨⟨hx, hb, ht, ho, hm, hlk⟩, ⟨hK, ⟨M0, hD0⟩, hX, hz, htr⟩, ⟨hR1, hR2, hR3, hR4⟩, hret, htb⟩ := F
  have hD : va_D (ml_A g) (ml_wm g M) := ml_D_any hD0
  intro H locs la hP hS hl
  exact lv_icmp_ge hx hb hd hg (fun q => kt q (by rw [if_pos q] at h; exact h) H locs la hP hS hl) (fun q => kf q (by rw [if_neg q] at h; exact h) H locs la hP hS hl)
theorem ml_icmp_geT {E : ml_E} {g : ml_G} {cc : ByteArray} {own : String} {nL lv mc ms : Nat} {ret : Option FieldType} {tb : List ExceptionTableEntry} {Q : State → Prop} {k n pc : Nat} {ls : List (Nat × Value)} {st : List Value} {M : ml_M} {x y : Int32} {off : Int} {tgt : Nat} (F : ml_F E g cc own nL lv mc ms ret tb) (hd : decode cc pc = .ok (.if_icmp .ge off, 3)) (hg : (pc : Int) + off = (tgt : Int)) (q : y ≤ x) (K : ml_J E g nL Q k n (tgt) ls (st) M) : ml_J E g nL Q k n (pc) ls (.int y :: .int x :: st) M := by
  obtain ⟨p, e, R, s, m, args, below, meth, c⟩ := E
  obtain ⟨⟨hx, hb, ht, ho, hm, hlk⟩, ⟨hK, ⟨M0, hD0⟩, hX, hz, htr⟩, ⟨hR1, hR2, hR3, hR4⟩, hret, htb⟩ := F
  have hD : va_D (ml_A g) (ml_wm g M) := ml_D_any hD0
  intro H locs la hP hS hl
  exact lv_icmp_ge hx hb hd hg (fun _ => K H locs la hP hS hl) (fun q2 => absurd q q2)
theorem ml_icmp_geF {E : ml_E} {g : ml_G} {cc : ByteArray} {own : String} {nL lv mc ms : Nat} {ret : Option FieldType} {tb : List ExceptionTableEntry} {Q : State → Prop} {k n pc : Nat} {ls : List (Nat × Value)} {st : List Value} {M : ml_M} {x y : Int32} {off : Int} {tgt : Nat} (F : ml_F E g cc own nL lv mc ms ret tb) (hd : decode cc pc = .ok (.if_icmp .ge off, 3)) (hg : (pc : Int) + off = (tgt : Int)) (q : ¬ (y ≤ x)) (K : ml_J E g nL Q k n (pc + 3) ls (st) M) : ml_J E g nL Q k n (pc) ls (.int y :: .int x :: st) M := by
  obtain ⟨p, e, R, s, m, args, below, meth, c⟩ := E
  obtain ⟨⟨hx, hb, ht, ho, hm, hlk⟩, ⟨hK, ⟨M0, hD0⟩, hX, hz, htr⟩, ⟨hR1, hR2, hR3, hR4⟩, hret, htb⟩ := F
  have hD : va_D (ml_A g) (ml_wm g M) := ml_D_any hD0
  intro H locs la hP hS hl
  exact lv_icmp_ge hx hb hd hg (fun q2 => absurd q2 q) (fun _ => K H locs la hP hS hl)
theorem ml_if_gt {E : ml_E} {g : ml_G} {cc : ByteArray} {own : String} {nL lv mc ms : Nat} {ret : Option FieldType} {tb : List ExceptionTableEntry} {Q : State → Prop} {k n pc : Nat} {ls : List (Nat × Value)} {st : List Value} {M : ml_M} {α : Type} {A B : Option α} {r : α} {x : Int32} {dec : Decidable (0 < x)} {off : Int} {tgt : Nat} (F : ml_F E g cc own nL lv mc ms ret tb) (hd : decode cc pc = .ok (.ifCond .gt off, 3)) (hg : (pc : Int) + off = (tgt : Int)) (h : (@ite _ (0 < x) dec A B) = some r) (kt : 0 < x → A = some r → ml_J E g nL Q k n (tgt) ls (st) M) (kf : ¬ (0 < x) → B = some r → ml_J E g nL Q k n (pc + 3) ls (st) M) : ml_J E g nL Q k n (pc) ls (.int x :: st) M := by
  obtain ⟨p, e, R, s, m, args, below, meth, c⟩ := E
  obtain ⟨⟨hx, hb, ht, ho, hm, hlk⟩, ⟨hK, ⟨M0, hD0⟩, hX, hz, htr⟩, ⟨hR1, hR2, hR3, hR4⟩, hret, htb⟩ := F
  have hD : va_D (ml_A g) (ml_wm g M) := ml_D_any hD0
  intro H locs la hP hS hl
  exact lv_if_gt hx hb hd hg (fun q => kt q (by rw [if_pos q] at h; exact h) H locs la hP hS hl) (fun q => kf q (by rw [if_neg q] at h; exact h) H locs la hP hS hl)
theorem ml_if_gtT {E : ml_E} {g : ml_G} {cc : ByteArray} {own : String} {nL lv mc ms : Nat} {ret : Option FieldType} {tb : List ExceptionTableEntry} {Q : State → Prop} {k n pc : Nat} {ls : List (Nat × Value)} {st : List Value} {M : ml_M} {x : Int32} {off : Int} {tgt : Nat} (F : ml_F E g cc own nL lv mc ms ret tb) (hd : decode cc pc = .ok (.ifCond .gt off, 3)) (hg : (pc : Int) + off = (tgt : Int)) (q : 0 < x) (K : ml_J E g nL Q k n (tgt) ls (st) M) : ml_J E g nL Q k n (pc) ls (.int x :: st) M := by
  obtain ⟨p, e, R, s, m, args, below, meth, c⟩ := E
  obtain ⟨⟨hx, hb, ht, ho, hm, hlk⟩, ⟨hK, ⟨M0, hD0⟩, hX, hz, htr⟩, ⟨hR1, hR2, hR3, hR4⟩, hret, htb⟩ := F
  have hD : va_D (ml_A g) (ml_wm g M) := ml_D_any hD0
  intro H locs la hP hS hl
  exact lv_if_gt hx hb hd hg (fun _ => K H locs la hP hS hl) (fun q2 => absurd q q2)
theorem ml_if_gtF {E : ml_E} {g : ml_G} {cc : ByteArray} {own : String} {nL lv mc ms : Nat} {ret : Option FieldType} {tb : List ExceptionTableEntry} {Q : State → Prop} {k n pc : Nat} {ls : List (Nat × Value)} {st : List Value} {M : ml_M} {x : Int32} {off : Int} {tgt : Nat} (F : ml_F E g cc own nL lv mc ms ret tb) (hd : decode cc pc = .ok (.ifCond .gt off, 3)) (hg : (pc : Int) + off = (tgt : Int)) (q : ¬ (0 < x)) (K : ml_J E g nL Q k n (pc + 3) ls (st) M) : ml_J E g nL Q k n (pc) ls (.int x :: st) M := by
  obtain ⟨p, e, R, s, m, args, below, meth, c⟩ := E
  obtain ⟨⟨hx, hb, ht, ho, hm, hlk⟩, ⟨hK, ⟨M0, hD0⟩, hX, hz, htr⟩, ⟨hR1, hR2, hR3, hR4⟩, hret, htb⟩ := F
  have hD : va_D (ml_A g) (ml_wm g M) := ml_D_any hD0
  intro H locs la hP hS hl
  exact lv_if_gt hx hb hd hg (fun q2 => absurd q2 q) (fun _ => K H locs la hP hS hl)
theorem ml_icmp_gt {E : ml_E} {g : ml_G} {cc : ByteArray} {own : String} {nL lv mc ms : Nat} {ret : Option FieldType} {tb : List ExceptionTableEntry} {Q : State → Prop} {k n pc : Nat} {ls : List (Nat × Value)} {st : List Value} {M : ml_M} {α : Type} {A B : Option α} {r : α} {x y : Int32} {dec : Decidable (y < x)} {off : Int} {tgt : Nat} (F : ml_F E g cc own nL lv mc ms ret tb) (hd : decode cc pc = .ok (.if_icmp .gt off, 3)) (hg : (pc : Int) + off = (tgt : Int)) (h : (@ite _ (y < x) dec A B) = some r) (kt : y < x → A = some r → ml_J E g nL Q k n (tgt) ls (st) M) (kf : ¬ (y < x) → B = some r → ml_J E g nL Q k n (pc + 3) ls (st) M) : ml_J E g nL Q k n (pc) ls (.int y :: .int x :: st) M := by
  obtain ⟨p, e, R, s, m, args, below, meth, c⟩ := E
  obtain ⟨⟨hx, hb, ht, ho, hm, hlk⟩, ⟨hK, ⟨M0, hD0⟩, hX, hz, htr⟩, ⟨hR1, hR2, hR3, hR4⟩, hret, htb⟩ := F
  have hD : va_D (ml_A g) (ml_wm g M) := ml_D_any hD0
  intro H locs la hP hS hl
  exact lv_icmp_gt hx hb hd hg (fun q => kt q (by rw [if_pos q] at h; exact h) H locs la hP hS hl) (fun q => kf q (by rw [if_neg q] at h; exact h) H locs la hP hS hl)
theorem ml_icmp_gtT {E : ml_E} {g : ml_G} {cc : ByteArray} {own : String} {nL lv mc ms : Nat} {ret : Option FieldType} {tb : List ExceptionTableEntry} {Q : State → Prop} {k n pc : Nat} {ls : List (Nat × Value)} {st : List Value} {M : ml_M} {x y : Int32} {off : Int} {tgt : Nat} (F : ml_F E g cc own nL lv mc ms ret tb) (hd : decode cc pc = .ok (.if_icmp .gt off, 3)) (hg : (pc : Int) + off = (tgt : Int)) (q : y < x) (K : ml_J E g nL Q k n (tgt) ls (st) M) : ml_J E g nL Q k n (pc) ls (.int y :: .int x :: st) M := by
  obtain ⟨p, e, R, s, m, args, below, meth, c⟩ := E
  obtain ⟨⟨hx, hb, ht, ho, hm, hlk⟩, ⟨hK, ⟨M0, hD0⟩, hX, hz, htr⟩, ⟨hR1, hR2, hR3, hR4⟩, hret, htb⟩ := F
  have hD : va_D (ml_A g) (ml_wm g M) := ml_D_any hD0
  intro H locs la hP hS hl
  exact lv_icmp_gt hx hb hd hg (fun _ => K H locs la hP hS hl) (fun q2 => absurd q q2)
theorem ml_icmp_gtF {E : ml_E} {g : ml_G} {cc : ByteArray} {own : String} {nL lv mc ms : Nat} {ret : Option FieldType} {tb : List ExceptionTableEntry} {Q : State → Prop} {k n pc : Nat} {ls : List (Nat × Value)} {st : List Value} {M : ml_M} {x y : Int32} {off : Int} {tgt : Nat} (F : ml_F E g cc own nL lv mc ms ret tb) (hd : decode cc pc = .ok (.if_icmp .gt off, 3)) (hg : (pc : Int) + off = (tgt : Int)) (q : ¬ (y < x)) (K : ml_J E g nL Q k n (pc + 3) ls (st) M) : ml_J E g nL Q k n (pc) ls (.int y :: .int x :: st) M := by
  obtain ⟨p, e, R, s, m, args, below, meth, c⟩ := E
  obtain ⟨⟨hx, hb, ht, ho, hm, hlk⟩, ⟨hK, ⟨M0, hD0⟩, hX, hz, htr⟩, ⟨hR1, hR2, hR3, hR4⟩, hret, htb⟩ := F
  have hD : va_D (ml_A g) (ml_wm g M) := ml_D_any hD0
  intro H locs la hP hS hl
  exact lv_icmp_gt hx hb hd hg (fun q2 => absurd q2 q) (fun _ => K H locs la hP hS hl)
theorem ml_if_le {E : ml_E} {g : ml_G} {cc : ByteArray} {own : String} {nL lv mc ms : Nat} {ret : Option FieldType} {tb : List ExceptionTableEntry} {Q : State → Prop} {k n pc : Nat} {ls : List (Nat × Value)} {st : List Value} {M : ml_M} {α : Type} {A B : Option α} {r : α} {x : Int32} {dec : Decidable (x ≤ 0)} {off : Int} {tgt : Nat} (F : ml_F E g cc own nL lv mc ms ret tb) (hd : decode cc pc = .ok (.ifCond .le off, 3)) (hg : (pc : Int) + off = (tgt : Int)) (h : (@ite _ (x ≤ 0) dec A B) = some r) (kt : x ≤ 0 → A = some r → ml_J E g nL Q k n (tgt) ls (st) M) (kf : ¬ (x ≤ 0) → B = some r → ml_J E g nL Q k n (pc + 3) ls (st) M) : ml_J E g nL Q k n (pc) ls (.int x :: st) M := by
  obtain ⟨p, e, R, s, m, args, below, meth, c⟩ := E
  obtain ⟨⟨hx, hb, ht, ho, hm, hlk⟩, ⟨hK, ⟨M0, hD0⟩, hX, hz, htr⟩, ⟨hR1, hR2, hR3, hR4⟩, hret, htb⟩ := F
  have hD : va_D (ml_A g) (ml_wm g M) := ml_D_any hD0
  intro H locs la hP hS hl
  exact lv_if_le hx hb hd hg (fun q => kt q (by rw [if_pos q] at h; exact h) H locs la hP hS hl) (fun q => kf q (by rw [if_neg q] at h; exact h) H locs la hP hS hl)
theorem ml_if_leT {E : ml_E} {g : ml_G} {cc : ByteArray} {own : String} {nL lv mc ms : Nat} {ret : Option FieldType} {tb : List ExceptionTableEntry} {Q : State → Prop} {k n pc : Nat} {ls : List (Nat × Value)} {st : List Value} {M : ml_M} {x : Int32} {off : Int} {tgt : Nat} (F : ml_F E g cc own nL lv mc ms ret tb) (hd : decode cc pc = .ok (.ifCond .le off, 3)) (hg : (pc : Int) + off = (tgt : Int)) (q : x ≤ 0) (K : ml_J E g nL Q k n (tgt) ls (st) M) : ml_J E g nL Q k n (pc) ls (.int x :: st) M := by
  obtain ⟨p, e, R, s, m, args, below, meth, c⟩ := E
  obtain ⟨⟨hx, hb, ht, ho, hm, hlk⟩, ⟨hK, ⟨M0, hD0⟩, hX, hz, htr⟩, ⟨hR1, hR2, hR3, hR4⟩, hret, htb⟩ := F
  have hD : va_D (ml_A g) (ml_wm g M) := ml_D_any hD0
  intro H locs la hP hS hl
  exact lv_if_le hx hb hd hg (fun _ => K H locs la hP hS hl) (fun q2 => absurd q q2)
theorem ml_if_leF {E : ml_E} {g : ml_G} {cc : ByteArray} {own : String} {nL lv mc ms : Nat} {ret : Option FieldType} {tb : List ExceptionTableEntry} {Q : State → Prop} {k n pc : Nat} {ls : List (Nat × Value)} {st : List Value} {M : ml_M} {x : Int32} {off : Int} {tgt : Nat} (F : ml_F E g cc own nL lv mc ms ret tb) (hd : decode cc pc = .ok (.ifCond .le off, 3)) (hg : (pc : Int) + off = (tgt : Int)) (q : ¬ (x ≤ 0)) (K : ml_J E g nL Q k n (pc + 3) ls (st) M) : ml_J E g nL Q k n (pc) ls (.int x :: st) M := by
  obtain ⟨p, e, R, s, m, args, below, meth, c⟩ := E
  obtain ⟨⟨hx, hb, ht, ho, hm, hlk⟩, ⟨hK, ⟨M0, hD0⟩, hX, hz, htr⟩, ⟨hR1, hR2, hR3, hR4⟩, hret, htb⟩ := F
  have hD : va_D (ml_A g) (ml_wm g M) := ml_D_any hD0
  intro H locs la hP hS hl
  exact lv_if_le hx hb hd hg (fun q2 => absurd q2 q) (fun _ => K H locs la hP hS hl)
theorem ml_icmp_le {E : ml_E} {g : ml_G} {cc : ByteArray} {own : String} {nL lv mc ms : Nat} {ret : Option FieldType} {tb : List ExceptionTableEntry} {Q : State → Prop} {k n pc : Nat} {ls : List (Nat × Value)} {st : List Value} {M : ml_M} {α : Type} {A B : Option α} {r : α} {x y : Int32} {dec : Decidable (x ≤ y)} {off : Int} {tgt : Nat} (F : ml_F E g cc own nL lv mc ms ret tb) (hd : decode cc pc = .ok (.if_icmp .le off, 3)) (hg : (pc : Int) + off = (tgt : Int)) (h : (@ite _ (x ≤ y) dec A B) = some r) (kt : x ≤ y → A = some r → ml_J E g nL Q k n (tgt) ls (st) M) (kf : ¬ (x ≤ y) → B = some r → ml_J E g nL Q k n (pc + 3) ls (st) M) : ml_J E g nL Q k n (pc) ls (.int y :: .int x :: st) M := by
  obtain ⟨p, e, R, s, m, args, below, meth, c⟩ := E
  obtain ⟨⟨hx, hb, ht, ho, hm, hlk⟩, ⟨hK, ⟨M0, hD0⟩, hX, hz, htr⟩, ⟨hR1, hR2, hR3, hR4⟩, hret, htb⟩ := F
  have hD : va_D (ml_A g) (ml_wm g M) := ml_D_any hD0
  intro H locs la hP hS hl
  exact lv_icmp_le hx hb hd hg (fun q => kt q (by rw [if_pos q] at h; exact h) H locs la hP hS hl) (fun q => kf q (by rw [if_neg q] at h; exact h) H locs la hP hS hl)
theorem ml_icmp_leT {E : ml_E} {g : ml_G} {cc : ByteArray} {own : String} {nL lv mc ms : Nat} {ret : Option FieldType} {tb : List ExceptionTableEntry} {Q : State → Prop} {k n pc : Nat} {ls : List (Nat × Value)} {st : List Value} {M : ml_M} {x y : Int32} {off : Int} {tgt : Nat} (F : ml_F E g cc own nL lv mc ms ret tb) (hd : decode cc pc = .ok (.if_icmp .le off, 3)) (hg : (pc : Int) + off = (tgt : Int)) (q : x ≤ y) (K : ml_J E g nL Q k n (tgt) ls (st) M) : ml_J E g nL Q k n (pc) ls (.int y :: .int x :: st) M := by
  obtain ⟨p, e, R, s, m, args, below, meth, c⟩ := E
  obtain ⟨⟨hx, hb, ht, ho, hm, hlk⟩, ⟨hK, ⟨M0, hD0⟩, hX, hz, htr⟩, ⟨hR1, hR2, hR3, hR4⟩, hret, htb⟩ := F
  have hD : va_D (ml_A g) (ml_wm g M) := ml_D_any hD0
  intro H locs la hP hS hl
  exact lv_icmp_le hx hb hd hg (fun _ => K H locs la hP hS hl) (fun q2 => absurd q q2)
theorem ml_icmp_leF {E : ml_E} {g : ml_G} {cc : ByteArray} {own : String} {nL lv mc ms : Nat} {ret : Option FieldType} {tb : List ExceptionTableEntry} {Q : State → Prop} {k n pc : Nat} {ls : List (Nat × Value)} {st : List Value} {M : ml_M} {x y : Int32} {off : Int} {tgt : Nat} (F : ml_F E g cc own nL lv mc ms ret tb) (hd : decode cc pc = .ok (.if_icmp .le off, 3)) (hg : (pc : Int) + off = (tgt : Int)) (q : ¬ (x ≤ y)) (K : ml_J E g nL Q k n (pc + 3) ls (st) M) : ml_J E g nL Q k n (pc) ls (.int y :: .int x :: st) M := by
  obtain ⟨p, e, R, s, m, args, below, meth, c⟩ := E
  obtain ⟨⟨hx, hb, ht, ho, hm, hlk⟩, ⟨hK, ⟨M0, hD0⟩, hX, hz, htr⟩, ⟨hR1, hR2, hR3, hR4⟩, hret, htb⟩ := F
  have hD : va_D (ml_A g) (ml_wm g M) := ml_D_any hD0
  intro H locs la hP hS hl
  exact lv_icmp_le hx hb hd hg (fun q2 => absurd q2 q) (fun _ => K H locs la hP hS hl)
theorem ml_goto {E : ml_E} {g : ml_G} {cc : ByteArray} {own : String} {nL lv mc ms : Nat} {ret : Option FieldType} {tb : List ExceptionTableEntry} {Q : State → Prop} {k n pc : Nat} {ls : List (Nat × Value)} {st : List Value} {M : ml_M} {off : Int} {tgt : Nat} (F : ml_F E g cc own nL lv mc ms ret tb) (hd : decode cc pc = .ok (.goto off, 3)) (hg : (pc : Int) + off = (tgt : Int)) (K : ml_J E g nL Q k n (tgt) ls (st) M) : ml_J E g nL Q k n (pc) ls (st) M := by
  obtain ⟨p, e, R, s, m, args, below, meth, c⟩ := E
  obtain ⟨⟨hx, hb, ht, ho, hm, hlk⟩, ⟨hK, ⟨M0, hD0⟩, hX, hz, htr⟩, ⟨hR1, hR2, hR3, hR4⟩, hret, htb⟩ := F
  have hD : va_D (ml_A g) (ml_wm g M) := ml_D_any hD0
  intro H locs la hP hS hl
  exact lv_goto hx hb hd hg (K H locs la hP hS hl)
theorem ml_lookup {E : ml_E} {g : ml_G} {cc : ByteArray} {own : String} {nL lv mc ms : Nat} {ret : Option FieldType} {tb : List ExceptionTableEntry} {Q : State → Prop} {k n pc : Nat} {ls : List (Nat × Value)} {st : List Value} {M : ml_M} {dflt : Int} {ps : Array (Int × Int)} {len : Nat} {x : Int32} {off : Int} {tgt : Nat} (F : ml_F E g cc own nL lv mc ms ret tb) (hd : decode cc pc = .ok (.lookupswitch dflt ps, len)) (hp : (ps.toList.zip (ps.toList.drop 1)).all (fun (a, next) => a.1 < next.1) = true) (hof : Op.lookupswitch.offset ps.toList dflt x.toInt = off) (hg : (pc : Int) + off = (tgt : Int)) (K : ml_J E g nL Q k n (tgt) ls (st) M) : ml_J E g nL Q k n (pc) ls (.int x :: st) M := by
  obtain ⟨p, e, R, s, m, args, below, meth, c⟩ := E
  obtain ⟨⟨hx, hb, ht, ho, hm, hlk⟩, ⟨hK, ⟨M0, hD0⟩, hX, hz, htr⟩, ⟨hR1, hR2, hR3, hR4⟩, hret, htb⟩ := F
  have hD : va_D (ml_A g) (ml_wm g M) := ml_D_any hD0
  intro H locs la hP hS hl
  exact lv_lookup hx hb hd hp hof hg (K H locs la hP hS hl)
theorem ml_tableIn {E : ml_E} {g : ml_G} {cc : ByteArray} {own : String} {nL lv mc ms : Nat} {ret : Option FieldType} {tb : List ExceptionTableEntry} {Q : State → Prop} {k n pc : Nat} {ls : List (Nat × Value)} {st : List Value} {M : ml_M} {dflt lo hi : Int} {offs : Array Int} {len : Nat} {x : Int32} {off : Int} {tgt : Nat} (F : ml_F E g cc own nL lv mc ms ret tb) (hd : decode cc pc = .ok (.tableswitch dflt lo hi offs, len)) (h1 : ¬ x.toInt < lo) (h2 : ¬ hi < x.toInt) (hof : offs[(x.toInt - lo).toNat]? = some off) (hg : (pc : Int) + off = (tgt : Int)) (K : ml_J E g nL Q k n (tgt) ls (st) M) : ml_J E g nL Q k n (pc) ls (.int x :: st) M := by
  obtain ⟨p, e, R, s, m, args, below, meth, c⟩ := E
  obtain ⟨⟨hx, hb, ht, ho, hm, hlk⟩, ⟨hK, ⟨M0, hD0⟩, hX, hz, htr⟩, ⟨hR1, hR2, hR3, hR4⟩, hret, htb⟩ := F
  have hD : va_D (ml_A g) (ml_wm g M) := ml_D_any hD0
  intro H locs la hP hS hl
  exact lv_tableIn hx hb hd h1 h2 hof hg (K H locs la hP hS hl)
theorem ml_tableOut {E : ml_E} {g : ml_G} {cc : ByteArray} {own : String} {nL lv mc ms : Nat} {ret : Option FieldType} {tb : List ExceptionTableEntry} {Q : State → Prop} {k n pc : Nat} {ls : List (Nat × Value)} {st : List Value} {M : ml_M} {dflt lo hi : Int} {offs : Array Int} {len : Nat} {x : Int32} {tgt : Nat} (F : ml_F E g cc own nL lv mc ms ret tb) (hd : decode cc pc = .ok (.tableswitch dflt lo hi offs, len)) (h1 : x.toInt < lo ∨ hi < x.toInt) (hg : (pc : Int) + dflt = (tgt : Int)) (K : ml_J E g nL Q k n (tgt) ls (st) M) : ml_J E g nL Q k n (pc) ls (.int x :: st) M := by
  obtain ⟨p, e, R, s, m, args, below, meth, c⟩ := E
  obtain ⟨⟨hx, hb, ht, ho, hm, hlk⟩, ⟨hK, ⟨M0, hD0⟩, hX, hz, htr⟩, ⟨hR1, hR2, hR3, hR4⟩, hret, htb⟩ := F
  have hD : va_D (ml_A g) (ml_wm g M) := ml_D_any hD0
  intro H locs la hP hS hl
  exact lv_tableOut hx hb hd h1 hg (K H locs la hP hS hl)
theorem ml_ifc {α : Type} {c P : Prop} {A B : Option α} {r : α} {d : Decidable c} (h : (@ite _ c d A B) = some r) (kt : c → A = some r → P) (kf : ¬ c → B = some r → P) : P := by
  by_cases q : c
  · exact kt q (by rw [if_pos q] at h; exact h)
  · exact kf q (by rw [if_neg q] at h; exact h)
theorem ml_ne_i {x k : Int32} (h : ¬ x = k) : ¬ k.toInt = x.toInt := fun e => h (Int32.toInt_inj.mp e.symm)
/-- an array's place: its type's number, its length -/
def ml_I (g : ml_G) (k t z : Nat) : Prop := k < 183 ∧ ∀ m, ml_ct g k m = ml_ar g t z m
/-- an object's place -/
def ml_O (g : ml_G) (k ci : Nat) (fs : (Nat → Int32) → List Value) : Prop := k < 183 ∧ ∀ m, ml_ct g k m = .inr (ci, fs m)
theorem ml_iald {E : ml_E} {g : ml_G} {cc : ByteArray} {own : String} {nL lv mc ms : Nat} {ret : Option FieldType} {tb : List ExceptionTableEntry} {Q : State → Prop} {k n pc : Nat} {ls : List (Nat × Value)} {st : List Value} {M : ml_M} {ka z : Nat} {i : Int32} {α : Type} {A : Option α} {r : α} {dec : Decidable (ml_ok i z)} (F : ml_F E g cc own nL lv mc ms ret tb) (I : ml_I g ka 0 z) (h : (@ite _ (ml_ok i z) dec A none) = some r) (hd : decode cc pc = .ok (.iaload, 1)) (K : A = some r → ml_J E g nL Q k n (pc + 1) ls (.int (M ka i.toNatClampNeg) :: st) M) : ml_J E g nL Q k n (pc) ls (.int i :: ml_rf g ka :: st) M := by
  obtain ⟨p, e, R, s, m, args, below, meth, c⟩ := E
  obtain ⟨⟨hx, hb, ht, ho, hm, hlk⟩, ⟨hK, ⟨M0, hD0⟩, hX, hz, htr⟩, ⟨hR1, hR2, hR3, hR4⟩, hret, htb⟩ := F
  have hD : va_D (ml_A g) (ml_wm g M) := ml_D_any hD0
  intro H locs la hP hS hl
  have hq := ml_if h
  exact va_iald (D := g.2.1) (cl := vwCl) (tys := ml_ty g) hx hb hK hP ka 0 (by rw [ml_wm_at I.1, I.2]; rfl) rfl (ml_ok_in hq.1) hd (K hq.2 H locs la hP hS hl)
theorem ml_cald {E : ml_E} {g : ml_G} {cc : ByteArray} {own : String} {nL lv mc ms : Nat} {ret : Option FieldType} {tb : List ExceptionTableEntry} {Q : State → Prop} {k n pc : Nat} {ls : List (Nat × Value)} {st : List Value} {M : ml_M} {ka z : Nat} {i : Int32} {α : Type} {A : Option α} {r : α} {dec : Decidable (ml_ok i z)} (F : ml_F E g cc own nL lv mc ms ret tb) (I : ml_I g ka 1 z) (h : (@ite _ (ml_ok i z) dec A none) = some r) (hd : decode cc pc = .ok (.caload, 1)) (K : A = some r → ml_J E g nL Q k n (pc + 1) ls (.int (M ka i.toNatClampNeg) :: st) M) : ml_J E g nL Q k n (pc) ls (.int i :: ml_rf g ka :: st) M := by
  obtain ⟨p, e, R, s, m, args, below, meth, c⟩ := E
  obtain ⟨⟨hx, hb, ht, ho, hm, hlk⟩, ⟨hK, ⟨M0, hD0⟩, hX, hz, htr⟩, ⟨hR1, hR2, hR3, hR4⟩, hret, htb⟩ := F
  have hD : va_D (ml_A g) (ml_wm g M) := ml_D_any hD0
  intro H locs la hP hS hl
  have hq := ml_if h
  exact va_cald (D := g.2.1) (cl := vwCl) (tys := ml_ty g) hx hb hK hP ka 1 (by rw [ml_wm_at I.1, I.2]; rfl) rfl (ml_ok_in hq.1) hd (K hq.2 H locs la hP hS hl)
theorem ml_zald {E : ml_E} {g : ml_G} {cc : ByteArray} {own : String} {nL lv mc ms : Nat} {ret : Option FieldType} {tb : List ExceptionTableEntry} {Q : State → Prop} {k n pc : Nat} {ls : List (Nat × Value)} {st : List Value} {M : ml_M} {ka z : Nat} {i : Int32} {α : Type} {A : Option α} {r : α} {dec : Decidable (ml_ok i z)} (F : ml_F E g cc own nL lv mc ms ret tb) (I : ml_I g ka 2 z) (h : (@ite _ (ml_ok i z) dec A none) = some r) (hd : decode cc pc = .ok (.baload, 1)) (K : A = some r → ml_J E g nL Q k n (pc + 1) ls (.int (M ka i.toNatClampNeg) :: st) M) : ml_J E g nL Q k n (pc) ls (.int i :: ml_rf g ka :: st) M := by
  obtain ⟨p, e, R, s, m, args, below, meth, c⟩ := E
  obtain ⟨⟨hx, hb, ht, ho, hm, hlk⟩, ⟨hK, ⟨M0, hD0⟩, hX, hz, htr⟩, ⟨hR1, hR2, hR3, hR4⟩, hret, htb⟩ := F
  have hD : va_D (ml_A g) (ml_wm g M) := ml_D_any hD0
  intro H locs la hP hS hl
  have hq := ml_if h
  exact va_zald (D := g.2.1) (cl := vwCl) (tys := ml_ty g) hx hb hK hP ka 2 (by rw [ml_wm_at I.1, I.2]; rfl) rfl (ml_ok_in hq.1) hd (K hq.2 H locs la hP hS hl)
theorem ml_bald {E : ml_E} {g : ml_G} {cc : ByteArray} {own : String} {nL lv mc ms : Nat} {ret : Option FieldType} {tb : List ExceptionTableEntry} {Q : State → Prop} {k n pc : Nat} {ls : List (Nat × Value)} {st : List Value} {M : ml_M} {ka z : Nat} {i : Int32} {α : Type} {A : Option α} {r : α} {dec : Decidable (ml_ok i z)} (F : ml_F E g cc own nL lv mc ms ret tb) (I : ml_I g ka 4 z) (h : (@ite _ (ml_ok i z) dec A none) = some r) (hd : decode cc pc = .ok (.baload, 1)) (K : A = some r → ml_J E g nL Q k n (pc + 1) ls (.int (M ka i.toNatClampNeg) :: st) M) : ml_J E g nL Q k n (pc) ls (.int i :: ml_rf g ka :: st) M := by
  obtain ⟨p, e, R, s, m, args, below, meth, c⟩ := E
  obtain ⟨⟨hx, hb, ht, ho, hm, hlk⟩, ⟨hK, ⟨M0, hD0⟩, hX, hz, htr⟩, ⟨hR1, hR2, hR3, hR4⟩, hret, htb⟩ := F
  have hD : va_D (ml_A g) (ml_wm g M) := ml_D_any hD0
  intro H locs la hP hS hl
  have hq := ml_if h
  exact va_bald (D := g.2.1) (cl := vwCl) (tys := ml_ty g) hx hb hK hP ka 4 (by rw [ml_wm_at I.1, I.2]; rfl) rfl (ml_ok_in hq.1) hd (K hq.2 H locs la hP hS hl)
theorem ml_iast {E : ml_E} {g : ml_G} {cc : ByteArray} {own : String} {nL lv mc ms : Nat} {ret : Option FieldType} {tb : List ExceptionTableEntry} {Q : State → Prop} {k n pc : Nat} {ls : List (Nat × Value)} {st : List Value} {M : ml_M} {ka z : Nat} {i x : Int32} {α : Type} {A : Option α} {r : α} {dec : Decidable (ml_ok i z)} (F : ml_F E g cc own nL lv mc ms ret tb) (I : ml_I g ka 0 z) (h : (@ite _ (ml_ok i z) dec A none) = some r) (hd : decode cc pc = .ok (.iastore, 1)) (K : A = some r → ml_J E g nL Q k n (pc + 1) ls (st) (ml_w M ka i.toNatClampNeg (x))) : ml_J E g nL Q k n (pc) ls (.int x :: .int i :: ml_rf g ka :: st) M := by
  obtain ⟨p, e, R, s, m, args, below, meth, c⟩ := E
  obtain ⟨⟨hx, hb, ht, ho, hm, hlk⟩, ⟨hK, ⟨M0, hD0⟩, hX, hz, htr⟩, ⟨hR1, hR2, hR3, hR4⟩, hret, htb⟩ := F
  have hD : va_D (ml_A g) (ml_wm g M) := ml_D_any hD0
  intro H locs la hP hS hl
  have hq := ml_if h
  refine va_iast (D := g.2.1) (cl := vwCl) (tys := ml_ty g) hx hb hK hP hD hS ka 0 (by rw [ml_wm_at I.1, I.2]; rfl) rfl (ml_ok_in hq.1) hd (fun H1 locs1 hP1 hD1 hS1 => ?_)
  rw [ml_wm_set (j := i.toNatClampNeg) (x := x) (by rw [I.2]; rfl)] at hP1
  exact K hq.2 H1 locs1 la hP1 hS1 hl
theorem ml_cast {E : ml_E} {g : ml_G} {cc : ByteArray} {own : String} {nL lv mc ms : Nat} {ret : Option FieldType} {tb : List ExceptionTableEntry} {Q : State → Prop} {k n pc : Nat} {ls : List (Nat × Value)} {st : List Value} {M : ml_M} {ka z : Nat} {i x : Int32} {α : Type} {A : Option α} {r : α} {dec : Decidable (ml_ok i z)} (F : ml_F E g cc own nL lv mc ms ret tb) (I : ml_I g ka 1 z) (h : (@ite _ (ml_ok i z) dec A none) = some r) (hd : decode cc pc = .ok (.castore, 1)) (K : A = some r → ml_J E g nL Q k n (pc + 1) ls (st) (ml_w M ka i.toNatClampNeg (vp_nar .char x))) : ml_J E g nL Q k n (pc) ls (.int x :: .int i :: ml_rf g ka :: st) M := by
  obtain ⟨p, e, R, s, m, args, below, meth, c⟩ := E
  obtain ⟨⟨hx, hb, ht, ho, hm, hlk⟩, ⟨hK, ⟨M0, hD0⟩, hX, hz, htr⟩, ⟨hR1, hR2, hR3, hR4⟩, hret, htb⟩ := F
  have hD : va_D (ml_A g) (ml_wm g M) := ml_D_any hD0
  intro H locs la hP hS hl
  have hq := ml_if h
  refine va_cast (D := g.2.1) (cl := vwCl) (tys := ml_ty g) hx hb hK hP hD hS ka 1 (by rw [ml_wm_at I.1, I.2]; rfl) rfl (ml_ok_in hq.1) hd (fun H1 locs1 hP1 hD1 hS1 => ?_)
  rw [ml_wm_set (j := i.toNatClampNeg) (x := vp_nar .char x) (by rw [I.2]; rfl)] at hP1
  exact K hq.2 H1 locs1 la hP1 hS1 hl
theorem ml_zast {E : ml_E} {g : ml_G} {cc : ByteArray} {own : String} {nL lv mc ms : Nat} {ret : Option FieldType} {tb : List ExceptionTableEntry} {Q : State → Prop} {k n pc : Nat} {ls : List (Nat × Value)} {st : List Value} {M : ml_M} {ka z : Nat} {i x : Int32} {α : Type} {A : Option α} {r : α} {dec : Decidable (ml_ok i z)} (F : ml_F E g cc own nL lv mc ms ret tb) (I : ml_I g ka 2 z) (h : (@ite _ (ml_ok i z) dec A none) = some r) (hd : decode cc pc = .ok (.bastore, 1)) (K : A = some r → ml_J E g nL Q k n (pc + 1) ls (st) (ml_w M ka i.toNatClampNeg (vp_nar .boolean x))) : ml_J E g nL Q k n (pc) ls (.int x :: .int i :: ml_rf g ka :: st) M := by
  obtain ⟨p, e, R, s, m, args, below, meth, c⟩ := E
  obtain ⟨⟨hx, hb, ht, ho, hm, hlk⟩, ⟨hK, ⟨M0, hD0⟩, hX, hz, htr⟩, ⟨hR1, hR2, hR3, hR4⟩, hret, htb⟩ := F
  have hD : va_D (ml_A g) (ml_wm g M) := ml_D_any hD0
  intro H locs la hP hS hl
  have hq := ml_if h
  refine va_zast (D := g.2.1) (cl := vwCl) (tys := ml_ty g) hx hb hK hP hD hS ka 2 (by rw [ml_wm_at I.1, I.2]; rfl) rfl (ml_ok_in hq.1) hd (fun H1 locs1 hP1 hD1 hS1 => ?_)
  rw [ml_wm_set (j := i.toNatClampNeg) (x := vp_nar .boolean x) (by rw [I.2]; rfl)] at hP1
  exact K hq.2 H1 locs1 la hP1 hS1 hl
theorem ml_bast {E : ml_E} {g : ml_G} {cc : ByteArray} {own : String} {nL lv mc ms : Nat} {ret : Option FieldType} {tb : List ExceptionTableEntry} {Q : State → Prop} {k n pc : Nat} {ls : List (Nat × Value)} {st : List Value} {M : ml_M} {ka z : Nat} {i x : Int32} {α : Type} {A : Option α} {r : α} {dec : Decidable (ml_ok i z)} (F : ml_F E g cc own nL lv mc ms ret tb) (I : ml_I g ka 4 z) (h : (@ite _ (ml_ok i z) dec A none) = some r) (hd : decode cc pc = .ok (.bastore, 1)) (K : A = some r → ml_J E g nL Q k n (pc + 1) ls (st) (ml_w M ka i.toNatClampNeg (vp_nar .byte x))) : ml_J E g nL Q k n (pc) ls (.int x :: .int i :: ml_rf g ka :: st) M := by
  obtain ⟨p, e, R, s, m, args, below, meth, c⟩ := E
  obtain ⟨⟨hx, hb, ht, ho, hm, hlk⟩, ⟨hK, ⟨M0, hD0⟩, hX, hz, htr⟩, ⟨hR1, hR2, hR3, hR4⟩, hret, htb⟩ := F
  have hD : va_D (ml_A g) (ml_wm g M) := ml_D_any hD0
  intro H locs la hP hS hl
  have hq := ml_if h
  refine va_bast (D := g.2.1) (cl := vwCl) (tys := ml_ty g) hx hb hK hP hD hS ka 4 (by rw [ml_wm_at I.1, I.2]; rfl) rfl (ml_ok_in hq.1) hd (fun H1 locs1 hP1 hD1 hS1 => ?_)
  rw [ml_wm_set (j := i.toNatClampNeg) (x := vp_nar .byte x) (by rw [I.2]; rfl)] at hP1
  exact K hq.2 H1 locs1 la hP1 hS1 hl
theorem ml_aald {E : ml_E} {g : ml_G} {cc : ByteArray} {own : String} {nL lv mc ms : Nat} {ret : Option FieldType} {tb : List ExceptionTableEntry} {Q : State → Prop} {k n pc : Nat} {ls : List (Nat × Value)} {st : List Value} {M : ml_M} {i : Int32} {α : Type} {A : Option α} {r : α} {dec : Decidable (ml_ok i 8)} (F : ml_F E g cc own nL lv mc ms ret tb) (h : (@ite _ (ml_ok i 8) dec A none) = some r) (hd : decode cc pc = .ok (.aaload, 1)) (K : A = some r → ml_J E g nL Q k n (pc + 1) ls (ml_rf g (ml_fl (3 + i.toNatClampNeg)) :: st) M) : ml_J E g nL Q k n (pc) ls (.int i :: ml_rf g 2 :: st) M := by
  obtain ⟨p, e, R, s, m, args, below, meth, c⟩ := E
  obtain ⟨⟨hx, hb, ht, ho, hm, hlk⟩, ⟨hK, ⟨M0, hD0⟩, hX, hz, htr⟩, ⟨hR1, hR2, hR3, hR4⟩, hret, htb⟩ := F
  have hD : va_D (ml_A g) (ml_wm g M) := ml_D_any hD0
  intro H locs la hP hS hl
  have hq := ml_if h
  exact va_aldq (D := g.2.1) (cl := vwCl) (tys := ml_ty g) hx hb hK hP 2 3 (f := fun i => some (g.2.2.2.1 (ml_fl (3 + i)))) (by rw [ml_wm_at (by decide)]; rfl) rfl (ml_ok_in hq.1) hd (K hq.2 H locs la hP hS hl)
theorem ml_get {E : ml_E} {g : ml_G} {cc : ByteArray} {own : String} {nL lv mc ms : Nat} {ret : Option FieldType} {tb : List ExceptionTableEntry} {Q : State → Prop} {k n pc : Nat} {ls : List (Nat × Value)} {st : List Value} {M : ml_M} {kb ci idx : Nat} {fs : (Nat → Int32) → List Value} {C : String} {T : u_T} {N : Nat} {ref : String} {v : Value} (F : ml_F E g cc own nL lv mc ms ret tb) (O : ml_O g kb ci fs) (hc : vwCl[ci]? = some (C, T, N)) (hin : ∀ w ∈ u_ws C T N, w ∈ ml_all) (j : Nat) (hj : j < N) (hlk2 : Cond.fieldLink own idx ref (T j).2.1 (T j).2.2.1 ∈ ml_all) (hsm : (T j).1 = ref) (hv : (fs (M kb))[j]? = some v) (hd : decode cc pc = .ok (.getfield idx, 3)) (K : ml_J E g nL Q k n (pc + 3) ls (v :: st) M) : ml_J E g nL Q k n (pc) ls (ml_rf g kb :: st) M := by
  obtain ⟨p, e, R, s, m, args, below, meth, c⟩ := E
  obtain ⟨⟨hx, hb, ht, ho, hm, hlk⟩, ⟨hK, ⟨M0, hD0⟩, hX, hz, htr⟩, ⟨hR1, hR2, hR3, hR4⟩, hret, htb⟩ := F
  have hD : va_D (ml_A g) (ml_wm g M) := ml_D_any hD0
  intro H locs la hP hS hl
  subst hsm
  exact va_get (D := g.2.1) (cl := vwCl) (tys := ml_ty g) (C := C) (T := T) (N := N) hx hb ht hin ho hK hP kb (by rw [ml_wm_at O.1, O.2]) hc j hj (ht _ hlk2) (fun _ h9 => h9) hv hd (K H locs la hP hS hl)
theorem ml_set {E : ml_E} {g : ml_G} {cc : ByteArray} {own : String} {nL lv mc ms : Nat} {ret : Option FieldType} {tb : List ExceptionTableEntry} {Q : State → Prop} {k n pc : Nat} {ls : List (Nat × Value)} {st : List Value} {M : ml_M} {kb ci idx : Nat} {fs : (Nat → Int32) → List Value} {C : String} {T : u_T} {N : Nat} {ref : String} {x : Int32} {ty : FieldType} {ty0 : Nat → FieldType} (F : ml_F E g cc own nL lv mc ms ret tb) (O : ml_O g kb ci fs) (hc : vwCl[ci]? = some (C, T, N)) (hin : ∀ w ∈ u_ws C T N, w ∈ ml_all) (hty : ∀ k, k < N → parseFieldDescriptor (T k).2.2.1 = some (ty0 k)) (hnm : ∀ a, a < N → ∀ b, b < N → a ≠ b → (T a).2.1 ≠ (T b).2.1) (j : Nat) (hj : j < N) (hlk2 : Cond.fieldLink own idx ref (T j).2.1 (T j).2.2.1 ∈ ml_all) (hsm : (T j).1 = ref) (hfin : (T j).2.2.2 = false) (hdd : ty0 j = ty) (hnr : narrow ty (.int x) = .int x) (hft : fits ty (.int x) = true) (hlen : j < (fs (M kb)).length) (hset : ∀ m, (fs m).set j (.int x) = fs (upd m j x)) (hd : decode cc pc = .ok (.putfield idx, 3)) (K : ml_J E g nL Q k n (pc + 3) ls (st) (ml_w M kb j x)) : ml_J E g nL Q k n (pc) ls (.int x :: ml_rf g kb :: st) M := by
  obtain ⟨p, e, R, s, m, args, below, meth, c⟩ := E
  obtain ⟨⟨hx, hb, ht, ho, hm, hlk⟩, ⟨hK, ⟨M0, hD0⟩, hX, hz, htr⟩, ⟨hR1, hR2, hR3, hR4⟩, hret, htb⟩ := F
  have hD : va_D (ml_A g) (ml_wm g M) := ml_D_any hD0
  intro H locs la hP hS hl
  subst hsm
  refine va_put (D := g.2.1) (cl := vwCl) (tys := ml_ty g) (C := C) (T := T) (N := N) hx hb ht hin ty0 hty hnm ho hK hP hD hS kb (by rw [ml_wm_at O.1, O.2]) hc j hj (ht _ hlk2) (fun _ h9 => h9) hfin (hty j hj) (by rw [hdd]; exact hnr) (by rw [hdd]; exact hft) hlen hd (fun H1 locs1 hP1 hD1 hS1 => ?_)
  rw [ml_wm_set (j := j) (x := x) (by rw [O.2, hset])] at hP1
  exact K H1 locs1 la hP1 hS1 hl
theorem ml_gsv {E : ml_E} {g : ml_G} {cc : ByteArray} {own : String} {nL lv mc ms : Nat} {ret : Option FieldType} {tb : List ExceptionTableEntry} {Q : State → Prop} {k n pc : Nat} {ls : List (Nat × Value)} {st : List Value} {M : ml_M} {idx : Nat} (F : ml_F E g cc own nL lv mc ms ret tb) (hlk2 : Cond.fieldLink own idx RX6 "START_VOLUMES" "[I" ∈ ml_all) (hd : decode cc pc = .ok (.getstatic idx, 3)) (K : ml_J E g nL Q k n (pc + 3) ls (.ref (g.2.2.2.2.1 0) :: st) M) : ml_J E g nL Q k n (pc) ls (st) M := by
  obtain ⟨p, e, R, s, m, args, below, meth, c⟩ := E
  obtain ⟨⟨hx, hb, ht, ho, hm, hlk⟩, ⟨hK, ⟨M0, hD0⟩, hX, hz, htr⟩, ⟨hR1, hR2, hR3, hR4⟩, hret, htb⟩ := F
  have hD : va_D (ml_A g) (ml_wm g M) := ml_D_any hD0
  intro H locs la hP hS hl
  exact va_gets hx hb hX.1.1.1 hS ho (ht _ hlk2) (fun _ h9 => h9) hd (K H locs la hP hS hl)
theorem ml_gcs {E : ml_E} {g : ml_G} {cc : ByteArray} {own : String} {nL lv mc ms : Nat} {ret : Option FieldType} {tb : List ExceptionTableEntry} {Q : State → Prop} {k n pc : Nat} {ls : List (Nat × Value)} {st : List Value} {M : ml_M} {idx : Nat} (F : ml_F E g cc own nL lv mc ms ret tb) (hlk2 : Cond.fieldLink own idx RX6 "COLOUR_SIGNS" "[C" ∈ ml_all) (hd : decode cc pc = .ok (.getstatic idx, 3)) (K : ml_J E g nL Q k n (pc + 3) ls (.ref (g.2.2.2.2.1 1) :: st) M) : ml_J E g nL Q k n (pc) ls (st) M := by
  obtain ⟨p, e, R, s, m, args, below, meth, c⟩ := E
  obtain ⟨⟨hx, hb, ht, ho, hm, hlk⟩, ⟨hK, ⟨M0, hD0⟩, hX, hz, htr⟩, ⟨hR1, hR2, hR3, hR4⟩, hret, htb⟩ := F
  have hD : va_D (ml_A g) (ml_wm g M) := ml_D_any hD0
  intro H locs la hP hS hl
  exact va_gets hx hb hX.1.2.1.1 hS ho (ht _ hlk2) (fun _ h9 => h9) hd (K H locs la hP hS hl)
theorem ml_gsvN {E : ml_E} {g : ml_G} {cc : ByteArray} {own : String} {nL lv mc ms : Nat} {ret : Option FieldType} {tb : List ExceptionTableEntry} {Q : State → Prop} {k n pc : Nat} {ls : List (Nat × Value)} {st : List Value} {M : ml_M} {idx : Nat} (F : ml_F E g cc own nL lv mc ms ret tb) (hlk2 : Cond.fieldLinkNest own idx RX6 "START_VOLUMES" "[I" RX6 ∈ ml_nest) (hd : decode cc pc = .ok (.getstatic idx, 3)) (K : ml_J E g nL Q k n (pc + 3) ls (.ref (g.2.2.2.2.1 0) :: st) M) : ml_J E g nL Q k n (pc) ls (st) M := by
  obtain ⟨p, e, R, s, m, args, below, meth, c⟩ := E
  obtain ⟨⟨hx, hb, ht, ho, hm, hlk⟩, ⟨hK, ⟨M0, hD0⟩, hX, hz, htr⟩, ⟨hR1, hR2, hR3, hR4⟩, hret, htb⟩ := F
  have hD : va_D (ml_A g) (ml_wm g M) := ml_D_any hD0
  intro H locs la hP hS hl
  exact va_getsN hx hb hX.1.1.1 hS ho (va_Nw.use rfl (hX.2.1 _ hlk2)) (fun _ h9 => h9) hd (K H locs la hP hS hl)
theorem ml_gcsN {E : ml_E} {g : ml_G} {cc : ByteArray} {own : String} {nL lv mc ms : Nat} {ret : Option FieldType} {tb : List ExceptionTableEntry} {Q : State → Prop} {k n pc : Nat} {ls : List (Nat × Value)} {st : List Value} {M : ml_M} {idx : Nat} (F : ml_F E g cc own nL lv mc ms ret tb) (hlk2 : Cond.fieldLinkNest own idx RX6 "COLOUR_SIGNS" "[C" RX6 ∈ ml_nest) (hd : decode cc pc = .ok (.getstatic idx, 3)) (K : ml_J E g nL Q k n (pc + 3) ls (.ref (g.2.2.2.2.1 1) :: st) M) : ml_J E g nL Q k n (pc) ls (st) M := by
  obtain ⟨p, e, R, s, m, args, below, meth, c⟩ := E
  obtain ⟨⟨hx, hb, ht, ho, hm, hlk⟩, ⟨hK, ⟨M0, hD0⟩, hX, hz, htr⟩, ⟨hR1, hR2, hR3, hR4⟩, hret, htb⟩ := F
  have hD : va_D (ml_A g) (ml_wm g M) := ml_D_any hD0
  intro H locs la hP hS hl
  exact va_getsN hx hb hX.1.2.1.1 hS ho (va_Nw.use rfl (hX.2.1 _ hlk2)) (fun _ h9 => h9) hd (K H locs la hP hS hl)
theorem ml_svld {E : ml_E} {g : ml_G} {cc : ByteArray} {own : String} {nL lv mc ms : Nat} {ret : Option FieldType} {tb : List ExceptionTableEntry} {Q : State → Prop} {k n pc : Nat} {ls : List (Nat × Value)} {st : List Value} {M : ml_M} {i : Int32} {α : Type} {A : Option α} {r : α} {dec : Decidable (ml_ok i 5)} (F : ml_F E g cc own nL lv mc ms ret tb) (h : (@ite _ (ml_ok i 5) dec A none) = some r) (hd : decode cc pc = .ok (.iaload, 1)) (K : A = some r → ml_J E g nL Q k n (pc + 1) ls (.int (ml_sv i.toNatClampNeg) :: st) M) : ml_J E g nL Q k n (pc) ls (.int i :: .ref (g.2.2.2.2.1 0) :: st) M := by
  obtain ⟨p, e, R, s, m, args, below, meth, c⟩ := E
  obtain ⟨⟨hx, hb, ht, ho, hm, hlk⟩, ⟨hK, ⟨M0, hD0⟩, hX, hz, htr⟩, ⟨hR1, hR2, hR3, hR4⟩, hret, htb⟩ := F
  have hD : va_D (ml_A g) (ml_wm g M) := ml_D_any hD0
  intro H locs la hP hS hl
  have hq := ml_if h
  exact va_ti hx hb hX.1.1.2 hS (ml_ok_in hq.1) rfl hd (K hq.2 H locs la hP hS hl)
theorem ml_csld {E : ml_E} {g : ml_G} {cc : ByteArray} {own : String} {nL lv mc ms : Nat} {ret : Option FieldType} {tb : List ExceptionTableEntry} {Q : State → Prop} {k n pc : Nat} {ls : List (Nat × Value)} {st : List Value} {M : ml_M} {i : Int32} {α : Type} {A : Option α} {r : α} {dec : Decidable (ml_ok i 3)} (F : ml_F E g cc own nL lv mc ms ret tb) (h : (@ite _ (ml_ok i 3) dec A none) = some r) (hd : decode cc pc = .ok (.caload, 1)) (K : A = some r → ml_J E g nL Q k n (pc + 1) ls (.int (ml_cs i.toNatClampNeg) :: st) M) : ml_J E g nL Q k n (pc) ls (.int i :: .ref (g.2.2.2.2.1 1) :: st) M := by
  obtain ⟨p, e, R, s, m, args, below, meth, c⟩ := E
  obtain ⟨⟨hx, hb, ht, ho, hm, hlk⟩, ⟨hK, ⟨M0, hD0⟩, hX, hz, htr⟩, ⟨hR1, hR2, hR3, hR4⟩, hret, htb⟩ := F
  have hD : va_D (ml_A g) (ml_wm g M) := ml_D_any hD0
  intro H locs la hP hS hl
  have hq := ml_if h
  exact va_tc hx hb hX.1.2.1.2 hS (ml_ok_in hq.1) rfl hd (K hq.2 H locs la hP hS hl)
def ml_rm (lv mc ms : Nat) : Room := { frames := 40 + lv, cells := mc, slots := ms, locals := 800 + 64 * lv }
def ml_ex (e : Nat) : String := match e with
  | 1 => "java/lang/IndexOutOfBoundsException"
  | 2 => "java/lang/IllegalArgumentException"
  | 3 => "java/lang/IllegalStateException"
  | 4 => "java/util/NoSuchElementException"
  | _ => "java/lang/UnsupportedOperationException"
def ml_Q (g : ml_G) (vl : Int32 → Option Value) (res : ml_R) : Array Value → State → Outcome → State → Prop := fun _ st o t => ∃ r, res.1 = .inl r ∧ o = .returned (vl r) ∧ ml_P g res.2 t.heap ∧ va_F (ml_A g) st t
def ml_XC (g : ml_G) (res : ml_R) : String → State → State → Prop := fun Ex st t => ∃ e, res.1 = .inr e ∧ Ex = ml_ex e ∧ ml_P g res.2 t.heap ∧ va_F (ml_A g) st t
/-- a method's contract: from the memory M it comes to the result res -/
def ml_C (y : MethodName) (cc : ByteArray) (maxL : Nat) (ret : Option FieldType) (lv mc ms : Nat) (g : ml_G) (vl : Int32 → Option Value) (av : List Value) (M : ml_M) (res : ml_R) : Prop :=
  vx_Met g.2.2.2.2.2 y (ml_ws y cc maxL ret) (ml_rm lv mc ms) (va_Pc av (ml_H g M)) (ml_Q g vl res) (ml_XC g res) mc ms (ml_A g)
/-- what a body owes at its end -/
def ml_Z (E : ml_E) (g : ml_G) (vl : Int32 → Option Value) (res : ml_R) (mc ms : Nat) : State → Prop := match E with
  | (_, _, _, s, _, args, below, _, _) => vx_MQ below (ml_Q g vl res) (ml_XC g res) args s mc ms (ml_A g)
theorem ml_of {y : MethodName} {cc : ByteArray} {maxL : Nat} {ret : Option FieldType} {lv mc ms : Nat} {g : ml_G} {vl : Int32 → Option Value} {av : List Value} {M : ml_M} {res : ml_R} (ls : List (Nat × Value)) (hst : g.2.2.2.2.2.stackTraces = false) (hy : plainName y.cls = true) (hn : (lg_sl av).length ≤ maxL) (hls : lv_args 0 av = ls)
    (body : ∀ E : ml_E, ml_F E g cc y.cls maxL lv mc ms ret [] → ml_J E g maxL (ml_Z E g vl res mc ms) 0 0 0 ls [] M) : ml_C y cc maxL ret lv mc ms g vl av M res := by
  subst hls
  refine vx_ofW (cc := cc) (maxL := maxL) (ret := ret) hy rfl ?_
  intro p e s m args below meth c s₁ B hml htb hv
  obtain ⟨rfl, hz, hP, hK, hD, hX⟩ := hv
  have hts := atoms_spec (ws := ml_ws y cc maxL ret) B.pre
  have htb2 : c.exceptionTable.toList = [] := by
    cases h : c.exceptionTable.toList with
    | nil => rfl
    | cons x t => exact absurd (htb x (by rw [h]; exact List.mem_cons_self)) id
  rw [lg_entry_eq]
  exact body (p, e, (headSpec (ml_ws y cc maxL ret) (ml_rm lv mc ms)).room, s, m, av.toArray, below, meth, c) ⟨⟨B.exec, B.bytes, fun w hw => hts w (List.mem_cons_of_mem _ hw), findClass_of_methodNamed B.named, hml, B.notSynchronized⟩, ⟨hK, ⟨M, hD⟩, hX, hz, hst⟩, ⟨Nat.le_refl _, Nat.le_refl _, Nat.le_refl _, Nat.le_refl _⟩, B.returns, htb2⟩ s.heap [] _ hP va_S.rf (lv_entry av hn)
theorem ml_iret {E : ml_E} {g : ml_G} {cc : ByteArray} {own : String} {nL lv mc ms : Nat} {ret : Option FieldType} {tb : List ExceptionTableEntry} {k n pc : Nat} {ls : List (Nat × Value)} {st : List Value} {M : ml_M} {vl : Int32 → Option Value} {res : ml_R} {x : Int32} {ty : FieldType} (F : ml_F E g cc own nL lv mc ms ret tb) (h : ((Sum.inl x, M) : ml_R) = res) (hvl : vl x = some (.int x)) (h0 : ret = some ty) (hn : narrow ty (.int x) = .int x) (hk : k ≤ mc) (hn2 : n ≤ ms) (hd : decode cc pc = .ok (.ireturn, 1)) : ml_J E g nL (ml_Z E g vl res mc ms) k n (pc) ls (.int x :: []) M := by
  obtain ⟨p, e, R, s, m, args, below, meth, c⟩ := E
  obtain ⟨⟨hx, hb, ht, ho, hm, hlk⟩, ⟨hK, ⟨M0, hD0⟩, hX, hz, htr⟩, ⟨hR1, hR2, hR3, hR4⟩, hret, htb⟩ := F
  have hD : va_D (ml_A g) (ml_wm g M) := ml_D_any hD0
  intro H locs la hP hS hl
  subst h
  refine W.widen hk hn2 (vx_ret ?_)
  exact W.zret (ty := ty) (v := x) hx hb (hret.trans h0) hn (fun t ht9 hW => ⟨x, rfl, by rw [hvl], by rw [ht9]; exact hP, hS.F ht9⟩) hS.2.2 hd hlk
theorem ml_vret {E : ml_E} {g : ml_G} {cc : ByteArray} {own : String} {nL lv mc ms : Nat} {ret : Option FieldType} {tb : List ExceptionTableEntry} {k n pc : Nat} {ls : List (Nat × Value)} {st : List Value} {M : ml_M} {vl : Int32 → Option Value} {res : ml_R} {x : Int32} (F : ml_F E g cc own nL lv mc ms ret tb) (h : ((Sum.inl x, M) : ml_R) = res) (hvl : vl x = none) (h0 : ret = none) (hk : k ≤ mc) (hn2 : n ≤ ms) (hd : decode cc pc = .ok (.return_, 1)) : ml_J E g nL (ml_Z E g vl res mc ms) k n (pc) ls ([]) M := by
  obtain ⟨p, e, R, s, m, args, below, meth, c⟩ := E
  obtain ⟨⟨hx, hb, ht, ho, hm, hlk⟩, ⟨hK, ⟨M0, hD0⟩, hX, hz, htr⟩, ⟨hR1, hR2, hR3, hR4⟩, hret, htb⟩ := F
  have hD : va_D (ml_A g) (ml_wm g M) := ml_D_any hD0
  intro H locs la hP hS hl
  subst h
  refine W.widen hk hn2 (vx_ret ?_)
  exact W.vret hx hb (hret.trans h0) (fun t ht9 hW => ⟨x, rfl, by rw [hvl], by rw [ht9]; exact hP, hS.F ht9⟩) hS.2.2 hd hlk
theorem ml_dret {E : ml_E} {g : ml_G} {cc : ByteArray} {own : String} {nL lv mc ms : Nat} {ret : Option FieldType} {tb : List ExceptionTableEntry} {k n pc : Nat} {ls : List (Nat × Value)} {st : List Value} {M : ml_M} {vl : Int32 → Option Value} {res : ml_R} {x : Int32} {v : UInt64} (F : ml_F E g cc own nL lv mc ms ret tb) (h : ((Sum.inl x, M) : ml_R) = res) (hvl : vl x = some (.double v)) (h0 : ret = some .double) (hk : k ≤ mc) (hn2 : n ≤ ms) (hd : decode cc pc = .ok (.dreturn, 1)) : ml_J E g nL (ml_Z E g vl res mc ms) k n (pc) ls (.double v :: []) M := by
  obtain ⟨p, e, R, s, m, args, below, meth, c⟩ := E
  obtain ⟨⟨hx, hb, ht, ho, hm, hlk⟩, ⟨hK, ⟨M0, hD0⟩, hX, hz, htr⟩, ⟨hR1, hR2, hR3, hR4⟩, hret, htb⟩ := F
  have hD : va_D (ml_A g) (ml_wm g M) := ml_D_any hD0
  intro H locs la hP hS hl
  subst h
  refine W.widen hk hn2 (vx_ret ?_)
  exact W.dret (v := v) hx hb (hret.trans h0) (fun t ht9 hW => ⟨x, rfl, by rw [hvl], by rw [ht9]; exact hP, hS.F ht9⟩) hS.2.2 hd hlk
theorem ml_fret {E : ml_E} {g : ml_G} {cc : ByteArray} {own : String} {nL lv mc ms : Nat} {ret : Option FieldType} {tb : List ExceptionTableEntry} {k n pc : Nat} {ls : List (Nat × Value)} {st : List Value} {M : ml_M} {vl : Int32 → Option Value} {res : ml_R} {x : Int32} {v : UInt32} (F : ml_F E g cc own nL lv mc ms ret tb) (h : ((Sum.inl x, M) : ml_R) = res) (hvl : vl x = some (.float v)) (h0 : ret = some .float) (hk : k ≤ mc) (hn2 : n ≤ ms) (hd : decode cc pc = .ok (.freturn, 1)) : ml_J E g nL (ml_Z E g vl res mc ms) k n (pc) ls (.float v :: []) M := by
  obtain ⟨p, e, R, s, m, args, below, meth, c⟩ := E
  obtain ⟨⟨hx, hb, ht, ho, hm, hlk⟩, ⟨hK, ⟨M0, hD0⟩, hX, hz, htr⟩, ⟨hR1, hR2, hR3, hR4⟩, hret, htb⟩ := F
  have hD : va_D (ml_A g) (ml_wm g M) := ml_D_any hD0
  intro H locs la hP hS hl
  subst h
  refine W.widen hk hn2 (vx_ret ?_)
  exact W.fret (v := v) hx hb (hret.trans h0) (fun t ht9 hW => ⟨x, rfl, by rw [hvl], by rw [ht9]; exact hP, hS.F ht9⟩) hS.2.2 hd hlk
theorem ml_H_blind {g : ml_G} {M : ml_M} {av : List Value} : FrameBlind (va_Pc av (ml_H g M)) := by
  intro a U g9 mk hq
  obtain ⟨q0, q1, q2, q3, q4, q5⟩ := hq
  exact ⟨q0, q1, q2, va_K.moved (u := U) (U := U.calling g9 mk a) (Vm.Alike.refl U.vm) q3, q4, ml_X1_to (s := U) (U := U.calling g9 mk a) (Vm.Alike.refl U.vm) (fun _ _ _ => rfl) q5.1, ml_X2_to (s := U) (U := U.calling g9 mk a) (State.WarmedH.refl U) q5.2⟩
abbrev ml_wd (y : MethodName) (z : Nat) : Prop := y.cls ≠ "java/lang/invoke/MethodHandle" ∧ y.cls ≠ "java/lang/invoke/VarHandle" ∧ (parseMethodDescriptor y.desc).map (fun d => d.parameters.length) = some z
/-- a callee's words -/
def ml_wc (y : MethodName) (yc : ByteArray) (yn : Nat) (yr : Option FieldType) : Prop := Cond.code y yc yn yr ∈ ml_all ∧ Cond.initialized y.cls ∈ ml_all ∧ yn ≤ 40
theorem ml_cb {R : Room} {s : State} {args : Array Value} {own : String} {idx : Nat} {y : MethodName} {yc : ByteArray} {yn : Nat} {yr : Option FieldType} {lv lv2 mc2 ms2 z : Nat} (ht : ∀ w ∈ ml_all, w.before args s = true) (W1 : ml_wc y yc yn yr) (hl : Cond.methodLink own idx y ∈ ml_all) (hd : ml_wd y z) (h1 : 40 + lv ≤ R.frames) (h2 : 800 + 64 * lv ≤ R.locals) (h3 : lv2 < lv) : CallB R s args own idx y yc yn yr (ml_ws y yc yn yr) (ml_rm lv2 mc2 ms2) mc2 ms2 z := by
  have h4 := W1.2.2
  exact callB_of z ht (ml_good W1.1) rfl rfl rfl (ht _ W1.2.1) (ht _ hl) hd ⟨by show 40 + lv2 + 1 ≤ _; omega, by show 8 + (yn + 11) + (800 + 64 * lv2) ≤ _; omega⟩
/-- how a call goes on: behind its return, or out of this method with its throw -/
theorem ml_after {p : Program} {l : Launch} {e : Env} {R : Room} {s : State} {m : MethodId} {args : Array Value} {below : List Frame} {meth : Method} {c : Code} {H : Heap} {locs : List Loc} {k n mc2 ms2 mc ms : Nat} {pc : Nat} {la : Array Slot} {st stk : List Value} {g : ml_G} {vl vl2 : Int32 → Option Value} {res rs : ml_R} {a : Array Value}
    (hr : vx_Run p l e R s m args below meth c H locs k n mc2 ms2 (F0 m pc la stk) st (ml_Q g vl2 rs a) (ml_XC g rs) (ml_A g)) (hS : va_S (ml_A g) s.heap H locs) (htb : c.exceptionTable.toList = []) (hlk : meth.locks = false) (hk : k + mc2 ≤ mc) (hn2 : n + ms2 ≤ ms)
    (kk : ∀ (r9 : Int32) (H1 : Heap) (locs1 : List Loc), rs.1 = .inl r9 → ml_P g rs.2 H1 → va_S (ml_A g) s.heap H1 locs1 → W p l e R s m args below meth c H1 locs1 (k + mc2) (n + ms2) (vx_MQ below (ml_Q g vl res) (ml_XC g res) args s mc ms (ml_A g)) (F0 m (pc + 3) la ((vl2 r9).toList ++ st))) (kx : ∀ e9, rs.1 = .inr e9 → res = rs) :
    W p l e R s m args below meth c H locs k n (vx_MQ below (ml_Q g vl res) (ml_XC g res) args s mc ms (ml_A g)) (F0 m pc la stk) := by
  intro T hT X
  rcases hr T hT X with ⟨v, st₀, t, T', L, h0, X', hL, e1, e2, ⟨r9, hv1, hv2, hH, hF⟩, st9⟩ | ⟨q, st₀, t, T', L, E9, ce, h0, X', hL, e1, e2, ⟨e9, hv1, hv2, hH, hF⟩, hce, hcv, hcl, st9⟩
  · cases hv2
    obtain ⟨k1, k2, k3⟩ := vx_keep h0 e1 hS (fun q _ h => h) (fun q h => h) hL hF
    obtain ⟨t2, a1, b1⟩ := kk r9 T'.heap (locs ++ L) hv1 (by rw [e1]; exact hH) k3 T' rfl X'
    exact ⟨t2, st9 t2 a1, b1⟩
  · obtain ⟨k1, k2, k3⟩ := vx_keep h0 e1 hS (fun q _ h => h) (fun q h => h) hL hF
    have hres := kx e9 hv1
    subst hres
    obtain ⟨t2, a1, b1⟩ := vx_out (Qc := ml_Q g vl res) (XC := ml_XC g res) (free := ml_A g) (E := E9) (ce := ce) (q := q) (mc := mc) (ms := ms) (pc := pc) (ls := la) (rest := st) (locs := locs ++ L) (H := T'.heap) (by rw [htb]; intro x hx; cases hx) hlk (by rw [e1]; exact hce) hcv hcl
      (fun t3 ht3 hal => ⟨e9, hv1, hv2, by rw [ht3, e1]; exact hH, k3.F ht3⟩) k3.2.2 hk hn2 T' rfl X'
    exact ⟨t2, st9.trans a1, b1⟩
theorem ml_bd_k {x : Option ml_R} {B : Int32 → ml_M → Option ml_R} {res : ml_R} (h : ml_bd x B = some res) : ∃ rs, x = some rs ∧ (∀ r9, rs.1 = .inl r9 → B r9 rs.2 = some res) ∧ ∀ e9, rs.1 = .inr e9 → res = rs := by
  match x, h with
  | some (.inl r, M1), h => exact ⟨_, rfl, fun r9 h9 => by cases h9; exact h, fun e9 h9 => by cases h9⟩
  | some (.inr e, M1), h => exact ⟨_, rfl, fun r9 h9 => (by cases h9), fun e9 h9 => (Option.some.inj h).symm⟩
theorem ml_callV {E : ml_E} {g : ml_G} {cc : ByteArray} {own : String} {nL lv mc ms : Nat} {ret : Option FieldType} {k n pc : Nat} {ls : List (Nat × Value)} {st : List Value} {M : ml_M} {vl : Int32 → Option Value} {res : ml_R} {y : MethodName} {yc : ByteArray} {yn : Nat} {yr : Option FieldType} {lv2 mc2 ms2 z idx : Nat} {vl2 : Int32 → Option Value} {av : List Value} {x : Option ml_R} {B : Int32 → ml_M → Option ml_R} {stk : List Value} {kb ci : Nat} {fs : (Nat → Int32) → List Value} {T : u_T} {N : Nat} (F : ml_F E g cc own nL lv mc ms ret []) (O : ml_O g kb ci fs) (hc : vwCl[ci]? = some (y.cls, T, N)) (h : ml_bd x B = some res) (hC : ∀ rs, x = some rs → ml_C y yc yn yr lv2 mc2 ms2 g vl2 (ml_rf g kb :: av) M rs) (W1 : ml_wc y yc yn yr) (hlk2 : Cond.methodLink own idx y ∈ ml_all) (hwd : ml_wd y z) (hlv : lv2 < lv) (hk : k + mc2 ≤ mc) (hn2 : n + ms2 ≤ ms) (hz2 : av.length = z) (hsel : Cond.selects y.cls y y ∈ ml_all) (hins : Cond.instanceMethod y ∈ ml_all) (hstk : stk = av.reverse ++ ml_rf g kb :: st) (hroom : (st.map fun v => v.category).sum ≤ 8) (hd : decode cc pc = .ok (.invokevirtual idx, 3)) (K : ∀ (r9 : Int32) (M9 : ml_M), B r9 M9 = some res → ml_J E g nL (ml_Z E g vl res mc ms) (k + mc2) (n + ms2) (pc + 3) ls ((vl2 r9).toList ++ st) M9) : ml_J E g nL (ml_Z E g vl res mc ms) k n (pc) ls (stk) M := by
  obtain ⟨p, e, R, s, m, args, below, meth, c⟩ := E
  obtain ⟨⟨hx, hb, ht, ho, hm, hlk⟩, ⟨hK, ⟨M0, hD0⟩, hX, hz, htr⟩, ⟨hR1, hR2, hR3, hR4⟩, hret, htb⟩ := F
  have hD : va_D (ml_A g) (ml_wm g M) := ml_D_any hD0
  intro H locs la hP hS hl
  obtain ⟨rs, hx1, hx2, hx3⟩ := ml_bd_k h
  refine ml_after (vx_runV (As := av) (rest := st) (C := y.cls) ⟨hx, hb, hm, ho, ht⟩ (hC rs hx1) ⟨ml_cb ht W1 hlk2 hwd hR1 hR2 hlv, ht _ hins, ht _ hsel⟩ ⟨ml_H_blind, va_recv (D := g.2.1) (cl := vwCl) (tys := ml_ty g) hK hP hc (q0 := kb) (by rw [ml_wm_at O.1, O.2]), fun U hU hW => ⟨rfl, ml_H_to hW hU hP hS hK hD0 hX hz⟩⟩ rfl hz2 hl.1 hstk (lv_room hroom) hd ⟨by omega, by omega⟩) hS htb hlk hk hn2 (fun r9 H1 locs1 h9 hP1 hS1 => K r9 rs.2 (hx2 r9 h9) H1 locs1 la hP1 hS1 hl) hx3
theorem ml_callS {E : ml_E} {g : ml_G} {cc : ByteArray} {own : String} {nL lv mc ms : Nat} {ret : Option FieldType} {k n pc : Nat} {ls : List (Nat × Value)} {st : List Value} {M : ml_M} {vl : Int32 → Option Value} {res : ml_R} {y : MethodName} {yc : ByteArray} {yn : Nat} {yr : Option FieldType} {lv2 mc2 ms2 z idx : Nat} {vl2 : Int32 → Option Value} {av : List Value} {x : Option ml_R} {B : Int32 → ml_M → Option ml_R} {stk : List Value} (F : ml_F E g cc own nL lv mc ms ret []) (h : ml_bd x B = some res) (hC : ∀ rs, x = some rs → ml_C y yc yn yr lv2 mc2 ms2 g vl2 av M rs) (W1 : ml_wc y yc yn yr) (hlk2 : Cond.methodLink own idx y ∈ ml_all) (hwd : ml_wd y z) (hlv : lv2 < lv) (hk : k + mc2 ≤ mc) (hn2 : n + ms2 ≤ ms) (hz2 : av.length = z) (hstt : Cond.static y ∈ ml_all) (hstk : stk = av.reverse ++ st) (hroom : (st.map fun v => v.category).sum ≤ 8) (hd : decode cc pc = .ok (.invokestatic idx, 3)) (K : ∀ (r9 : Int32) (M9 : ml_M), B r9 M9 = some res → ml_J E g nL (ml_Z E g vl res mc ms) (k + mc2) (n + ms2) (pc + 3) ls ((vl2 r9).toList ++ st) M9) : ml_J E g nL (ml_Z E g vl res mc ms) k n (pc) ls (stk) M := by
  obtain ⟨p, e, R, s, m, args, below, meth, c⟩ := E
  obtain ⟨⟨hx, hb, ht, ho, hm, hlk⟩, ⟨hK, ⟨M0, hD0⟩, hX, hz, htr⟩, ⟨hR1, hR2, hR3, hR4⟩, hret, htb⟩ := F
  have hD : va_D (ml_A g) (ml_wm g M) := ml_D_any hD0
  intro H locs la hP hS hl
  obtain ⟨rs, hx1, hx2, hx3⟩ := ml_bd_k h
  refine ml_after (vx_runS (As := av) (rest := st) ⟨hx, hb, hm, ho, ht⟩ (hC rs hx1) ⟨ml_cb ht W1 hlk2 hwd hR1 hR2 hlv, ht _ hstt⟩ ⟨ml_H_blind, fun U hU hW => ⟨rfl, ml_H_to hW hU hP hS hK hD0 hX hz⟩⟩ rfl hz2 hl.1 hstk (lv_room hroom) hd ⟨by omega, by omega⟩) hS htb hlk hk hn2 (fun r9 H1 locs1 h9 hP1 hS1 => K r9 rs.2 (hx2 r9 h9) H1 locs1 la hP1 hS1 hl) hx3
/-- the words of a throw of the exception e from CanalLocks -/
def ml_tw (e ik ic : Nat) (names : List String) : Prop := Bundle.fit (ml_ex e) = true ∧ (∀ n ∈ names, Bundle.fit n = true) ∧ names.length = 2 ∧ Cond.classLink RX6 ik (ml_ex e) ∈ ml_all ∧ Cond.initialized (ml_ex e) ∈ ml_all ∧ (∀ w ∈ (vx_atS RX6 ic (ml_ex e) names).filter goodWord, w ∈ ml_all) ∧ (∀ w ∈ (vx_atS RX6 ic (ml_ex e) names).filter (fun w => !goodWord w), w ∈ ml_nest) ∧ (∀ w ∈ (vx_atS RX6 ic (ml_ex e) names), vx_ot w = true) ∧ (∀ w ∈ (vx_atS RX6 ic (ml_ex e) names).filter (fun w => !goodWord w), w.onTables = true)
theorem ml_P_new {g : ml_G} {M : ml_M} {H H1 : Heap} (h : ml_P g M H) (hq : ∀ q : Nat, q < H.size → H1[q]? = H[q]?) : ml_P g M H1 := fun k q hk => (h k q hk).kept (hq _ (h k q hk).lt)
theorem ml_throw {E : ml_E} {g : ml_G} {cc : ByteArray} {nL lv mc ms : Nat} {ret : Option FieldType} {k n pc : Nat} {ls : List (Nat × Value)} {st : List Value} {M : ml_M} {vl : Int32 → Option Value} {res : ml_R} {e8 ik is ic : Nat} {names : List String} {text : String} (F : ml_F E g cc RX6 nL lv mc ms ret []) (h : ((Sum.inr e8, M) : ml_R) = res) (T8 : ml_tw e8 ik ic names) (htx : (is, text) ∈ ml_txt) (hst : (st.map fun v => v.category).sum ≤ 8) (hk : k + 1 ≤ mc) (hn2 : n + 6 ≤ ms) (d0 : decode cc pc = .ok (.new ik, 3)) (d3 : decode cc (pc + 3) = .ok (.dup, 1)) (d4 : decode cc (pc + 4) = .ok (.ldc is, 2)) (d6 : decode cc (pc + 6) = .ok (.invokespecial ic, 3)) (d9 : decode cc (pc + 9) = .ok (.athrow, 1)) : ml_J E g nL (ml_Z E g vl res mc ms) k n (pc) ls (st) M := by
  obtain ⟨p, e, R, s, m, args, below, meth, c⟩ := E
  obtain ⟨⟨hx, hb, ht, ho, hm, hlk⟩, ⟨hK, ⟨M0, hD0⟩, hX, hz, htr⟩, ⟨hR1, hR2, hR3, hR4⟩, hret, htb⟩ := F
  have hD : va_D (ml_A g) (ml_wm g M) := ml_D_any hD0
  intro H locs la hP hS hl
  have hTs : ∀ w ∈ vx_atS RX6 ic (ml_ex e8) names, w.before args s = true := by
    intro w hw
    by_cases gw : goodWord w = true
    · exact ht w (T8.2.2.2.2.2.1 w (List.mem_filter.mpr ⟨hw, gw⟩))
    · have h2 : w ∈ (vx_atS RX6 ic (ml_ex e8) names).filter (fun w => !goodWord w) := List.mem_filter.mpr ⟨hw, by simpa using gw⟩
      exact va_Nw.use (T8.2.2.2.2.2.2.2.2 w h2) (hX.2.1 w (T8.2.2.2.2.2.2.1 w h2))
  obtain ⟨sa, hsa⟩ := hX.2.2.1 _ htx
  have hlen := T8.2.2.1
  subst h
  refine vx_throwS (A := ml_A g) (own := RX6) (cls := ml_ex e8) (names := names) (ik := ik) (is := is) (ic := ic) (sa := sa) (text := text) hx hb htr ho T8.1 T8.2.1 (ht _ T8.2.2.2.1) (ht _ T8.2.2.2.2.1) hsa hTs ?_ hX.1.2.2.1.1 hX.1.2.2.1.2 hS (hl.1.trans hm.symm) d0 d3 d4 d6 d9 (by rw [htb]; intro x hx; cases hx) (by omega) (by omega) (by omega) (by omega) hlk ?_ hS.2.2 hk hn2
  · intro w hw
    rcases List.mem_cons.mp hw with rfl | hw
    · rfl
    rcases List.mem_cons.mp hw with rfl | hw
    · rfl
    exact T8.2.2.2.2.2.2.2.1 w hw
  · intro t9 hal hsz hq9
    exact ⟨e8, rfl, rfl, ml_P_new hP hq9, Nat.le_trans hS.1 hsz, fun q h1 h2 => by rw [hq9 q (Nat.lt_of_lt_of_le h1 hS.1)]; exact hS.2.1 q h1 h2⟩
theorem ml_throwW {E : ml_E} {g : ml_G} {cc : ByteArray} {nL lv mc ms : Nat} {ret : Option FieldType} {k n pc : Nat} {ls : List (Nat × Value)} {st : List Value} {M : ml_M} {vl : Int32 → Option Value} {res : ml_R} {e8 ik is ic : Nat} {names : List String} {text : String} (F : ml_F E g cc RX6 nL lv mc ms ret []) (h : ((Sum.inr e8, M) : ml_R) = res) (T8 : ml_tw e8 ik ic names) (htx : (is, text) ∈ ml_txt) (hst : (st.map fun v => v.category).sum ≤ 8) (hk : k + 1 ≤ mc) (hn2 : n + 6 ≤ ms) (d0 : decode cc pc = .ok (.new ik, 3)) (d3 : decode cc (pc + 3) = .ok (.dup, 1)) (d4 : decode cc (pc + 4) = .ok (.ldc_w is, 3)) (d6 : decode cc (pc + 7) = .ok (.invokespecial ic, 3)) (d9 : decode cc (pc + 10) = .ok (.athrow, 1)) : ml_J E g nL (ml_Z E g vl res mc ms) k n (pc) ls (st) M := by
  obtain ⟨p, e, R, s, m, args, below, meth, c⟩ := E
  obtain ⟨⟨hx, hb, ht, ho, hm, hlk⟩, ⟨hK, ⟨M0, hD0⟩, hX, hz, htr⟩, ⟨hR1, hR2, hR3, hR4⟩, hret, htb⟩ := F
  have hD : va_D (ml_A g) (ml_wm g M) := ml_D_any hD0
  intro H locs la hP hS hl
  have hTs : ∀ w ∈ vx_atS RX6 ic (ml_ex e8) names, w.before args s = true := by
    intro w hw
    by_cases gw : goodWord w = true
    · exact ht w (T8.2.2.2.2.2.1 w (List.mem_filter.mpr ⟨hw, gw⟩))
    · have h2 : w ∈ (vx_atS RX6 ic (ml_ex e8) names).filter (fun w => !goodWord w) := List.mem_filter.mpr ⟨hw, by simpa using gw⟩
      exact va_Nw.use (T8.2.2.2.2.2.2.2.2 w h2) (hX.2.1 w (T8.2.2.2.2.2.2.1 w h2))
  obtain ⟨sa, hsa⟩ := hX.2.2.1 _ htx
  have hlen := T8.2.2.1
  subst h
  refine vx_throwSW (A := ml_A g) (own := RX6) (cls := ml_ex e8) (names := names) (ik := ik) (is := is) (ic := ic) (sa := sa) (text := text) hx hb htr ho T8.1 T8.2.1 (ht _ T8.2.2.2.1) (ht _ T8.2.2.2.2.1) hsa hTs ?_ hX.1.2.2.1.1 hX.1.2.2.1.2 hS (hl.1.trans hm.symm) d0 d3 d4 d6 d9 (by rw [htb]; intro x hx; cases hx) (by omega) (by omega) (by omega) (by omega) hlk ?_ hS.2.2 hk hn2
  · intro w hw
    rcases List.mem_cons.mp hw with rfl | hw
    · rfl
    rcases List.mem_cons.mp hw with rfl | hw
    · rfl
    exact T8.2.2.2.2.2.2.2.1 w hw
  · intro t9 hal hsz hq9
    exact ⟨e8, rfl, rfl, ml_P_new hP hq9, Nat.le_trans hS.1 hsz, fun q h1 h2 => by rw [hq9 q (Nat.lt_of_lt_of_le h1 hS.1)]; exact hS.2.1 q h1 h2⟩
set_option maxRecDepth 100000 in
theorem ml_tw1 : ml_tw 1 251 255 ["java/lang/RuntimeException", "java/lang/Exception"] := ⟨by decide +kernel, by decide +kernel, rfl, by decide +kernel, by decide +kernel, by decide +kernel, by decide +kernel, by decide +kernel, by decide +kernel⟩
set_option maxRecDepth 100000 in
theorem ml_tw2 : ml_tw 2 176 180 ["java/lang/RuntimeException", "java/lang/Exception"] := ⟨by decide +kernel, by decide +kernel, rfl, by decide +kernel, by decide +kernel, by decide +kernel, by decide +kernel, by decide +kernel, by decide +kernel⟩
set_option maxRecDepth 100000 in
theorem ml_tw3 : ml_tw 3 263 267 ["java/lang/RuntimeException", "java/lang/Exception"] := ⟨by decide +kernel, by decide +kernel, rfl, by decide +kernel, by decide +kernel, by decide +kernel, by decide +kernel, by decide +kernel, by decide +kernel⟩
set_option maxRecDepth 100000 in
theorem ml_tw5 : ml_tw 5 321 325 ["java/lang/RuntimeException", "java/lang/Exception"] := ⟨by decide +kernel, by decide +kernel, rfl, by decide +kernel, by decide +kernel, by decide +kernel, by decide +kernel, by decide +kernel, by decide +kernel⟩
theorem ml_met {y : MethodName} {cc : ByteArray} {maxL : Nat} {ret : Option FieldType} {lv mc ms : Nat} {g : ml_G} {vl : Int32 → Option Value} {av : List Value} {M : ml_M} {res : ml_R} {r : Int32} (hr : res.1 = .inl r) (h : ml_C y cc maxL ret lv mc ms g vl av M res) : Met g.2.2.2.2.2 y (ml_ws y cc maxL ret) (ml_rm lv mc ms) (va_Pc av (ml_H g M)) (ml_Q g vl res) mc ms (ml_A g) := by
  intro p e h1 h2 h3 s m args below h4 h5 h6 h7
  obtain ⟨z, o, a1, a2, a3, a4⟩ := h p e h1 h2 h3 s m args below h4 h5 h6 h7
  refine ⟨z, o, a1, a2, a3, ?_⟩
  rcases a4 with a4 | ⟨q, hq, Ex, ce, L, ⟨e9, he9, -⟩, -⟩
  · exact a4
  · rw [hr] at he9; cases he9
theorem ml_callSN {E : ml_E} {g : ml_G} {cc : ByteArray} {own : String} {nL lv mc ms : Nat} {ret : Option FieldType} {k n pc : Nat} {ls : List (Nat × Value)} {st : List Value} {M : ml_M} {vl : Int32 → Option Value} {res : ml_R} {y : MethodName} {yc : ByteArray} {yn : Nat} {yr : Option FieldType} {lv2 mc2 ms2 z idx : Nat} {vl2 : Int32 → Option Value} {av : List Value} {x : Option ml_R} {B : Int32 → ml_M → Option ml_R} {stk : List Value} {r8 : Int32} {rs8 : ml_R} (F : ml_F E g cc own nL lv mc ms ret []) (h : ml_bd x B = some res) (hx8 : x = some rs8) (hr8 : rs8.1 = .inl r8) (hC : ml_C y yc yn yr lv2 mc2 ms2 g vl2 av M rs8) (W1 : ml_wc y yc yn yr) (hlk2 : Cond.methodLinkNest own idx y RX6 ∈ ml_nest) (hwd : ml_wd y z) (hlv : lv2 < lv) (hk : k + mc2 ≤ mc) (hn2 : n + ms2 ≤ ms) (hz2 : av.length = z) (hstt : Cond.static y ∈ ml_all) (hstk : stk = av.reverse ++ st) (hroom : (st.map fun v => v.category).sum ≤ 8) (hd : decode cc pc = .ok (.invokestatic idx, 3)) (K : B r8 rs8.2 = some res → ml_J E g nL (ml_Z E g vl res mc ms) (k + mc2) (n + ms2) (pc + 3) ls ((vl2 r8).toList ++ st) rs8.2) : ml_J E g nL (ml_Z E g vl res mc ms) k n (pc) ls (stk) M := by
  obtain ⟨p, e, R, s, m, args, below, meth, c⟩ := E
  obtain ⟨⟨hx, hb, ht, ho, hm, hlk⟩, ⟨hK, ⟨M0, hD0⟩, hX, hz, htr⟩, ⟨hR1, hR2, hR3, hR4⟩, hret, htb⟩ := F
  have hD : va_D (ml_A g) (ml_wm g M) := ml_D_any hD0
  intro H locs la hP hS hl
  have hB : B r8 rs8.2 = some res := by
    obtain ⟨rs, hx1, hx2, hx3⟩ := ml_bd_k h
    cases hx8.symm.trans hx1
    exact hx2 r8 hr8
  have h4 := W1.2.2
  have hRun := va_runSN (R := R) (e := e) (below := below) (meth := meth) (As := av) (rest := st) (host := RX6) (Ts := ml_all) (g := F0 m pc la stk) ⟨hx, hb, hm, ho, ht⟩ (ml_met hr8 hC) ⟨va_cnB (R := R) z ht (ml_good W1.1) rfl rfl rfl (hX.2.1 _ hlk2) (ht _ W1.2.1) hwd ⟨by show 40 + lv2 + 1 ≤ _; omega, by show 8 + (yn + 11) + (800 + 64 * lv2) ≤ _; omega⟩, ht _ hstt, trivial⟩ (H := H) ⟨ml_H_blind, fun U hU hW => ⟨rfl, ml_H_to hW hU hP hS hK hD0 hX hz⟩⟩ rfl hz2 hl.1 hstk (lv_room hroom) hd (cells := k) (slots := n) (locs := locs) ⟨by omega, by omega⟩
  intro T hT X
  obtain ⟨v, st₀, t, T', L, h0, X', hL, e1, e2, ⟨r9, hv1, hv2, hH, hF⟩, st9⟩ := hRun T hT X
  cases hv1.symm.trans hr8
  cases hv2
  obtain ⟨k1, k2, k3⟩ := vx_keep h0 e1 hS (fun q _ h => h) (fun q h => h) hL hF
  obtain ⟨t2, a1, b1⟩ := K hB T'.heap (locs ++ L) la (by rw [e1]; exact hH) k3 hl T' rfl X'
  exact ⟨t2, st9 t2 a1, b1⟩
end
section
/-! ===== BEGIN a private method of a nest mate that may throw (follows va_callVN, va_callSN, va_runVN, va_runSN) ===== -/
section
variable {p : Program} {l : Launch} {e : Env} {R : Room} {s : State} {m : MethodId} {args : Array Value} {below : List Frame} {meth : Method} {c : Code} {H : Heap} {locs : List Loc} {cells slots : Nat}
variable {T : State}
theorem vx_callVN (X : Stand p l e R s m args below meth c T locs cells slots) (hexec : p.tables.exec = Jvm.exec) {own C : String} {index : Nat} {host : String} {y : MethodName} {bytes : ByteArray} {maxL : Nat} {ret : Option FieldType}
    (hown : s.vm.findClass own = some m.cls) (hlink : (Cond.methodLinkNest own index y host).before args s = true) (hinst : (Cond.instanceMethod y).before args s = true) (hsel : (Cond.selects C y y).before args s = true)
    (hcode : (Cond.code y bytes maxL ret).before args s = true) (hy : y.cls ≠ "java/lang/invoke/MethodHandle" ∧ y.cls ≠ "java/lang/invoke/VarHandle")
    {W : Nat} {Pre : Pt → Array Value → Prop} {Post : Pt → Array Value → Option Value → Pt → Prop} {PostX : Pt → Array Value → Addr → Pt → Prop} (hK : vx_Back l R p e below s args y 3 W Pre Post PostX)
    {b : Addr} {cellB : Cell} (hcell : T.heap[b]? = some cellB) (hobj : cellB.vm.isStatics = false) (hcls : s.vm.findClass C = some cellB.cls)
    {g : JFrame} (hg : g.method = m) (hsize : g.locals.size = c.maxLocals) {argsL rest : List Value} (hlen : ∀ sig, parseMethodDescriptor y.desc = some sig → argsL.length = sig.parameters.length)
    (hstack : g.stack = argsL.reverse ++ .ref b :: rest) (hW : 2 * g.monitorRoom + (rest.map fun v => v.category).sum ≤ W) (hdg : decode c.code g.pc = .ok (.invokevirtual index, 3))
    (hpre : ∀ vm₁, s.WarmedH vm₁ → Pre ⟨T.setVm vm₁, locs, cells, slots⟩ (Value.ref b :: argsL).toArray) :
    (∃ (v : Option Value) (vm₁ : Vm) (B : Pt), s.WarmedH vm₁ ∧ Stand p l e R s m args below meth c B.U B.locs B.cells B.slots ∧ Post ⟨T.setVm vm₁, locs, cells, slots⟩ (Value.ref b :: argsL).toArray v B ∧
      ∀ target, Steps p.tables e below (B.U.setTop { g with pc := g.pc + 3, stack := v.toList ++ rest }) target → Steps p.tables e below (T.setTop g) target) ∨
    (∃ (q : Addr) (vm₁ : Vm) (B : Pt), s.WarmedH vm₁ ∧ Stand p l e R s m args below meth c B.U B.locs B.cells B.slots ∧ PostX ⟨T.setVm vm₁, locs, cells, slots⟩ (Value.ref b :: argsL).toArray q B ∧
      Steps p.tables e below (T.setTop g) ((B.U.setTop { g with stack := rest }).pushFrame (.throwing q))) := by
  obtain ⟨mk, methM, hnamed, hmethM, hstM, habM⟩ := Cond.instanceMethod_spec hinst
  obtain ⟨methM', cM, hmethM', -, -, -, -, -, -, hsigM⟩ := Cond.code_spec hnamed hcode
  cases hmethM.symm.trans hmethM'
  obtain ⟨c2, r2, m2, q1, q2, q3, q4, kP, hkP, hkPi⟩ := Cond.selects_spec hsel
  cases hcls.symm.trans q1
  cases (State.methodFound?_of_named hnamed hy).symm.trans q2
  cases hnamed.symm.trans q3
  have hselP : selectMethod e.platform s.vm cellB.cls mk = .method mk := by rw [Launch.admits_selectMethod X.admits]; exact q4
  obtain ⟨vm₁, X₁, hstep₁⟩ := X.invokevirtualNest hexec hown hlink hnamed hmethM hstM hkP hkPi hy (a := b) (cell := cellB) hcell
    (fun z h => by rw [h] at hobj; cases hobj) hselP hmethM habM hkP hkPi (g := g) hg (argsL := argsL) (rest := rest) (hlen _ hsigM) hstack hdg
  rcases hK m meth c ⟨T.setVm vm₁, locs, cells, slots⟩ { g with stack := rest } (.invokevirtual index) mk (Value.ref b :: argsL).toArray X₁ hg hsize hdg hW (X₁.named hnamed) (hpre vm₁ X₁.warmed) with ⟨v, B, X', hpost, hsteps⟩ | ⟨q, B, X', hpost, hsteps⟩
  · exact Or.inl ⟨v, vm₁, B, X₁.warmed, X', hpost, fun target h => hstep₁ _ fun acts => by rw [doInvoke_state]; exact hsteps.trans h⟩
  · exact Or.inr ⟨q, vm₁, B, X₁.warmed, X', hpost, hstep₁ _ fun acts => by rw [doInvoke_state]; exact hsteps⟩
theorem vx_callSN (X : Stand p l e R s m args below meth c T locs cells slots) (hexec : p.tables.exec = Jvm.exec) {own : String} {index : Nat} {host : String} {y : MethodName} {bytes : ByteArray} {maxL : Nat} {ret : Option FieldType}
    (hown : s.vm.findClass own = some m.cls) (hlink : (Cond.methodLinkNest own index y host).before args s = true) (hstat : (Cond.static y).before args s = true) (hinit : (Cond.initialized y.cls).before args s = true)
    (hcode : (Cond.code y bytes maxL ret).before args s = true) (hy : y.cls ≠ "java/lang/invoke/MethodHandle" ∧ y.cls ≠ "java/lang/invoke/VarHandle")
    {W : Nat} {Pre : Pt → Array Value → Prop} {Post : Pt → Array Value → Option Value → Pt → Prop} {PostX : Pt → Array Value → Addr → Pt → Prop} (hK : vx_Back l R p e below s args y 3 W Pre Post PostX)
    {g : JFrame} (hg : g.method = m) (hsize : g.locals.size = c.maxLocals) {argsL rest : List Value} (hlen : ∀ sig, parseMethodDescriptor y.desc = some sig → argsL.length = sig.parameters.length)
    (hstack : g.stack = argsL.reverse ++ rest) (hW : 2 * g.monitorRoom + (rest.map fun v => v.category).sum ≤ W) (hdg : decode c.code g.pc = .ok (.invokestatic index, 3))
    (hpre : ∀ vm₁, s.WarmedH vm₁ → Pre ⟨T.setVm vm₁, locs, cells, slots⟩ argsL.toArray) :
    (∃ (v : Option Value) (vm₁ : Vm) (B : Pt), s.WarmedH vm₁ ∧ Stand p l e R s m args below meth c B.U B.locs B.cells B.slots ∧ Post ⟨T.setVm vm₁, locs, cells, slots⟩ argsL.toArray v B ∧
      ∀ target, Steps p.tables e below (B.U.setTop { g with pc := g.pc + 3, stack := v.toList ++ rest }) target → Steps p.tables e below (T.setTop g) target) ∨
    (∃ (q : Addr) (vm₁ : Vm) (B : Pt), s.WarmedH vm₁ ∧ Stand p l e R s m args below meth c B.U B.locs B.cells B.slots ∧ PostX ⟨T.setVm vm₁, locs, cells, slots⟩ argsL.toArray q B ∧
      Steps p.tables e below (T.setTop g) ((B.U.setTop { g with stack := rest }).pushFrame (.throwing q))) := by
  obtain ⟨mk, hnamed⟩ := Cond.code_named hcode
  obtain ⟨methM, cM, hmethM, -, -, -, -, -, -, hsigM⟩ := Cond.code_spec hnamed hcode
  have hstatic : methM.isStatic = true := Cond.static_spec hnamed hmethM hstat
  obtain ⟨kP, hkP, -⟩ := className_of_methodNamed hnamed
  have hinitP : kP.init = .initialized := Cond.initialized_spec (findClass_of_methodNamed hnamed) hkP hinit
  obtain ⟨vm₁, X₁, hstep₁⟩ := X.invokestaticNest hexec hown hlink hnamed hmethM hstatic hkP hinitP hy (g := g) hg (argsL := argsL) (rest := rest) (hlen _ hsigM) hstack hdg
  rcases hK m meth c ⟨T.setVm vm₁, locs, cells, slots⟩ { g with stack := rest } (.invokestatic index) mk argsL.toArray X₁ hg hsize hdg hW (X₁.named hnamed) (hpre vm₁ X₁.warmed) with ⟨v, B, X', hpost, hsteps⟩ | ⟨q, B, X', hpost, hsteps⟩
  · exact Or.inl ⟨v, vm₁, B, X₁.warmed, X', hpost, fun target h => hstep₁ _ fun acts => by rw [doInvoke_state]; exact hsteps.trans h⟩
  · exact Or.inr ⟨q, vm₁, B, X₁.warmed, X', hpost, hstep₁ _ fun acts => by rw [doInvoke_state]; exact hsteps⟩
theorem vx_runVN {y : MethodName} {bytes cc : ByteArray} {maxL nL mc ms n index : Nat} {ret : Option FieldType} {ws : List Cond} {rm : Room} {Pc : Array Value → State → Prop} {Qc : Array Value → State → Outcome → State → Prop} {XC : String → State → State → Prop} {free : Addr → Prop} {Ts : List Cond} {own C host : String} {b : Addr} {As rest : List Value} {g : JFrame}
    (S : CallFix p m c cc nL s args Ts own) (hM : vx_Met l y ws rm Pc Qc XC mc ms free) (cw : va_CN R s args own index y host bytes maxL ret ws rm mc ms n ∧ (Cond.instanceMethod y).before args s = true ∧ (Cond.selects C y y).before args s = true) (hp : PreV s H C b Pc As)
    (hg : g.method = m) (hn : As.length = n) (hsize : g.locals.size = nL) (hstack : g.stack = As.reverse ++ .ref b :: rest) (hW : 2 * g.monitorRoom + (rest.map fun v => v.category).sum ≤ 8) (hdg : decode cc g.pc = .ok (.invokevirtual index, 3)) (hf : cells + mc ≤ R.cells ∧ slots + ms ≤ R.slots) :
    vx_Run p l e R s m args below meth c H locs cells slots mc ms g rest (Qc (Value.ref b :: As).toArray) XC free := by
  obtain ⟨⟨⟨hrc, hrs, hfr, hlo, hws, hcw⟩, hcode, hini, hy, hlen, hl⟩, hx1, hx2⟩ := cw
  have hK : vx_Back l R p e below s args y 3 8 (PreOf R mc ms Pc) (PostOf Qc mc ms free) (vx_Post XC mc ms free) := vx_back (bytes := bytes) (maxL := maxL) (ret := ret) hM hp.1 hrc hrs hfr hlo hws hcw (fun a' U hW => word_at hW (Or.inl (by first | rfl | simp [Cond.onTables, Cond.keeps, Cond.steady])) hini)
  obtain ⟨hx, hb, hml, ho, -⟩ := S
  obtain ⟨-, ⟨cellB, hcB, hoB, hclB⟩, hPc⟩ := hp
  intro T hT X
  rcases vx_callVN X hx (C := C) (bytes := bytes) (maxL := maxL) (ret := ret) ho hl hx1 hx2 hcode hy hK (by rw [hT]; exact hcB) hoB hclB hg (hsize.trans hml.symm) (argsL := As) (rest := rest) (fun sig h => hn.trans (hlen sig h)) hstack hW (by rw [hb]; exact hdg)
    (fun vm₁ hW₁ => ⟨hf.1, hf.2, hPc (T.setVm vm₁) hT hW₁⟩) with ⟨v, vm₁, ⟨U', l2, c2, s2⟩, hW₁, X', ⟨g', mk, t, L, e1, e2, hq, h1, hL, h2, h3⟩, st⟩ | ⟨q, vm₁, ⟨U', l2, c2, s2⟩, hW₁, X', ⟨g', mk, t, L, E, ce, e1, e2, hq, hce, hcv, hcl, h1, hL, h2, h3⟩, st⟩
  · dsimp only [Pt.U, Pt.locs, Pt.cells, Pt.slots] at X' e1 e2 h1 h2 h3 st
    subst h1; subst h2; subst h3
    exact Or.inl ⟨v, (T.setVm vm₁).calling g' mk (Value.ref b :: As).toArray, t, U', L, hT, X', hL, e1, e2, hq, st⟩
  · dsimp only [Pt.U, Pt.locs, Pt.cells, Pt.slots] at X' e1 e2 h1 h2 h3 st hcl
    subst h1; subst h2; subst h3
    exact Or.inr ⟨q, (T.setVm vm₁).calling g' mk (Value.ref b :: As).toArray, t, U', L, E, ce, hT, X', hL, e1, e2, hq, hce, hcv, vx_cls hW₁ hcl, st⟩
theorem vx_runSN {y : MethodName} {bytes cc : ByteArray} {maxL nL mc ms n index : Nat} {ret : Option FieldType} {ws : List Cond} {rm : Room} {Pc : Array Value → State → Prop} {Qc : Array Value → State → Outcome → State → Prop} {XC : String → State → State → Prop} {free : Addr → Prop} {Ts : List Cond} {own host : String} {As rest : List Value} {g : JFrame}
    (S : CallFix p m c cc nL s args Ts own) (hM : vx_Met l y ws rm Pc Qc XC mc ms free) (cw : va_CN R s args own index y host bytes maxL ret ws rm mc ms n ∧ (Cond.static y).before args s = true ∧ True) (hp : PreS s H Pc As)
    (hg : g.method = m) (hn : As.length = n) (hsize : g.locals.size = nL) (hstack : g.stack = As.reverse ++ rest) (hW : 2 * g.monitorRoom + (rest.map fun v => v.category).sum ≤ 8) (hdg : decode cc g.pc = .ok (.invokestatic index, 3)) (hf : cells + mc ≤ R.cells ∧ slots + ms ≤ R.slots) :
    vx_Run p l e R s m args below meth c H locs cells slots mc ms g rest (Qc As.toArray) XC free := by
  obtain ⟨⟨⟨hrc, hrs, hfr, hlo, hws, hcw⟩, hcode, hini, hy, hlen, hl⟩, hx1, hx2⟩ := cw
  have hK : vx_Back l R p e below s args y 3 8 (PreOf R mc ms Pc) (PostOf Qc mc ms free) (vx_Post XC mc ms free) := vx_back (bytes := bytes) (maxL := maxL) (ret := ret) hM hp.1 hrc hrs hfr hlo hws hcw (fun a' U hW => word_at hW (Or.inl (by first | rfl | simp [Cond.onTables, Cond.keeps, Cond.steady])) hini)
  obtain ⟨hx, hb, hml, ho, -⟩ := S
  have hPc := hp.2
  intro T hT X
  rcases vx_callSN X hx (bytes := bytes) (maxL := maxL) (ret := ret) ho hl hx1 hini hcode hy hK hg (hsize.trans hml.symm) (argsL := As) (rest := rest) (fun sig h => hn.trans (hlen sig h)) hstack hW (by rw [hb]; exact hdg)
    (fun vm₁ hW₁ => ⟨hf.1, hf.2, hPc (T.setVm vm₁) hT hW₁⟩) with ⟨v, vm₁, ⟨U', l2, c2, s2⟩, hW₁, X', ⟨g', mk, t, L, e1, e2, hq, h1, hL, h2, h3⟩, st⟩ | ⟨q, vm₁, ⟨U', l2, c2, s2⟩, hW₁, X', ⟨g', mk, t, L, E, ce, e1, e2, hq, hce, hcv, hcl, h1, hL, h2, h3⟩, st⟩
  · dsimp only [Pt.U, Pt.locs, Pt.cells, Pt.slots] at X' e1 e2 h1 h2 h3 st
    subst h1; subst h2; subst h3
    exact Or.inl ⟨v, (T.setVm vm₁).calling g' mk As.toArray, t, U', L, hT, X', hL, e1, e2, hq, st⟩
  · dsimp only [Pt.U, Pt.locs, Pt.cells, Pt.slots] at X' e1 e2 h1 h2 h3 st hcl
    subst h1; subst h2; subst h3
    exact Or.inr ⟨q, (T.setVm vm₁).calling g' mk As.toArray, t, U', L, E, ce, hT, X', hL, e1, e2, hq, hce, hcv, vx_cls hW₁ hcl, st⟩
end
/-! ===== END ===== -/
def ml_fuel : Nat := 100000
theorem ml_F_st {E : ml_E} {g : ml_G} {cc : ByteArray} {own : String} {nL lv mc ms : Nat} {ret : Option FieldType} {tb : List ExceptionTableEntry} (F : ml_F E g cc own nL lv mc ms ret tb) : g.2.2.2.2.2.stackTraces = false := by
  obtain ⟨p, e, R, s, m, args, below, meth, c⟩ := E
  exact F.2.1.2.2.2.2
theorem ml_sub {E : ml_E} {g : ml_G} {cc : ByteArray} {own : String} {nL lv mc ms : Nat} {ret : Option FieldType} {tb : List ExceptionTableEntry} {Q : State → Prop} {k n pc : Nat} {ls : List (Nat × Value)} {st : List Value} {M : ml_M} (ks : List Nat) {ls2 : List (Nat × Value)} (hs : lv_pick ls ks = ls2) (K : ml_J E g nL Q k n (pc) ls2 (st) M) : ml_J E g nL Q k n (pc) ls (st) M := by
  obtain ⟨p, e, R, s, m, args, below, meth, c⟩ := E
  exact fun H locs la hP hS hl => K H locs la hP hS (lv_sub hl ks hs)
/-- a value with a name -/
def ml_lt {β γ : Type} (v : β) (B : β → Option γ) : Option γ := B v
theorem ml_ltM {E : ml_E} {g : ml_G} {cc : ByteArray} {own : String} {nL lv mc ms : Nat} {ret : Option FieldType} {tb : List ExceptionTableEntry} {Q : State → Prop} {k n pc : Nat} {ls : List (Nat × Value)} {st : List Value} {M : ml_M} {γ : Type} {B : ml_M → Option γ} {r : γ} (h : ml_lt M B = some r) (K : ∀ M1 : ml_M, M1 = M → B M1 = some r → ml_J E g nL Q k n (pc) ls (st) M1) : ml_J E g nL Q k n (pc) ls (st) M := K M rfl h
theorem ml_ltI {E : ml_E} {g : ml_G} {cc : ByteArray} {own : String} {nL lv mc ms : Nat} {ret : Option FieldType} {tb : List ExceptionTableEntry} {Q : State → Prop} {k n pc : Nat} {ls : List (Nat × Value)} {st : List Value} {M : ml_M} {γ : Type} {x : Int32} {B : Int32 → Option γ} {r : γ} (h : ml_lt x B = some r) (K : ∀ x1 : Int32, x1 = x → B x1 = some r → ml_J E g nL Q k n (pc) ls (.int x1 :: st) M) : ml_J E g nL Q k n (pc) ls (.int x :: st) M := K x rfl h
theorem ml_min {E : ml_E} {g : ml_G} {cc : ByteArray} {own : String} {nL lv mc ms : Nat} {ret : Option FieldType} {tb : List ExceptionTableEntry} {Q : State → Prop} {k n pc : Nat} {ls : List (Nat × Value)} {st : List Value} {M : ml_M} {x y : Int32} {idx : Nat} (F : ml_F E g cc own nL lv mc ms ret tb) (hlk2 : Cond.methodLink own idx Lib.Math.min.name ∈ ml_all) (h1 : Cond.static Lib.Math.min.name ∈ ml_all) (h2 : Cond.initialized "java/lang/Math" ∈ ml_all) (h3 : Cond.code Lib.Math.min.name Lib.Math.min.code 2 (some .int) ∈ ml_all) (hd : decode cc pc = .ok (.invokestatic idx, 3)) (hst9 : (st.map fun v => v.category).sum ≤ 8) (hk : k ≤ mc) (hn2 : n ≤ ms) (K : ml_J E g nL Q k n (pc + 3) ls (.int (if y < x then y else x) :: st) M) : ml_J E g nL Q k n (pc) ls (.int y :: .int x :: st) M := by
  obtain ⟨p, e, R, s, m, args, below, meth, c⟩ := E
  obtain ⟨⟨hx, hb, ht, ho, hm, hlk⟩, ⟨hK, ⟨M0, hD0⟩, hX, hz, htr⟩, ⟨hR1, hR2, hR3, hR4⟩, hret, htb⟩ := F
  have hD : va_D (ml_A g) (ml_wm g M) := ml_D_any hD0
  intro H locs la hP hS hl
  exact va_mmin hx hb (hm.trans hl.1.symm) ho (ht _ hlk2) (ht _ h1) (ht _ h2) (ht _ h3) (by omega) (by omega) (by omega) (by omega) hd (K H locs la hP hS hl)
theorem ml_abs {E : ml_E} {g : ml_G} {cc : ByteArray} {own : String} {nL lv mc ms : Nat} {ret : Option FieldType} {tb : List ExceptionTableEntry} {Q : State → Prop} {k n pc : Nat} {ls : List (Nat × Value)} {st : List Value} {M : ml_M} {x : Int32} {idx : Nat} (F : ml_F E g cc own nL lv mc ms ret tb) (hlk2 : Cond.methodLink own idx Lib.Math.abs.name ∈ ml_all) (h1 : Cond.static Lib.Math.abs.name ∈ ml_all) (h2 : Cond.initialized "java/lang/Math" ∈ ml_all) (h3 : Cond.code Lib.Math.abs.name Lib.Math.abs.code 1 (some .int) ∈ ml_all) (hd : decode cc pc = .ok (.invokestatic idx, 3)) (hst9 : (st.map fun v => v.category).sum ≤ 8) (hk : k ≤ mc) (hn2 : n ≤ ms) (K : ml_J E g nL Q k n (pc + 3) ls (.int (if 0 ≤ x then x else 0 - x) :: st) M) : ml_J E g nL Q k n (pc) ls (.int x :: st) M := by
  obtain ⟨p, e, R, s, m, args, below, meth, c⟩ := E
  obtain ⟨⟨hx, hb, ht, ho, hm, hlk⟩, ⟨hK, ⟨M0, hD0⟩, hX, hz, htr⟩, ⟨hR1, hR2, hR3, hR4⟩, hret, htb⟩ := F
  have hD : va_D (ml_A g) (ml_wm g M) := ml_D_any hD0
  intro H locs la hP hS hl
  exact va_mabs hx hb (hm.trans hl.1.symm) ho (ht _ hlk2) (ht _ h1) (ht _ h2) (ht _ h3) (by omega) (by omega) (by omega) (by omega) hd (K H locs la hP hS hl)
theorem ml_callN {E : ml_E} {g : ml_G} {cc : ByteArray} {own : String} {nL lv mc ms : Nat} {ret : Option FieldType} {k n pc : Nat} {ls : List (Nat × Value)} {st : List Value} {M : ml_M} {vl : Int32 → Option Value} {res : ml_R} {y : MethodName} {yc : ByteArray} {yn : Nat} {yr : Option FieldType} {lv2 mc2 ms2 z idx : Nat} {vl2 : Int32 → Option Value} {av : List Value} {x : Option ml_R} {B : Int32 → ml_M → Option ml_R} {stk : List Value} (F : ml_F E g cc own nL lv mc ms ret []) (h : ml_bd x B = some res) (hC : ∀ rs, x = some rs → ml_C y yc yn yr lv2 mc2 ms2 g vl2 av M rs) (W1 : ml_wc y yc yn yr) (hlk2 : Cond.methodLinkNest own idx y RX6 ∈ ml_nest) (hwd : ml_wd y z) (hlv : lv2 < lv) (hk : k + mc2 ≤ mc) (hn2 : n + ms2 ≤ ms) (hz2 : av.length = z) (hstt : Cond.static y ∈ ml_all) (hstk : stk = av.reverse ++ st) (hroom : (st.map fun v => v.category).sum ≤ 8) (hd : decode cc pc = .ok (.invokestatic idx, 3)) (K : ∀ (r9 : Int32) (M9 : ml_M), B r9 M9 = some res → ml_J E g nL (ml_Z E g vl res mc ms) (k + mc2) (n + ms2) (pc + 3) ls ((vl2 r9).toList ++ st) M9) : ml_J E g nL (ml_Z E g vl res mc ms) k n (pc) ls (stk) M := by
  obtain ⟨p, e, R, s, m, args, below, meth, c⟩ := E
  obtain ⟨⟨hx, hb, ht, ho, hm, hlk⟩, ⟨hK, ⟨M0, hD0⟩, hX, hz, htr⟩, ⟨hR1, hR2, hR3, hR4⟩, hret, htb⟩ := F
  have hD : va_D (ml_A g) (ml_wm g M) := ml_D_any hD0
  intro H locs la hP hS hl
  obtain ⟨rs, hx1, hx2, hx3⟩ := ml_bd_k h
  have h4 := W1.2.2
  refine ml_after (vx_runSN (As := av) (rest := st) (host := RX6) (Ts := ml_all) ⟨hx, hb, hm, ho, ht⟩ (hC rs hx1) ⟨va_cnB (R := R) z ht (ml_good W1.1) rfl rfl rfl (hX.2.1 _ hlk2) (ht _ W1.2.1) hwd ⟨by show 40 + lv2 + 1 ≤ _; omega, by show 8 + (yn + 11) + (800 + 64 * lv2) ≤ _; omega⟩, ht _ hstt, trivial⟩ ⟨ml_H_blind, fun U hU hW => ⟨rfl, ml_H_to hW hU hP hS hK hD0 hX hz⟩⟩ rfl hz2 hl.1 hstk (lv_room hroom) hd ⟨by omega, by omega⟩) hS htb hlk hk hn2 (fun r9 H1 locs1 h9 hP1 hS1 => K r9 rs.2 (hx2 r9 h9) H1 locs1 la hP1 hS1 hl) hx3
theorem ml_ct_fl {g : ml_G} {i o : Nat} (hi : i < 11) (ho : o < 15) (m : Nat → Int32) : ml_ct g (ml_fl i + o) m = ml_flk g (ml_fl i) o m := by
  unfold ml_ct ml_fl
  rw [if_neg (by omega), if_pos (by omega), show 16 + 15 * ((16 + 15 * i + o - 16) / 15) = 16 + 15 * i by omega, show (16 + 15 * i + o - 16) % 15 = o by omega]
theorem pc4 (g : ml_G) : ml_I g 4 1 60 := ⟨by decide, fun m => rfl⟩
theorem pc5 (g : ml_G) : ml_I g 5 0 60 := ⟨by decide, fun m => rfl⟩
theorem pc6 (g : ml_G) : ml_I g 6 0 60 := ⟨by decide, fun m => rfl⟩
theorem pc7 (g : ml_G) : ml_I g 7 0 60 := ⟨by decide, fun m => rfl⟩
theorem pc8 (g : ml_G) : ml_I g 8 0 60 := ⟨by decide, fun m => rfl⟩
theorem pc10 (g : ml_G) : ml_I g 10 4 16 := ⟨by decide, fun m => rfl⟩
theorem pc12 (g : ml_G) : ml_I g 12 0 960 := ⟨by decide, fun m => rfl⟩
theorem pc13 (g : ml_G) : ml_I g 13 1 40 := ⟨by decide, fun m => rfl⟩
theorem pc14 (g : ml_G) : ml_I g 14 1 60 := ⟨by decide, fun m => rfl⟩
theorem pc15 (g : ml_G) : ml_I g 15 0 244 := ⟨by decide, fun m => rfl⟩
theorem pc0 (g : ml_G) : ml_O g 0 10 (fun m => [ml_rf g (ml_fl 0), ml_rf g (ml_fl 1), ml_rf g (ml_fl 2), .int (m 3), ml_rf g 1, ml_rf g 3, ml_rf g 9, .int (m 7), .int (m 8)]) := ⟨by decide, fun m => rfl⟩
theorem pc1 (g : ml_G) : ml_O g 1 7 (fun m => [ml_rf g 2, .int (m 1), .int (m 2)]) := ⟨by decide, fun m => rfl⟩
theorem pc3 (g : ml_G) : ml_O g 3 8 (fun m => [ml_rf g 4, .int (m 1), .int (m 2), .int (m 3), .int (m 4), ml_rf g 5, ml_rf g 6, ml_rf g 7, ml_rf g 8]) := ⟨by decide, fun m => rfl⟩
theorem pc9 (g : ml_G) : ml_O g 9 1 (fun m => [ml_rf g 10, .int (m 1), .int (m 2), .int (m 3)]) := ⟨by decide, fun m => rfl⟩
theorem pc11 (g : ml_G) : ml_O g 11 11 (fun m => [.int (m 0), ml_rf g 12, .int (m 2), .int (m 3), .int (m 4), .int (m 5), ml_rf g 13, .int (m 7), ml_rf g 14, .int (m 9), .int (m 10), .int (m 11), .int (m 12), .int (m 13), ml_rf g 15, .int (m 15)]) := ⟨by decide, fun m => rfl⟩
theorem pf2 (g : ml_G) {i : Nat} (hi : i < 11) : ml_I g (ml_fl i + 2) 0 5 := ⟨by unfold ml_fl; omega, fun m => (ml_ct_fl hi (by decide) m).trans rfl⟩
theorem pf3 (g : ml_G) {i : Nat} (hi : i < 11) : ml_I g (ml_fl i + 3) 0 4 := ⟨by unfold ml_fl; omega, fun m => (ml_ct_fl hi (by decide) m).trans rfl⟩
theorem pf4 (g : ml_G) {i : Nat} (hi : i < 11) : ml_I g (ml_fl i + 4) 2 4 := ⟨by unfold ml_fl; omega, fun m => (ml_ct_fl hi (by decide) m).trans rfl⟩
theorem pf6 (g : ml_G) {i : Nat} (hi : i < 11) : ml_I g (ml_fl i + 6) 0 8 := ⟨by unfold ml_fl; omega, fun m => (ml_ct_fl hi (by decide) m).trans rfl⟩
theorem pf7 (g : ml_G) {i : Nat} (hi : i < 11) : ml_I g (ml_fl i + 7) 0 8 := ⟨by unfold ml_fl; omega, fun m => (ml_ct_fl hi (by decide) m).trans rfl⟩
theorem pf8 (g : ml_G) {i : Nat} (hi : i < 11) : ml_I g (ml_fl i + 8) 2 8 := ⟨by unfold ml_fl; omega, fun m => (ml_ct_fl hi (by decide) m).trans rfl⟩
theorem pf9 (g : ml_G) {i : Nat} (hi : i < 11) : ml_I g (ml_fl i + 9) 0 8 := ⟨by unfold ml_fl; omega, fun m => (ml_ct_fl hi (by decide) m).trans rfl⟩
theorem pf10 (g : ml_G) {i : Nat} (hi : i < 11) : ml_I g (ml_fl i + 10) 0 8 := ⟨by unfold ml_fl; omega, fun m => (ml_ct_fl hi (by decide) m).trans rfl⟩
theorem pf11 (g : ml_G) {i : Nat} (hi : i < 11) : ml_I g (ml_fl i + 11) 0 3 := ⟨by unfold ml_fl; omega, fun m => (ml_ct_fl hi (by decide) m).trans rfl⟩
theorem pf13 (g : ml_G) {i : Nat} (hi : i < 11) : ml_I g (ml_fl i + 13) 1 8 := ⟨by unfold ml_fl; omega, fun m => (ml_ct_fl hi (by decide) m).trans rfl⟩
theorem pf14 (g : ml_G) {i : Nat} (hi : i < 11) : ml_I g (ml_fl i + 14) 0 8 := ⟨by unfold ml_fl; omega, fun m => (ml_ct_fl hi (by decide) m).trans rfl⟩
theorem pf0 (g : ml_G) {i : Nat} (hi : i < 11) : ml_O g (ml_fl i) 6 (fun m => [ml_rf g (ml_fl i + 1), ml_rf g (ml_fl i + 5), ml_rf g (ml_fl i + 12), .int (m 3)]) := ⟨by unfold ml_fl; omega, fun m => (ml_ct_fl hi (o := 0) (by decide) m).trans rfl⟩
theorem pf1 (g : ml_G) {i : Nat} (hi : i < 11) : ml_O g ((ml_fl i + 1)) 9 (fun m => [ml_rf g (ml_fl i + 2), ml_rf g (ml_fl i + 3), ml_rf g (ml_fl i + 4), .int (m 3), .int (m 4), .int (m 5), .int (m 6), .int (m 7)]) := ⟨by unfold ml_fl; omega, fun m => (ml_ct_fl hi (o := 1) (by decide) m).trans rfl⟩
theorem pf5 (g : ml_G) {i : Nat} (hi : i < 11) : ml_O g ((ml_fl i + 5)) 5 (fun m => [.int (m 0), .int (m 1), ml_rf g (ml_fl i + 6), ml_rf g (ml_fl i + 7), ml_rf g (ml_fl i + 8), ml_rf g (ml_fl i + 9), ml_rf g (ml_fl i + 10), ml_rf g (ml_fl i + 11)]) := ⟨by unfold ml_fl; omega, fun m => (ml_ct_fl hi (o := 5) (by decide) m).trans rfl⟩
theorem pf12 (g : ml_G) {i : Nat} (hi : i < 11) : ml_O g ((ml_fl i + 12)) 4 (fun m => [ml_rf g (ml_fl i + 13), ml_rf g (ml_fl i + 14), .int (m 2), .int (m 3)]) := ⟨by unfold ml_fl; omega, fun m => (ml_ct_fl hi (o := 12) (by decide) m).trans rfl⟩
theorem iaX0 : ∀ w ∈ u_ws RX0 TX0 4, w ∈ ml_all := by decide +kernel
theorem iaX1 : ∀ w ∈ u_ws RX1 TX1 8, w ∈ ml_all := by decide +kernel
theorem iaX2 : ∀ w ∈ u_ws RX2 TX2 4, w ∈ ml_all := by decide +kernel
theorem iaX3 : ∀ w ∈ u_ws RX3 TX3 3, w ∈ ml_all := by decide +kernel
theorem iaX4 : ∀ w ∈ u_ws RX4 TX4 9, w ∈ ml_all := by decide +kernel
theorem iaX5 : ∀ w ∈ u_ws RX5 TX5 8, w ∈ ml_all := by decide +kernel
theorem iaX6 : ∀ w ∈ u_ws RX6 TX6 9, w ∈ ml_all := by decide +kernel
theorem iaX7 : ∀ w ∈ u_ws RX7 TX7 16, w ∈ ml_all := by decide +kernel
theorem iaJ4 : ∀ w ∈ u_ws RJ4 TJ4 4, w ∈ ml_all := by decide +kernel
theorem ml_throw4 {E : ml_E} {g : ml_G} {cc : ByteArray} {nL lv mc ms : Nat} {ret : Option FieldType} {k n pc : Nat} {ls : List (Nat × Value)} {st : List Value} {M : ml_M} {vl : Int32 → Option Value} {res : ml_R} {is : Nat} {text : String} (F : ml_F E g cc RX6 nL lv mc ms ret []) (h : ((Sum.inr 4, M) : ml_R) = res) (htx : (is, text) ∈ ml_txt) (hst : (st.map fun v => v.category).sum ≤ 8) (hk : k + 1 ≤ mc) (hn2 : n + 6 ≤ ms) (d0 : decode cc pc = .ok (.new 131, 3)) (d3 : decode cc (pc + 3) = .ok (.dup, 1)) (d4 : decode cc (pc + 4) = .ok (.ldc is, 2)) (d6 : decode cc (pc + 6) = .ok (.invokespecial 135, 3)) (d9 : decode cc (pc + 9) = .ok (.athrow, 1)) : ml_J E g nL (ml_Z E g vl res mc ms) k n (pc) ls (st) M := by
  sorry
theorem ml_throw4W {E : ml_E} {g : ml_G} {cc : ByteArray} {nL lv mc ms : Nat} {ret : Option FieldType} {k n pc : Nat} {ls : List (Nat × Value)} {st : List Value} {M : ml_M} {vl : Int32 → Option Value} {res : ml_R} {is : Nat} {text : String} (F : ml_F E g cc RX6 nL lv mc ms ret []) (h : ((Sum.inr 4, M) : ml_R) = res) (htx : (is, text) ∈ ml_txt) (hst : (st.map fun v => v.category).sum ≤ 8) (hk : k + 1 ≤ mc) (hn2 : n + 6 ≤ ms) (d0 : decode cc pc = .ok (.new 131, 3)) (d3 : decode cc (pc + 3) = .ok (.dup, 1)) (d4 : decode cc (pc + 4) = .ok (.ldc_w is, 3)) (d6 : decode cc (pc + 7) = .ok (.invokespecial 135, 3)) (d9 : decode cc (pc + 10) = .ok (.athrow, 1)) : ml_J E g nL (ml_Z E g vl res mc ms) k n (pc) ls (st) M := by
  sorry
end
