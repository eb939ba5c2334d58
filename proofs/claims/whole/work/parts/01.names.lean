-- ===== PART A: goes FIRST, ahead of the names: the tables' words, and 'selects' of the private methods out of them =====
/-- a private method of a class that the tables say can be made, by its rows of tables_1 -/
def lw_okq (q : MethodName × Nat) : Prop := (q.1.cls ≠ "java/lang/invoke/MethodHandle" ∧ q.1.cls ≠ "java/lang/invoke/VarHandle") ∧ Cond.instantiable q.1.cls q.2 ∈ tables_1 ∧ Cond.privateMethod q.1 ∈ tables_1 ∧ Cond.instanceMethod q.1 ∈ tables_1
theorem lw_p0 : lw_okq (⟨"TrollBridges$Ways", "reachByLands", "(I)V"⟩, 6) := ⟨⟨by decide +kernel, by decide +kernel⟩, List.mem_of_getElem? (i := 98) (by decide +kernel), List.mem_of_getElem? (i := 351) (by decide +kernel), List.mem_of_getElem? (i := 352) (by decide +kernel)⟩
theorem lw_p1 : lw_okq (⟨"TrollBridges$Ways", "nearestToLeave", "()I"⟩, 6) := ⟨⟨by decide +kernel, by decide +kernel⟩, List.mem_of_getElem? (i := 98) (by decide +kernel), List.mem_of_getElem? (i := 359) (by decide +kernel), List.mem_of_getElem? (i := 360) (by decide +kernel)⟩
theorem lw_p2 : lw_okq (⟨"TrollBridges$Ways", "reachByBridges", "(I)V"⟩, 6) := ⟨⟨by decide +kernel, by decide +kernel⟩, List.mem_of_getElem? (i := 98) (by decide +kernel), List.mem_of_getElem? (i := 371) (by decide +kernel), List.mem_of_getElem? (i := 372) (by decide +kernel)⟩
theorem lw_p3 : lw_okq (⟨"java/lang/Throwable", "fillInStackTrace", "(I)Ljava/lang/Throwable;"⟩, 6) := ⟨⟨by decide +kernel, by decide +kernel⟩, List.mem_of_getElem? (i := 429) (by decide +kernel), List.mem_of_getElem? (i := 427) (by decide +kernel), List.mem_of_getElem? (i := 428) (by decide +kernel)⟩
theorem lw_p4 : lw_okq (⟨"TrollBridges", "conclude", "(LTrollBridges$Verdict;)I"⟩, 11) := ⟨⟨by decide +kernel, by decide +kernel⟩, List.mem_of_getElem? (i := 29) (by decide +kernel), List.mem_of_getElem? (i := 523) (by decide +kernel), List.mem_of_getElem? (i := 524) (by decide +kernel)⟩
theorem lw_p5 : lw_okq (⟨"TrollBridges$Changes", "payToll", "(III)V"⟩, 2) := ⟨⟨by decide +kernel, by decide +kernel⟩, List.mem_of_getElem? (i := 61) (by decide +kernel), List.mem_of_getElem? (i := 706) (by decide +kernel), List.mem_of_getElem? (i := 707) (by decide +kernel)⟩
theorem lw_p6 : lw_okq (⟨"TrollBridges$Changes", "addToGoat", "(III)V"⟩, 2) := ⟨⟨by decide +kernel, by decide +kernel⟩, List.mem_of_getElem? (i := 61) (by decide +kernel), List.mem_of_getElem? (i := 710) (by decide +kernel), List.mem_of_getElem? (i := 711) (by decide +kernel)⟩
theorem lw_p7 : lw_okq (⟨"TrollBridges$Changes", "addToBridge", "(III)V"⟩, 2) := ⟨⟨by decide +kernel, by decide +kernel⟩, List.mem_of_getElem? (i := 61) (by decide +kernel), List.mem_of_getElem? (i := 714) (by decide +kernel), List.mem_of_getElem? (i := 715) (by decide +kernel)⟩
theorem lw_p8 : lw_okq (⟨"TrollBridges$Changes", "addToTroll", "(III)V"⟩, 2) := ⟨⟨by decide +kernel, by decide +kernel⟩, List.mem_of_getElem? (i := 61) (by decide +kernel), List.mem_of_getElem? (i := 718) (by decide +kernel), List.mem_of_getElem? (i := 719) (by decide +kernel)⟩
theorem lw_p9 : lw_okq (⟨"TrollBridges$Changes", "emptyChest", "(IZ)V"⟩, 2) := ⟨⟨by decide +kernel, by decide +kernel⟩, List.mem_of_getElem? (i := 61) (by decide +kernel), List.mem_of_getElem? (i := 751) (by decide +kernel), List.mem_of_getElem? (i := 752) (by decide +kernel)⟩
theorem lw_p10 : lw_okq (⟨"TrollBridges", "needBridge", "(I)V"⟩, 11) := ⟨⟨by decide +kernel, by decide +kernel⟩, List.mem_of_getElem? (i := 29) (by decide +kernel), List.mem_of_getElem? (i := 790) (by decide +kernel), List.mem_of_getElem? (i := 791) (by decide +kernel)⟩
theorem lw_p11 : lw_okq (⟨"TrollBridges$Ways", "leadsFastest", "(II)Z"⟩, 6) := ⟨⟨by decide +kernel, by decide +kernel⟩, List.mem_of_getElem? (i := 98) (by decide +kernel), List.mem_of_getElem? (i := 917) (by decide +kernel), List.mem_of_getElem? (i := 918) (by decide +kernel)⟩
theorem lw_p12 : lw_okq (⟨"TrollBridges$World", "isRicher", "(II)Z"⟩, 1) := ⟨⟨by decide +kernel, by decide +kernel⟩, List.mem_of_getElem? (i := 37) (by decide +kernel), List.mem_of_getElem? (i := 932) (by decide +kernel), List.mem_of_getElem? (i := 933) (by decide +kernel)⟩
theorem lw_p13 : lw_okq (⟨"TrollBridges$World", "crossedAt", "(I)I"⟩, 1) := ⟨⟨by decide +kernel, by decide +kernel⟩, List.mem_of_getElem? (i := 37) (by decide +kernel), List.mem_of_getElem? (i := 936) (by decide +kernel), List.mem_of_getElem? (i := 937) (by decide +kernel)⟩
theorem lw_p14 : lw_okq (⟨"TrollBridges$World", "isMoreTired", "(II)Z"⟩, 1) := ⟨⟨by decide +kernel, by decide +kernel⟩, List.mem_of_getElem? (i := 37) (by decide +kernel), List.mem_of_getElem? (i := 952) (by decide +kernel), List.mem_of_getElem? (i := 953) (by decide +kernel)⟩
theorem lw_p15 : lw_okq (⟨"TrollBridges$World", "earlierEnd", "(II)I"⟩, 1) := ⟨⟨by decide +kernel, by decide +kernel⟩, List.mem_of_getElem? (i := 37) (by decide +kernel), List.mem_of_getElem? (i := 968) (by decide +kernel), List.mem_of_getElem? (i := 969) (by decide +kernel)⟩
def lw_privs_1 : List (MethodName × Nat) := [(⟨"TrollBridges$Ways", "reachByLands", "(I)V"⟩, 6), (⟨"TrollBridges$Ways", "nearestToLeave", "()I"⟩, 6), (⟨"TrollBridges$Ways", "reachByBridges", "(I)V"⟩, 6), (⟨"java/lang/Throwable", "fillInStackTrace", "(I)Ljava/lang/Throwable;"⟩, 6), (⟨"TrollBridges", "conclude", "(LTrollBridges$Verdict;)I"⟩, 11), (⟨"TrollBridges$Changes", "payToll", "(III)V"⟩, 2), (⟨"TrollBridges$Changes", "addToGoat", "(III)V"⟩, 2), (⟨"TrollBridges$Changes", "addToBridge", "(III)V"⟩, 2), (⟨"TrollBridges$Changes", "addToTroll", "(III)V"⟩, 2), (⟨"TrollBridges$Changes", "emptyChest", "(IZ)V"⟩, 2), (⟨"TrollBridges", "needBridge", "(I)V"⟩, 11), (⟨"TrollBridges$Ways", "leadsFastest", "(II)Z"⟩, 6), (⟨"TrollBridges$World", "isRicher", "(II)Z"⟩, 1), (⟨"TrollBridges$World", "crossedAt", "(I)I"⟩, 1), (⟨"TrollBridges$World", "isMoreTired", "(II)Z"⟩, 1), (⟨"TrollBridges$World", "earlierEnd", "(II)I"⟩, 1)]
theorem lw_r1 : ∀ q ∈ lw_privs_1, lw_okq q := List.forall_mem_cons.mpr ⟨lw_p0, List.forall_mem_cons.mpr ⟨lw_p1, List.forall_mem_cons.mpr ⟨lw_p2, List.forall_mem_cons.mpr ⟨lw_p3, List.forall_mem_cons.mpr ⟨lw_p4, List.forall_mem_cons.mpr ⟨lw_p5, List.forall_mem_cons.mpr ⟨lw_p6, List.forall_mem_cons.mpr ⟨lw_p7, List.forall_mem_cons.mpr ⟨lw_p8, List.forall_mem_cons.mpr ⟨lw_p9, List.forall_mem_cons.mpr ⟨lw_p10, List.forall_mem_cons.mpr ⟨lw_p11, List.forall_mem_cons.mpr ⟨lw_p12, List.forall_mem_cons.mpr ⟨lw_p13, List.forall_mem_cons.mpr ⟨lw_p14, List.forall_mem_cons.mpr ⟨lw_p15, fun _ h => absurd h List.not_mem_nil⟩⟩⟩⟩⟩⟩⟩⟩⟩⟩⟩⟩⟩⟩⟩⟩
theorem lw_p16 : lw_okq (⟨"TrollBridges$Commands", "parseCommand", "()Z"⟩, 6) := ⟨⟨by decide +kernel, by decide +kernel⟩, List.mem_of_getElem? (i := 163) (by decide +kernel), List.mem_of_getElem? (i := 1017) (by decide +kernel), List.mem_of_getElem? (i := 1018) (by decide +kernel)⟩
theorem lw_p17 : lw_okq (⟨"TrollBridges$Commands", "matches", "(Ljava/lang/String;)Z"⟩, 6) := ⟨⟨by decide +kernel, by decide +kernel⟩, List.mem_of_getElem? (i := 163) (by decide +kernel), List.mem_of_getElem? (i := 1037) (by decide +kernel), List.mem_of_getElem? (i := 1038) (by decide +kernel)⟩
theorem lw_p18 : lw_okq (⟨"TrollBridges$Commands", "valueAt", "(II)I"⟩, 6) := ⟨⟨by decide +kernel, by decide +kernel⟩, List.mem_of_getElem? (i := 163) (by decide +kernel), List.mem_of_getElem? (i := 1101) (by decide +kernel), List.mem_of_getElem? (i := 1102) (by decide +kernel)⟩
theorem lw_p19 : lw_okq (⟨"TrollBridgesModel", "keeps", "()V"⟩, 21) := ⟨⟨by decide +kernel, by decide +kernel⟩, List.mem_of_getElem? (i := 1316) (by decide +kernel), List.mem_of_getElem? (i := 1394) (by decide +kernel), List.mem_of_getElem? (i := 1395) (by decide +kernel)⟩
theorem lw_p20 : lw_okq (⟨"TrollBridgesModel", "builds", "(IIII)I"⟩, 21) := ⟨⟨by decide +kernel, by decide +kernel⟩, List.mem_of_getElem? (i := 1316) (by decide +kernel), List.mem_of_getElem? (i := 1401) (by decide +kernel), List.mem_of_getElem? (i := 1402) (by decide +kernel)⟩
theorem lw_p21 : lw_okq (⟨"TrollBridgesModel", "isThrown", "(ZI)Z"⟩, 21) := ⟨⟨by decide +kernel, by decide +kernel⟩, List.mem_of_getElem? (i := 1316) (by decide +kernel), List.mem_of_getElem? (i := 1411) (by decide +kernel), List.mem_of_getElem? (i := 1412) (by decide +kernel)⟩
theorem lw_p22 : lw_okq (⟨"TrollBridgesModel", "isRefused", "(ZII)Z"⟩, 21) := ⟨⟨by decide +kernel, by decide +kernel⟩, List.mem_of_getElem? (i := 1316) (by decide +kernel), List.mem_of_getElem? (i := 1415) (by decide +kernel), List.mem_of_getElem? (i := 1416) (by decide +kernel)⟩
theorem lw_p23 : lw_okq (⟨"TrollBridgesModel", "sets", "(III)V"⟩, 21) := ⟨⟨by decide +kernel, by decide +kernel⟩, List.mem_of_getElem? (i := 1316) (by decide +kernel), List.mem_of_getElem? (i := 1419) (by decide +kernel), List.mem_of_getElem? (i := 1420) (by decide +kernel)⟩
theorem lw_p24 : lw_okq (⟨"TrollBridgesModel", "ends", "(II)I"⟩, 21) := ⟨⟨by decide +kernel, by decide +kernel⟩, List.mem_of_getElem? (i := 1316) (by decide +kernel), List.mem_of_getElem? (i := 1423) (by decide +kernel), List.mem_of_getElem? (i := 1424) (by decide +kernel)⟩
theorem lw_p25 : lw_okq (⟨"TrollBridgesModel", "changed", "()V"⟩, 21) := ⟨⟨by decide +kernel, by decide +kernel⟩, List.mem_of_getElem? (i := 1316) (by decide +kernel), List.mem_of_getElem? (i := 1427) (by decide +kernel), List.mem_of_getElem? (i := 1428) (by decide +kernel)⟩
theorem lw_p26 : lw_okq (⟨"TrollBridgesModel", "trolls", "()I"⟩, 21) := ⟨⟨by decide +kernel, by decide +kernel⟩, List.mem_of_getElem? (i := 1316) (by decide +kernel), List.mem_of_getElem? (i := 1435) (by decide +kernel), List.mem_of_getElem? (i := 1436) (by decide +kernel)⟩
theorem lw_p27 : lw_okq (⟨"TrollBridgesModel", "setsTroll", "(III)V"⟩, 21) := ⟨⟨by decide +kernel, by decide +kernel⟩, List.mem_of_getElem? (i := 1316) (by decide +kernel), List.mem_of_getElem? (i := 1439) (by decide +kernel), List.mem_of_getElem? (i := 1440) (by decide +kernel)⟩
theorem lw_p28 : lw_okq (⟨"TrollBridgesModel", "goats", "(II)I"⟩, 21) := ⟨⟨by decide +kernel, by decide +kernel⟩, List.mem_of_getElem? (i := 1316) (by decide +kernel), List.mem_of_getElem? (i := 1447) (by decide +kernel), List.mem_of_getElem? (i := 1448) (by decide +kernel)⟩
theorem lw_p29 : lw_okq (⟨"TrollBridgesModel", "setsGoat", "(III)V"⟩, 21) := ⟨⟨by decide +kernel, by decide +kernel⟩, List.mem_of_getElem? (i := 1316) (by decide +kernel), List.mem_of_getElem? (i := 1451) (by decide +kernel), List.mem_of_getElem? (i := 1452) (by decide +kernel)⟩
theorem lw_p30 : lw_okq (⟨"TrollBridgesModel", "posts", "(II)I"⟩, 21) := ⟨⟨by decide +kernel, by decide +kernel⟩, List.mem_of_getElem? (i := 1316) (by decide +kernel), List.mem_of_getElem? (i := 1459) (by decide +kernel), List.mem_of_getElem? (i := 1460) (by decide +kernel)⟩
theorem lw_p31 : lw_okq (⟨"TrollBridgesModel", "isTroll", "(I)Z"⟩, 21) := ⟨⟨by decide +kernel, by decide +kernel⟩, List.mem_of_getElem? (i := 1316) (by decide +kernel), List.mem_of_getElem? (i := 1463) (by decide +kernel), List.mem_of_getElem? (i := 1464) (by decide +kernel)⟩
def lw_privs_2 : List (MethodName × Nat) := [(⟨"TrollBridges$Commands", "parseCommand", "()Z"⟩, 6), (⟨"TrollBridges$Commands", "matches", "(Ljava/lang/String;)Z"⟩, 6), (⟨"TrollBridges$Commands", "valueAt", "(II)I"⟩, 6), (⟨"TrollBridgesModel", "keeps", "()V"⟩, 21), (⟨"TrollBridgesModel", "builds", "(IIII)I"⟩, 21), (⟨"TrollBridgesModel", "isThrown", "(ZI)Z"⟩, 21), (⟨"TrollBridgesModel", "isRefused", "(ZII)Z"⟩, 21), (⟨"TrollBridgesModel", "sets", "(III)V"⟩, 21), (⟨"TrollBridgesModel", "ends", "(II)I"⟩, 21), (⟨"TrollBridgesModel", "changed", "()V"⟩, 21), (⟨"TrollBridgesModel", "trolls", "()I"⟩, 21), (⟨"TrollBridgesModel", "setsTroll", "(III)V"⟩, 21), (⟨"TrollBridgesModel", "goats", "(II)I"⟩, 21), (⟨"TrollBridgesModel", "setsGoat", "(III)V"⟩, 21), (⟨"TrollBridgesModel", "posts", "(II)I"⟩, 21), (⟨"TrollBridgesModel", "isTroll", "(I)Z"⟩, 21)]
theorem lw_r2 : ∀ q ∈ lw_privs_2, lw_okq q := List.forall_mem_cons.mpr ⟨lw_p16, List.forall_mem_cons.mpr ⟨lw_p17, List.forall_mem_cons.mpr ⟨lw_p18, List.forall_mem_cons.mpr ⟨lw_p19, List.forall_mem_cons.mpr ⟨lw_p20, List.forall_mem_cons.mpr ⟨lw_p21, List.forall_mem_cons.mpr ⟨lw_p22, List.forall_mem_cons.mpr ⟨lw_p23, List.forall_mem_cons.mpr ⟨lw_p24, List.forall_mem_cons.mpr ⟨lw_p25, List.forall_mem_cons.mpr ⟨lw_p26, List.forall_mem_cons.mpr ⟨lw_p27, List.forall_mem_cons.mpr ⟨lw_p28, List.forall_mem_cons.mpr ⟨lw_p29, List.forall_mem_cons.mpr ⟨lw_p30, List.forall_mem_cons.mpr ⟨lw_p31, fun _ h => absurd h List.not_mem_nil⟩⟩⟩⟩⟩⟩⟩⟩⟩⟩⟩⟩⟩⟩⟩⟩
theorem lw_p32 : lw_okq (⟨"TrollBridgesModel", "isBridge", "(I)Z"⟩, 21) := ⟨⟨by decide +kernel, by decide +kernel⟩, List.mem_of_getElem? (i := 1316) (by decide +kernel), List.mem_of_getElem? (i := 1467) (by decide +kernel), List.mem_of_getElem? (i := 1468) (by decide +kernel)⟩
theorem lw_p33 : lw_okq (⟨"TrollBridgesModel", "ofTroll", "(II)I"⟩, 21) := ⟨⟨by decide +kernel, by decide +kernel⟩, List.mem_of_getElem? (i := 1316) (by decide +kernel), List.mem_of_getElem? (i := 1471) (by decide +kernel), List.mem_of_getElem? (i := 1472) (by decide +kernel)⟩
theorem lw_p34 : lw_okq (⟨"TrollBridgesModel", "isDisputed", "(I)Z"⟩, 21) := ⟨⟨by decide +kernel, by decide +kernel⟩, List.mem_of_getElem? (i := 1316) (by decide +kernel), List.mem_of_getElem? (i := 1475) (by decide +kernel), List.mem_of_getElem? (i := 1476) (by decide +kernel)⟩
theorem lw_p35 : lw_okq (⟨"TrollBridgesModel", "of", "(II)I"⟩, 21) := ⟨⟨by decide +kernel, by decide +kernel⟩, List.mem_of_getElem? (i := 1316) (by decide +kernel), List.mem_of_getElem? (i := 1479) (by decide +kernel), List.mem_of_getElem? (i := 1480) (by decide +kernel)⟩
theorem lw_p36 : lw_okq (⟨"TrollBridgesModel", "trollAt", "(I)I"⟩, 21) := ⟨⟨by decide +kernel, by decide +kernel⟩, List.mem_of_getElem? (i := 1316) (by decide +kernel), List.mem_of_getElem? (i := 1483) (by decide +kernel), List.mem_of_getElem? (i := 1484) (by decide +kernel)⟩
theorem lw_p37 : lw_okq (⟨"TrollBridgesModel", "leaves", "(I)I"⟩, 21) := ⟨⟨by decide +kernel, by decide +kernel⟩, List.mem_of_getElem? (i := 1316) (by decide +kernel), List.mem_of_getElem? (i := 1491) (by decide +kernel), List.mem_of_getElem? (i := 1492) (by decide +kernel)⟩
theorem lw_p38 : lw_okq (⟨"TrollBridgesModel", "riddles", "(III)I"⟩, 21) := ⟨⟨by decide +kernel, by decide +kernel⟩, List.mem_of_getElem? (i := 1316) (by decide +kernel), List.mem_of_getElem? (i := 1499) (by decide +kernel), List.mem_of_getElem? (i := 1500) (by decide +kernel)⟩
theorem lw_p39 : lw_okq (⟨"TrollBridgesModel", "holds", "(I)Z"⟩, 21) := ⟨⟨by decide +kernel, by decide +kernel⟩, List.mem_of_getElem? (i := 1316) (by decide +kernel), List.mem_of_getElem? (i := 1503) (by decide +kernel), List.mem_of_getElem? (i := 1504) (by decide +kernel)⟩
theorem lw_p40 : lw_okq (⟨"TrollBridgesModel", "fogs", "(II)I"⟩, 21) := ⟨⟨by decide +kernel, by decide +kernel⟩, List.mem_of_getElem? (i := 1316) (by decide +kernel), List.mem_of_getElem? (i := 1511) (by decide +kernel), List.mem_of_getElem? (i := 1512) (by decide +kernel)⟩
theorem lw_p41 : lw_okq (⟨"TrollBridgesModel", "isInFog", "(I)Z"⟩, 21) := ⟨⟨by decide +kernel, by decide +kernel⟩, List.mem_of_getElem? (i := 1316) (by decide +kernel), List.mem_of_getElem? (i := 1515) (by decide +kernel), List.mem_of_getElem? (i := 1516) (by decide +kernel)⟩
theorem lw_p42 : lw_okq (⟨"TrollBridgesModel", "prices", "(II)I"⟩, 21) := ⟨⟨by decide +kernel, by decide +kernel⟩, List.mem_of_getElem? (i := 1316) (by decide +kernel), List.mem_of_getElem? (i := 1523) (by decide +kernel), List.mem_of_getElem? (i := 1524) (by decide +kernel)⟩
theorem lw_p43 : lw_okq (⟨"TrollBridgesModel", "crosses", "(II)I"⟩, 21) := ⟨⟨by decide +kernel, by decide +kernel⟩, List.mem_of_getElem? (i := 1316) (by decide +kernel), List.mem_of_getElem? (i := 1531) (by decide +kernel), List.mem_of_getElem? (i := 1532) (by decide +kernel)⟩
theorem lw_p44 : lw_okq (⟨"TrollBridgesModel", "isGoat", "(I)Z"⟩, 21) := ⟨⟨by decide +kernel, by decide +kernel⟩, List.mem_of_getElem? (i := 1316) (by decide +kernel), List.mem_of_getElem? (i := 1535) (by decide +kernel), List.mem_of_getElem? (i := 1536) (by decide +kernel)⟩
theorem lw_p45 : lw_okq (⟨"TrollBridgesModel", "ofGoat", "(II)I"⟩, 21) := ⟨⟨by decide +kernel, by decide +kernel⟩, List.mem_of_getElem? (i := 1316) (by decide +kernel), List.mem_of_getElem? (i := 1539) (by decide +kernel), List.mem_of_getElem? (i := 1540) (by decide +kernel)⟩
theorem lw_p46 : lw_okq (⟨"TrollBridgesModel", "dueAt", "(I)I"⟩, 21) := ⟨⟨by decide +kernel, by decide +kernel⟩, List.mem_of_getElem? (i := 1316) (by decide +kernel), List.mem_of_getElem? (i := 1543) (by decide +kernel), List.mem_of_getElem? (i := 1544) (by decide +kernel)⟩
theorem lw_p47 : lw_okq (⟨"TrollBridgesModel", "isGeneralNow", "()Z"⟩, 21) := ⟨⟨by decide +kernel, by decide +kernel⟩, List.mem_of_getElem? (i := 1316) (by decide +kernel), List.mem_of_getElem? (i := 1547) (by decide +kernel), List.mem_of_getElem? (i := 1548) (by decide +kernel)⟩
def lw_privs_3 : List (MethodName × Nat) := [(⟨"TrollBridgesModel", "isBridge", "(I)Z"⟩, 21), (⟨"TrollBridgesModel", "ofTroll", "(II)I"⟩, 21), (⟨"TrollBridgesModel", "isDisputed", "(I)Z"⟩, 21), (⟨"TrollBridgesModel", "of", "(II)I"⟩, 21), (⟨"TrollBridgesModel", "trollAt", "(I)I"⟩, 21), (⟨"TrollBridgesModel", "leaves", "(I)I"⟩, 21), (⟨"TrollBridgesModel", "riddles", "(III)I"⟩, 21), (⟨"TrollBridgesModel", "holds", "(I)Z"⟩, 21), (⟨"TrollBridgesModel", "fogs", "(II)I"⟩, 21), (⟨"TrollBridgesModel", "isInFog", "(I)Z"⟩, 21), (⟨"TrollBridgesModel", "prices", "(II)I"⟩, 21), (⟨"TrollBridgesModel", "crosses", "(II)I"⟩, 21), (⟨"TrollBridgesModel", "isGoat", "(I)Z"⟩, 21), (⟨"TrollBridgesModel", "ofGoat", "(II)I"⟩, 21), (⟨"TrollBridgesModel", "dueAt", "(I)I"⟩, 21), (⟨"TrollBridgesModel", "isGeneralNow", "()Z"⟩, 21)]
theorem lw_r3 : ∀ q ∈ lw_privs_3, lw_okq q := List.forall_mem_cons.mpr ⟨lw_p32, List.forall_mem_cons.mpr ⟨lw_p33, List.forall_mem_cons.mpr ⟨lw_p34, List.forall_mem_cons.mpr ⟨lw_p35, List.forall_mem_cons.mpr ⟨lw_p36, List.forall_mem_cons.mpr ⟨lw_p37, List.forall_mem_cons.mpr ⟨lw_p38, List.forall_mem_cons.mpr ⟨lw_p39, List.forall_mem_cons.mpr ⟨lw_p40, List.forall_mem_cons.mpr ⟨lw_p41, List.forall_mem_cons.mpr ⟨lw_p42, List.forall_mem_cons.mpr ⟨lw_p43, List.forall_mem_cons.mpr ⟨lw_p44, List.forall_mem_cons.mpr ⟨lw_p45, List.forall_mem_cons.mpr ⟨lw_p46, List.forall_mem_cons.mpr ⟨lw_p47, fun _ h => absurd h List.not_mem_nil⟩⟩⟩⟩⟩⟩⟩⟩⟩⟩⟩⟩⟩⟩⟩⟩
theorem lw_p48 : lw_okq (⟨"TrollBridgesModel", "strikers", "()I"⟩, 21) := ⟨⟨by decide +kernel, by decide +kernel⟩, List.mem_of_getElem? (i := 1316) (by decide +kernel), List.mem_of_getElem? (i := 1551) (by decide +kernel), List.mem_of_getElem? (i := 1552) (by decide +kernel)⟩
theorem lw_p49 : lw_okq (⟨"TrollBridgesModel", "takesAt", "(I)I"⟩, 21) := ⟨⟨by decide +kernel, by decide +kernel⟩, List.mem_of_getElem? (i := 1316) (by decide +kernel), List.mem_of_getElem? (i := 1555) (by decide +kernel), List.mem_of_getElem? (i := 1556) (by decide +kernel)⟩
theorem lw_p50 : lw_okq (⟨"TrollBridgesModel", "pays", "(III)V"⟩, 21) := ⟨⟨by decide +kernel, by decide +kernel⟩, List.mem_of_getElem? (i := 1316) (by decide +kernel), List.mem_of_getElem? (i := 1559) (by decide +kernel), List.mem_of_getElem? (i := 1560) (by decide +kernel)⟩
theorem lw_p51 : lw_okq (⟨"TrollBridgesModel", "disputesAt", "(II)I"⟩, 21) := ⟨⟨by decide +kernel, by decide +kernel⟩, List.mem_of_getElem? (i := 1316) (by decide +kernel), List.mem_of_getElem? (i := 1567) (by decide +kernel), List.mem_of_getElem? (i := 1568) (by decide +kernel)⟩
theorem lw_p52 : lw_okq (⟨"TrollBridgesModel", "disputes", "()I"⟩, 21) := ⟨⟨by decide +kernel, by decide +kernel⟩, List.mem_of_getElem? (i := 1316) (by decide +kernel), List.mem_of_getElem? (i := 1571) (by decide +kernel), List.mem_of_getElem? (i := 1572) (by decide +kernel)⟩
theorem lw_p53 : lw_okq (⟨"TrollBridgesModel", "settles", "(II)I"⟩, 21) := ⟨⟨by decide +kernel, by decide +kernel⟩, List.mem_of_getElem? (i := 1316) (by decide +kernel), List.mem_of_getElem? (i := 1579) (by decide +kernel), List.mem_of_getElem? (i := 1580) (by decide +kernel)⟩
theorem lw_p54 : lw_okq (⟨"TrollBridgesModel", "chest", "(I)I"⟩, 21) := ⟨⟨by decide +kernel, by decide +kernel⟩, List.mem_of_getElem? (i := 1316) (by decide +kernel), List.mem_of_getElem? (i := 1583) (by decide +kernel), List.mem_of_getElem? (i := 1584) (by decide +kernel)⟩
theorem lw_p55 : lw_okq (⟨"TrollBridgesModel", "strikes", "(II)I"⟩, 21) := ⟨⟨by decide +kernel, by decide +kernel⟩, List.mem_of_getElem? (i := 1316) (by decide +kernel), List.mem_of_getElem? (i := 1591) (by decide +kernel), List.mem_of_getElem? (i := 1592) (by decide +kernel)⟩
theorem lw_p56 : lw_okq (⟨"TrollBridgesModel", "passes", "(I)I"⟩, 21) := ⟨⟨by decide +kernel, by decide +kernel⟩, List.mem_of_getElem? (i := 1316) (by decide +kernel), List.mem_of_getElem? (i := 1599) (by decide +kernel), List.mem_of_getElem? (i := 1600) (by decide +kernel)⟩
theorem lw_p57 : lw_okq (⟨"TrollBridgesModel", "holding", "()I"⟩, 21) := ⟨⟨by decide +kernel, by decide +kernel⟩, List.mem_of_getElem? (i := 1316) (by decide +kernel), List.mem_of_getElem? (i := 1603) (by decide +kernel), List.mem_of_getElem? (i := 1604) (by decide +kernel)⟩
theorem lw_p58 : lw_okq (⟨"TrollBridgesModel", "inChests", "(I)I"⟩, 21) := ⟨⟨by decide +kernel, by decide +kernel⟩, List.mem_of_getElem? (i := 1316) (by decide +kernel), List.mem_of_getElem? (i := 1619) (by decide +kernel), List.mem_of_getElem? (i := 1620) (by decide +kernel)⟩
theorem lw_p59 : lw_okq (⟨"TrollBridgesModel", "way", "(IIZ)I"⟩, 21) := ⟨⟨by decide +kernel, by decide +kernel⟩, List.mem_of_getElem? (i := 1316) (by decide +kernel), List.mem_of_getElem? (i := 1635) (by decide +kernel), List.mem_of_getElem? (i := 1636) (by decide +kernel)⟩
theorem lw_p60 : lw_okq (⟨"TrollBridgesModel", "goesFrom", "(IZ)V"⟩, 21) := ⟨⟨by decide +kernel, by decide +kernel⟩, List.mem_of_getElem? (i := 1316) (by decide +kernel), List.mem_of_getElem? (i := 1639) (by decide +kernel), List.mem_of_getElem? (i := 1640) (by decide +kernel)⟩
theorem lw_p61 : lw_okq (⟨"TrollBridgesModel", "isLower", "(III)Z"⟩, 21) := ⟨⟨by decide +kernel, by decide +kernel⟩, List.mem_of_getElem? (i := 1316) (by decide +kernel), List.mem_of_getElem? (i := 1643) (by decide +kernel), List.mem_of_getElem? (i := 1644) (by decide +kernel)⟩
theorem lw_p62 : lw_okq (⟨"TrollBridgesModel", "hangsOn", "(I)I"⟩, 21) := ⟨⟨by decide +kernel, by decide +kernel⟩, List.mem_of_getElem? (i := 1316) (by decide +kernel), List.mem_of_getElem? (i := 1663) (by decide +kernel), List.mem_of_getElem? (i := 1664) (by decide +kernel)⟩
theorem lw_p63 : lw_okq (⟨"TrollBridgesModel", "ranked", "(ZI)I"⟩, 21) := ⟨⟨by decide +kernel, by decide +kernel⟩, List.mem_of_getElem? (i := 1316) (by decide +kernel), List.mem_of_getElem? (i := 1691) (by decide +kernel), List.mem_of_getElem? (i := 1692) (by decide +kernel)⟩
def lw_privs_4 : List (MethodName × Nat) := [(⟨"TrollBridgesModel", "strikers", "()I"⟩, 21), (⟨"TrollBridgesModel", "takesAt", "(I)I"⟩, 21), (⟨"TrollBridgesModel", "pays", "(III)V"⟩, 21), (⟨"TrollBridgesModel", "disputesAt", "(II)I"⟩, 21), (⟨"TrollBridgesModel", "disputes", "()I"⟩, 21), (⟨"TrollBridgesModel", "settles", "(II)I"⟩, 21), (⟨"TrollBridgesModel", "chest", "(I)I"⟩, 21), (⟨"TrollBridgesModel", "strikes", "(II)I"⟩, 21), (⟨"TrollBridgesModel", "passes", "(I)I"⟩, 21), (⟨"TrollBridgesModel", "holding", "()I"⟩, 21), (⟨"TrollBridgesModel", "inChests", "(I)I"⟩, 21), (⟨"TrollBridgesModel", "way", "(IIZ)I"⟩, 21), (⟨"TrollBridgesModel", "goesFrom", "(IZ)V"⟩, 21), (⟨"TrollBridgesModel", "isLower", "(III)Z"⟩, 21), (⟨"TrollBridgesModel", "hangsOn", "(I)I"⟩, 21), (⟨"TrollBridgesModel", "ranked", "(ZI)I"⟩, 21)]
theorem lw_r4 : ∀ q ∈ lw_privs_4, lw_okq q := List.forall_mem_cons.mpr ⟨lw_p48, List.forall_mem_cons.mpr ⟨lw_p49, List.forall_mem_cons.mpr ⟨lw_p50, List.forall_mem_cons.mpr ⟨lw_p51, List.forall_mem_cons.mpr ⟨lw_p52, List.forall_mem_cons.mpr ⟨lw_p53, List.forall_mem_cons.mpr ⟨lw_p54, List.forall_mem_cons.mpr ⟨lw_p55, List.forall_mem_cons.mpr ⟨lw_p56, List.forall_mem_cons.mpr ⟨lw_p57, List.forall_mem_cons.mpr ⟨lw_p58, List.forall_mem_cons.mpr ⟨lw_p59, List.forall_mem_cons.mpr ⟨lw_p60, List.forall_mem_cons.mpr ⟨lw_p61, List.forall_mem_cons.mpr ⟨lw_p62, List.forall_mem_cons.mpr ⟨lw_p63, fun _ h => absurd h List.not_mem_nil⟩⟩⟩⟩⟩⟩⟩⟩⟩⟩⟩⟩⟩⟩⟩⟩
theorem lw_p64 : lw_okq (⟨"TrollBridgesModel", "isAhead", "(ZII)Z"⟩, 21) := ⟨⟨by decide +kernel, by decide +kernel⟩, List.mem_of_getElem? (i := 1316) (by decide +kernel), List.mem_of_getElem? (i := 1695) (by decide +kernel), List.mem_of_getElem? (i := 1696) (by decide +kernel)⟩
theorem lw_p65 : lw_okq (⟨"TrollBridgesModel", "crossedOf", "(I)I"⟩, 21) := ⟨⟨by decide +kernel, by decide +kernel⟩, List.mem_of_getElem? (i := 1316) (by decide +kernel), List.mem_of_getElem? (i := 1699) (by decide +kernel), List.mem_of_getElem? (i := 1700) (by decide +kernel)⟩
theorem lw_p66 : lw_okq (⟨"TrollBridgesModel", "coinsOfGoats", "()I"⟩, 21) := ⟨⟨by decide +kernel, by decide +kernel⟩, List.mem_of_getElem? (i := 1316) (by decide +kernel), List.mem_of_getElem? (i := 1716) (by decide +kernel), List.mem_of_getElem? (i := 1717) (by decide +kernel)⟩
theorem lw_p67 : lw_okq (⟨"TrollBridgesModel", "coinsOfTrolls", "()I"⟩, 21) := ⟨⟨by decide +kernel, by decide +kernel⟩, List.mem_of_getElem? (i := 1316) (by decide +kernel), List.mem_of_getElem? (i := 1720) (by decide +kernel), List.mem_of_getElem? (i := 1721) (by decide +kernel)⟩
theorem lw_p68 : lw_okq (⟨"TrollBridgesModel", "chests", "()I"⟩, 21) := ⟨⟨by decide +kernel, by decide +kernel⟩, List.mem_of_getElem? (i := 1316) (by decide +kernel), List.mem_of_getElem? (i := 1724) (by decide +kernel), List.mem_of_getElem? (i := 1725) (by decide +kernel)⟩
theorem lw_p69 : lw_okq (⟨"TrollBridgesModel", "inFog", "()I"⟩, 21) := ⟨⟨by decide +kernel, by decide +kernel⟩, List.mem_of_getElem? (i := 1316) (by decide +kernel), List.mem_of_getElem? (i := 1732) (by decide +kernel), List.mem_of_getElem? (i := 1733) (by decide +kernel)⟩
theorem lw_p70 : lw_okq (⟨"TrollBridgesModel", "hanging", "(II)V"⟩, 21) := ⟨⟨by decide +kernel, by decide +kernel⟩, List.mem_of_getElem? (i := 1316) (by decide +kernel), List.mem_of_getElem? (i := 1749) (by decide +kernel), List.mem_of_getElem? (i := 1750) (by decide +kernel)⟩
theorem lw_p71 : lw_okq (⟨"TrollBridgesModel", "puts", "(I)V"⟩, 21) := ⟨⟨by decide +kernel, by decide +kernel⟩, List.mem_of_getElem? (i := 1316) (by decide +kernel), List.mem_of_getElem? (i := 1753) (by decide +kernel), List.mem_of_getElem? (i := 1754) (by decide +kernel)⟩
theorem lw_p72 : lw_okq (⟨"TrollBridgesModel", "isText", "()Z"⟩, 21) := ⟨⟨by decide +kernel, by decide +kernel⟩, List.mem_of_getElem? (i := 1316) (by decide +kernel), List.mem_of_getElem? (i := 1773) (by decide +kernel), List.mem_of_getElem? (i := 1774) (by decide +kernel)⟩
theorem lw_p73 : lw_okq (⟨"TrollBridgesModel", "readsCommand", "()Z"⟩, 21) := ⟨⟨by decide +kernel, by decide +kernel⟩, List.mem_of_getElem? (i := 1316) (by decide +kernel), List.mem_of_getElem? (i := 1777) (by decide +kernel), List.mem_of_getElem? (i := 1778) (by decide +kernel)⟩
theorem lw_p74 : lw_okq (⟨"TrollBridgesModel", "isWord", "()Z"⟩, 21) := ⟨⟨by decide +kernel, by decide +kernel⟩, List.mem_of_getElem? (i := 1316) (by decide +kernel), List.mem_of_getElem? (i := 1781) (by decide +kernel), List.mem_of_getElem? (i := 1782) (by decide +kernel)⟩
theorem lw_p75 : lw_okq (⟨"TrollBridgesModel", "alikeHere", "(Ljava/lang/String;)I"⟩, 21) := ⟨⟨by decide +kernel, by decide +kernel⟩, List.mem_of_getElem? (i := 1316) (by decide +kernel), List.mem_of_getElem? (i := 1801) (by decide +kernel), List.mem_of_getElem? (i := 1802) (by decide +kernel)⟩
theorem lw_p76 : lw_okq (⟨"TrollBridgesModel", "isNumber", "(II)Z"⟩, 21) := ⟨⟨by decide +kernel, by decide +kernel⟩, List.mem_of_getElem? (i := 1316) (by decide +kernel), List.mem_of_getElem? (i := 1810) (by decide +kernel), List.mem_of_getElem? (i := 1811) (by decide +kernel)⟩
theorem lw_p77 : lw_okq (⟨"TrollBridgesModel", "sign", "()I"⟩, 21) := ⟨⟨by decide +kernel, by decide +kernel⟩, List.mem_of_getElem? (i := 1316) (by decide +kernel), List.mem_of_getElem? (i := 1814) (by decide +kernel), List.mem_of_getElem? (i := 1815) (by decide +kernel)⟩
theorem lw_p78 : lw_okq (⟨"TrollBridgesModel", "isNext", "(II)Z"⟩, 21) := ⟨⟨by decide +kernel, by decide +kernel⟩, List.mem_of_getElem? (i := 1316) (by decide +kernel), List.mem_of_getElem? (i := 1818) (by decide +kernel), List.mem_of_getElem? (i := 1819) (by decide +kernel)⟩
theorem lw_p79 : lw_okq (⟨"TrollBridgesModel", "isSign", "(I)Z"⟩, 21) := ⟨⟨by decide +kernel, by decide +kernel⟩, List.mem_of_getElem? (i := 1316) (by decide +kernel), List.mem_of_getElem? (i := 1822) (by decide +kernel), List.mem_of_getElem? (i := 1823) (by decide +kernel)⟩
def lw_privs_5 : List (MethodName × Nat) := [(⟨"TrollBridgesModel", "isAhead", "(ZII)Z"⟩, 21), (⟨"TrollBridgesModel", "crossedOf", "(I)I"⟩, 21), (⟨"TrollBridgesModel", "coinsOfGoats", "()I"⟩, 21), (⟨"TrollBridgesModel", "coinsOfTrolls", "()I"⟩, 21), (⟨"TrollBridgesModel", "chests", "()I"⟩, 21), (⟨"TrollBridgesModel", "inFog", "()I"⟩, 21), (⟨"TrollBridgesModel", "hanging", "(II)V"⟩, 21), (⟨"TrollBridgesModel", "puts", "(I)V"⟩, 21), (⟨"TrollBridgesModel", "isText", "()Z"⟩, 21), (⟨"TrollBridgesModel", "readsCommand", "()Z"⟩, 21), (⟨"TrollBridgesModel", "isWord", "()Z"⟩, 21), (⟨"TrollBridgesModel", "alikeHere", "(Ljava/lang/String;)I"⟩, 21), (⟨"TrollBridgesModel", "isNumber", "(II)Z"⟩, 21), (⟨"TrollBridgesModel", "sign", "()I"⟩, 21), (⟨"TrollBridgesModel", "isNext", "(II)Z"⟩, 21), (⟨"TrollBridgesModel", "isSign", "(I)Z"⟩, 21)]
theorem lw_r5 : ∀ q ∈ lw_privs_5, lw_okq q := List.forall_mem_cons.mpr ⟨lw_p64, List.forall_mem_cons.mpr ⟨lw_p65, List.forall_mem_cons.mpr ⟨lw_p66, List.forall_mem_cons.mpr ⟨lw_p67, List.forall_mem_cons.mpr ⟨lw_p68, List.forall_mem_cons.mpr ⟨lw_p69, List.forall_mem_cons.mpr ⟨lw_p70, List.forall_mem_cons.mpr ⟨lw_p71, List.forall_mem_cons.mpr ⟨lw_p72, List.forall_mem_cons.mpr ⟨lw_p73, List.forall_mem_cons.mpr ⟨lw_p74, List.forall_mem_cons.mpr ⟨lw_p75, List.forall_mem_cons.mpr ⟨lw_p76, List.forall_mem_cons.mpr ⟨lw_p77, List.forall_mem_cons.mpr ⟨lw_p78, List.forall_mem_cons.mpr ⟨lw_p79, fun _ h => absurd h List.not_mem_nil⟩⟩⟩⟩⟩⟩⟩⟩⟩⟩⟩⟩⟩⟩⟩⟩
theorem lw_p80 : lw_okq (⟨"TrollBridgesModel", "isForTroll", "(I)Z"⟩, 21) := ⟨⟨by decide +kernel, by decide +kernel⟩, List.mem_of_getElem? (i := 1316) (by decide +kernel), List.mem_of_getElem? (i := 1826) (by decide +kernel), List.mem_of_getElem? (i := 1827) (by decide +kernel)⟩
theorem lw_p81 : lw_okq (⟨"TrollBridgesModel", "does", "(I)I"⟩, 21) := ⟨⟨by decide +kernel, by decide +kernel⟩, List.mem_of_getElem? (i := 1316) (by decide +kernel), List.mem_of_getElem? (i := 1830) (by decide +kernel), List.mem_of_getElem? (i := 1831) (by decide +kernel)⟩
theorem lw_p82 : lw_okq (⟨"TrollBridgesModel", "isBehind", "(ZI)V"⟩, 21) := ⟨⟨by decide +kernel, by decide +kernel⟩, List.mem_of_getElem? (i := 1316) (by decide +kernel), List.mem_of_getElem? (i := 1834) (by decide +kernel), List.mem_of_getElem? (i := 1835) (by decide +kernel)⟩
def lw_privs_6 : List (MethodName × Nat) := [(⟨"TrollBridgesModel", "isForTroll", "(I)Z"⟩, 21), (⟨"TrollBridgesModel", "does", "(I)I"⟩, 21), (⟨"TrollBridgesModel", "isBehind", "(ZI)V"⟩, 21)]
theorem lw_r6 : ∀ q ∈ lw_privs_6, lw_okq q := List.forall_mem_cons.mpr ⟨lw_p80, List.forall_mem_cons.mpr ⟨lw_p81, List.forall_mem_cons.mpr ⟨lw_p82, fun _ h => absurd h List.not_mem_nil⟩⟩⟩
def lw_privs : List (MethodName × Nat) := lw_privs_1 ++ (lw_privs_2 ++ (lw_privs_3 ++ (lw_privs_4 ++ (lw_privs_5 ++ (lw_privs_6)))))
def lw_tbl : List Cond := k2_sels lw_privs ++ tables_1
theorem lw_privs_ok : ∀ q ∈ lw_privs, lw_okq q := by
  show ∀ q ∈ lw_privs_1 ++ (lw_privs_2 ++ (lw_privs_3 ++ (lw_privs_4 ++ (lw_privs_5 ++ (lw_privs_6))))), lw_okq q
  exact List.forall_mem_append.mpr ⟨lw_r1, List.forall_mem_append.mpr ⟨lw_r2, List.forall_mem_append.mpr ⟨lw_r3, List.forall_mem_append.mpr ⟨lw_r4, List.forall_mem_append.mpr ⟨lw_r5, lw_r6⟩⟩⟩⟩⟩
/-- the streams that the claim lets the run draw from -/
abbrev lw_cs : List Choice := [Jvm.Choice.named "NaN.bits"]
theorem lw_bits : nanBits ∈ lw_cs := by first | decide | exact List.mem_cons_self | simp [lw_cs, nanBits]
/-! ===== BEGIN words of one list among another's, by their places ===== -/
theorem goodIn_r {big : List Cond} (ws : List Cond) (ps : List Nat) (hp : ws = ps.filterMap (fun i => big[i]?)) (h : ws.all goodWord = true) : GoodIn big ws := by
  intro w hw
  have h1 := List.all_eq_true.mp h w hw
  rw [hp] at hw
  obtain ⟨i, -, hi⟩ := List.mem_filterMap.mp hw
  have hm : w ∈ big := by first | exact List.mem_of_getElem? hi | exact List.getElem?_mem hi
  exact ⟨hm, good_of_word h1⟩
theorem goodIn_app {big a b : List Cond} (ha : GoodIn big a) (hb : GoodIn big b) : GoodIn big (a ++ b) := fun w h => (List.mem_append.mp h).elim (ha w) (hb w)
theorem goodIn_ca {big a b : List Cond} {c : Cond} (ha : GoodIn big (c :: a)) (hb : GoodIn big b) : GoodIn big (c :: (a ++ b)) := fun w h => (List.mem_cons.mp h).elim (fun e => ha w (List.mem_cons.mpr (Or.inl e))) (fun h => (List.mem_append.mp h).elim (fun h => ha w (List.mem_cons.mpr (Or.inr h))) (hb w))
theorem goodIn_sub {big ws : List Cond} (hm : ∀ w ∈ ws, w ∈ big) (h : ws.all goodWord = true) : GoodIn big ws := fun w hw => ⟨hm w hw, good_of_word (List.all_eq_true.mp h w hw)⟩
/-! ===== END ===== -/

/-! ===== BEGIN exceptions that leave a method, and their catching by the caller (launches without stack traces) ===== -/
section VXA
/-! The laws vx_back, vx_callV, vx_callS, vx_callSW, vx_throw0, vx_throwS follow proofs of the library, with one case more: JvmDerived/Free/Laws.lean (Back.of_free), Shelf42/LK1.lean (callV, callS), Shelf/KitTraced.lean (throwNew0V, throwNewS). -/
/-- where a method has thrown q: the class by its name, the cell, what was written, the world -/
def vx_T (XC : String → State → State → Prop) (st : State) (q : Addr) (t : State) (mc ms : Nat) (free : Addr → Prop) : Prop :=
  ∃ (E : String) (ce : Cell) (L : List Loc), XC E st t ∧ t.heap[q]? = some ce ∧ ce.vm = .none ∧ st.vm.findClass E = some ce.cls ∧ st.WarmedH t.vm ∧ st.sameButNew ({ t with vm := st.vm } : State) L mc ms ∧ ∀ z ∈ L, free z.base
def vx_Q (Qc : Array Value → State → Outcome → State → Prop) (XC : String → State → State → Prop) (mc ms : Nat) (free : Addr → Prop) : Array Value → State → Outcome → State → Prop := fun a st o t =>
  (Qc a st o t ∧ ∃ L, FrameEnd st o t L mc ms ∧ ∀ q ∈ L, free q.base) ∨ ∃ q, o = .threw q ∧ vx_T XC st q t mc ms free
/-- a callee that returns or throws -/
def vx_Met (l : Launch) (y : MethodName) (ws : List Cond) (rm : Room) (Pc : Array Value → State → Prop) (Qc : Array Value → State → Outcome → State → Prop) (XC : String → State → State → Prop) (mc ms : Nat) (free : Addr → Prop) : Prop :=
  MetFree l y (headSpec ws rm) Pc (fun _ _ _ _ _ => True) (vx_Q Qc XC mc ms free)
def vx_Post (XC : String → State → State → Prop) (mc ms : Nat) (free : Addr → Prop) : Pt → Array Value → Addr → Pt → Prop := fun A a q B =>
  ∃ (g : JFrame) (mk : MethodId) (t : State) (L : List Loc) (E : String) (ce : Cell), B.U.heap = t.heap ∧ B.U.vm = t.vm ∧ XC E (A.U.calling g mk a) t ∧ t.heap[q]? = some ce ∧ ce.vm = .none ∧ A.U.vm.findClass E = some ce.cls ∧ B.locs = A.locs ++ L ∧ (∀ z ∈ L, free z.base) ∧ B.cells = A.cells + mc ∧ B.slots = A.slots + ms
def vx_Back (l : Launch) (R : Room) (p : Program) (e : Env) (below : List Frame) (s : State) (sargs : Array Value) (y : MethodName) (len W9 : Nat)
    (Pre : Pt → Array Value → Prop) (Post : Pt → Array Value → Option Value → Pt → Prop) (PostX : Pt → Array Value → Addr → Pt → Prop) : Prop :=
  ∀ (m : MethodId) (meth : Method) (c : Code) (A : Pt) (g : JFrame) (ig : Instr) (mk : MethodId) (a : Array Value),
    Stand p l e R s m sargs below meth c A.U A.locs A.cells A.slots → g.method = m → g.locals.size = c.maxLocals → decode c.code g.pc = .ok (ig, len) →
    2 * g.monitorRoom + (g.stack.map fun v => v.category).sum ≤ W9 → A.U.methodNamed? y = some mk → Pre A a →
    (∃ (v : Option Value) (B : Pt), Stand p l e R s m sargs below meth c B.U B.locs B.cells B.slots ∧ Post A a v B ∧
      Steps p.tables e below (doInvoke e (A.U.setTop g) [] mk a).1 (B.U.setTop { g with pc := g.pc + len, stack := v.toList ++ g.stack })) ∨
    (∃ (q : Addr) (B : Pt), Stand p l e R s m sargs below meth c B.U B.locs B.cells B.slots ∧ PostX A a q B ∧
      Steps p.tables e below (doInvoke e (A.U.setTop g) [] mk a).1 ((B.U.setTop g).pushFrame (.throwing q)))
section Payer
variable {l : Launch} {R : Room} {p : Program} {e : Env} {below : List Frame} {s : State} {sargs : Array Value} {y : MethodName} {len W9 : Nat}
theorem vx_back {ws : List Cond} {rm : Room} {Pc : Array Value → State → Prop} {Qc : Array Value → State → Outcome → State → Prop} {XC : String → State → State → Prop} {mc ms : Nat} {free : Addr → Prop} {bytes : ByteArray} {maxL : Nat} {ret : Option FieldType}
    (hM : vx_Met l y ws rm Pc Qc XC mc ms free) (hblind : FrameBlind Pc) (hrc : rm.cells = mc) (hrs : rm.slots = ms)
    (hframes : rm.frames + 1 ≤ R.frames) (hlocals : W9 + (maxL + 11) + rm.locals ≤ R.locals)
    (hws : ∀ w ∈ ws, ∀ a' U, s.WarmedH U.vm → w.before a' U = true) (hcode : Cond.code y bytes maxL ret ∈ ws) (hinit : ∀ a' U, s.WarmedH U.vm → (Cond.initialized y.cls).before a' U = true) :
    vx_Back l R p e below s sargs y len W9 (PreOf R mc ms Pc) (PostOf Qc mc ms free) (vx_Post XC mc ms free) := by
  intro m meth c A g ig mk a X hg hsize hdg hW hn hp
  have h1 : (headSpec ws rm).pre.before a A.U = true := atoms_intro fun w hw => hws w hw _ _ X.warmed
  have h2 : (Cond.code y bytes maxL ret).before a A.U = true := hws _ hcode _ _ X.warmed
  have h3 : (Cond.initialized y.cls).before a A.U = true := hinit _ _ X.warmed
  have h4 : A.cells + (headSpec ws rm).room.cells ≤ R.cells := by rw [show (headSpec ws rm).room.cells = mc from hrc]; exact hp.1
  have h5 : A.slots + (headSpec ws rm).room.slots ≤ R.slots := by rw [show (headSpec ws rm).room.slots = ms from hrs]; exact hp.2.1
  have hPc : Pc a (A.U.calling g mk a) := hblind _ _ _ _ hp.2.2
  obtain ⟨U, Ls, c0, s0⟩ := A
  dsimp only [Pt.U, Pt.locs, Pt.cells, Pt.slots] at h1 h2 h3 h4 h5 X hn hPc ⊢
  obtain ⟨methY, cY, hmY, hcY, -, hlY, -, -, -, -⟩ := Cond.code_spec hn h2
  obtain ⟨kY, hkY, -⟩ := className_of_methodNamed hn
  have hinitY : kY.init = .initialized := Cond.initialized_spec (findClass_of_methodNamed hn) hkY h3
  have h : At U g.method c below := by rw [hg]; exact X.here
  have hlocals9 : W9 + (maxL + 11) + (headSpec ws rm).room.locals ≤ R.locals := hlocals
  have happ : (headSpec ws rm).appliesLoose y e.platform (U.calling g mk a) = true :=
    Spec.appliesLoose_calling (g := g) h hdg hn hkY hinitY
      (X.room_calling (g := g) (R' := (headSpec ws rm).room) hsize hmY hcY hframes (by rw [hlY]; omega) h4 h5) h1
  obtain ⟨mid, hmid⟩ := h.above
  have hfr : (U.setTop g).frames = (.java g :: mid) ++ below := by rw [State.frames_setTop' g h.top, hmid]; rfl
  obtain ⟨o, s₂, hsteps, -, hend, hq⟩ := Steps.callFree hM p X.admits X.cas X.clock (acts := []) hfr happ hPc trivial
  have hq' : vx_Q Qc XC mc ms free a (U.calling g mk a) o s₂ := hq
  rw [State.frames_setTop' g h.top] at hend
  obtain ⟨g₀, hg0⟩ := Option.isSome_iff_exists.mp h.top
  obtain ⟨r, hr⟩ := State.topJava?_eq_some.mp hg0
  have hr' : (({ U with heap := s₂.heap, slotsUsed := s₂.slotsUsed } : State).setVm s₂.vm).frames = .java g₀ :: r := hr
  rcases hq' with ⟨hqc, L, hfe, hL⟩ | ⟨q, rfl, E, ce, L, hx, hce, hcv, hcl, hW₂, hsm, hL⟩
  · obtain ⟨⟨v, rfl⟩, hW₂, e2, q2, q3, q4, q5, q6⟩ := id hfe
    have e3 : s₂ = ({ (U.calling g mk a).setFrames s₂.frames with heap := s₂.heap, slotsUsed := s₂.slotsUsed } : State).setVm s₂.vm := by
      have : s₂ = ({ s₂ with vm := (U.calling g mk a).vm } : State).setVm s₂.vm := rfl
      rw [e2] at this
      exact this
    obtain ⟨c₂, i₂, len₂, hc₂, hd₂, hf₂⟩ := hend
    have hW' : U.WarmedH s₂.vm := hW₂
    have hcc : c₂ = c := by
      have h1 : s₂.code? g.method = U.code? g.method := by
        rw [State.code?_eq, State.code?_eq, hW'.alike.method?]
      exact Option.some.inj (hc₂.symm.trans (h1.trans h.code))
    subst hcc
    have hlen : len₂ = len := by rw [hdg] at hd₂; cases hd₂; rfl
    subst hlen
    have hs₂ : s₂ = (({ U with heap := s₂.heap, slotsUsed := s₂.slotsUsed } : State).setVm s₂.vm).setTop { g with pc := g.pc + len₂, stack := v.toList ++ g.stack } := by
      refine e3.trans ?_
      rw [hf₂, State.calling_eq h.top, State.setFrames_setFrames, State.setTop_of_frames _ hr', hr]
      rfl
    have hsame : U.sameButNew ({ U with heap := s₂.heap, slotsUsed := s₂.slotsUsed } : State) L mc ms := by
      refine ⟨?_, q2, q3, q4, q5, q6⟩
      obtain ⟨t, ht, -⟩ := State.frames_cons hr
      show ({ U with heap := s₂.heap, slotsUsed := s₂.slotsUsed } : State) = { U.setFrames U.frames with heap := s₂.heap, slotsUsed := s₂.slotsUsed }
      rw [State.setFrames_self ht]
    subst hg
    refine Or.inl ⟨v, ⟨(({ U with heap := s₂.heap, slotsUsed := s₂.slotsUsed } : State).setVm s₂.vm), Ls ++ L, c0 + mc, s0 + ms⟩,
      ⟨X.admits, X.cas, X.clock, X.frames, X.room, X.hears, X.method, X.code, (X.here.setHeapUsed s₂.heap s₂.slotsUsed).setVm hW'.alike, X.tail, State.WarmedH.trans X.warmed hW', X.limits, X.bytes, X.same.trans (hsame.setVm s.vm)⟩,
      ⟨g, mk, s₂, L, rfl, rfl, hqc, rfl, hL, rfl, rfl⟩, ?_⟩
    show Steps p.tables e below _ ((({ U with heap := s₂.heap, slotsUsed := s₂.slotsUsed } : State).setVm s₂.vm).setTop { g with pc := g.pc + len₂, stack := v.toList ++ g.stack })
    rw [← hs₂]
    exact hsteps
  · obtain ⟨e2, q2, q3, q4, q5, q6⟩ := id hsm
    have e3 : s₂ = ({ (U.calling g mk a).setFrames s₂.frames with heap := s₂.heap, slotsUsed := s₂.slotsUsed } : State).setVm s₂.vm := by
      have : s₂ = ({ s₂ with vm := (U.calling g mk a).vm } : State).setVm s₂.vm := rfl
      rw [e2] at this
      exact this
    have hf₂ : s₂.frames = .throwing q :: .java g :: U.frames.tail := hend
    have hW' : U.WarmedH s₂.vm := hW₂
    have hs₂ : s₂ = ((({ U with heap := s₂.heap, slotsUsed := s₂.slotsUsed } : State).setVm s₂.vm).setTop g).pushFrame (.throwing q) := by
      refine e3.trans ?_
      rw [hf₂, State.calling_eq h.top, State.setFrames_setFrames, State.pushFrame, State.frames_setTop _ hr', State.setTop_of_frames _ hr', State.setFrames_setFrames, hr]
      rfl
    have hsame : U.sameButNew ({ U with heap := s₂.heap, slotsUsed := s₂.slotsUsed } : State) L mc ms := by
      refine ⟨?_, q2, q3, q4, q5, q6⟩
      obtain ⟨t, ht, -⟩ := State.frames_cons hr
      show ({ U with heap := s₂.heap, slotsUsed := s₂.slotsUsed } : State) = { U.setFrames U.frames with heap := s₂.heap, slotsUsed := s₂.slotsUsed }
      rw [State.setFrames_self ht]
    subst hg
    refine Or.inr ⟨q, ⟨(({ U with heap := s₂.heap, slotsUsed := s₂.slotsUsed } : State).setVm s₂.vm), Ls ++ L, c0 + mc, s0 + ms⟩,
      ⟨X.admits, X.cas, X.clock, X.frames, X.room, X.hears, X.method, X.code, (X.here.setHeapUsed s₂.heap s₂.slotsUsed).setVm hW'.alike, X.tail, State.WarmedH.trans X.warmed hW', X.limits, X.bytes, X.same.trans (hsame.setVm s.vm)⟩,
      ⟨g, mk, s₂, L, E, ce, rfl, rfl, hx, hce, hcv, hcl, rfl, hL, rfl, rfl⟩, ?_⟩
    show Steps p.tables e below _ (((({ U with heap := s₂.heap, slotsUsed := s₂.slotsUsed } : State).setVm s₂.vm).setTop g).pushFrame (.throwing q))
    rw [← hs₂]
    exact hsteps
end Payer
section Calls
variable {p : Program} {l : Launch} {e : Env} {R : Room} {s : State} {m : MethodId} {args : Array Value} {below : List Frame} {meth : Method} {c : Code} {T : State} {locs : List Loc} {cells slots : Nat}
theorem vx_callV (X : Stand p l e R s m args below meth c T locs cells slots) (hexec : p.tables.exec = Jvm.exec) {own C : String} {index : Nat} {y : MethodName} {bytes : ByteArray} {maxL : Nat} {ret : Option FieldType}
    (hown : s.vm.findClass own = some m.cls) (hlink : (Cond.methodLink own index y).before args s = true) (hinst : (Cond.instanceMethod y).before args s = true) (hsel : (Cond.selects C y y).before args s = true)
    (hcode : (Cond.code y bytes maxL ret).before args s = true) (hy : y.cls ≠ "java/lang/invoke/MethodHandle" ∧ y.cls ≠ "java/lang/invoke/VarHandle")
    {W9 : Nat} {Pre : Pt → Array Value → Prop} {Post : Pt → Array Value → Option Value → Pt → Prop} {PostX : Pt → Array Value → Addr → Pt → Prop} (hK : vx_Back l R p e below s args y 3 W9 Pre Post PostX)
    {b : Addr} {cellB : Cell} (hcell : T.heap[b]? = some cellB) (hobj : cellB.vm.isStatics = false) (hcls : s.vm.findClass C = some cellB.cls)
    {g : JFrame} (hg : g.method = m) (hsize : g.locals.size = c.maxLocals) {argsL rest : List Value} (hlen : ∀ sig, parseMethodDescriptor y.desc = some sig → argsL.length = sig.parameters.length)
    (hstack : g.stack = argsL.reverse ++ .ref b :: rest) (hW : 2 * g.monitorRoom + (rest.map fun v => v.category).sum ≤ W9) (hdg : decode c.code g.pc = .ok (.invokevirtual index, 3))
    (hpre : ∀ vm₁, s.WarmedH vm₁ → Pre ⟨T.setVm vm₁, locs, cells, slots⟩ (Value.ref b :: argsL).toArray) :
    (∃ (v : Option Value) (vm₁ : Vm) (B : Pt), s.WarmedH vm₁ ∧ Stand p l e R s m args below meth c B.U B.locs B.cells B.slots ∧ Post ⟨T.setVm vm₁, locs, cells, slots⟩ (Value.ref b :: argsL).toArray v B ∧
      ∀ target, Steps p.tables e below (B.U.setTop { g with pc := g.pc + 3, stack := v.toList ++ rest }) target → Steps p.tables e below (T.setTop g) target) ∨
    (∃ (q : Addr) (vm₁ : Vm) (B : Pt), s.WarmedH vm₁ ∧ Stand p l e R s m args below meth c B.U B.locs B.cells B.slots ∧ PostX ⟨T.setVm vm₁, locs, cells, slots⟩ (Value.ref b :: argsL).toArray q B ∧
      Steps p.tables e below (T.setTop g) ((B.U.setTop { g with stack := rest }).pushFrame (.throwing q))) := by
  obtain ⟨mk, methM, hnamed, hmethM, hstM, habM⟩ := Cond.instanceMethod_spec hinst
  obtain ⟨methM', cM, hmethM', -, -, -, -, -, -, hsigM⟩ := Cond.code_spec hnamed hcode
  cases hmethM.symm.trans hmethM'
  obtain ⟨c2, r2, m2, q1, q2, q3, q4, kP, hkP, hkPi⟩ := Cond.selects_spec hsel
  cases hcls.symm.trans q1
  cases (State.methodFound?_of_named hnamed hy).symm.trans q2
  cases hnamed.symm.trans q3
  have hselP : selectMethod e.platform s.vm cellB.cls mk = .method mk := by rw [Launch.admits_selectMethod X.admits]; exact q4
  obtain ⟨vm₁, X₁, hstep₁⟩ := X.invokevirtual hexec hown hlink hnamed hmethM hstM hkP hkPi hy (a := b) (cell := cellB) hcell
    (fun z h => by rw [h] at hobj; cases hobj) hselP hmethM habM hkP hkPi (g := g) hg (argsL := argsL) (rest := rest) (hlen _ hsigM) hstack hdg
  rcases hK m meth c ⟨T.setVm vm₁, locs, cells, slots⟩ { g with stack := rest } (.invokevirtual index) mk (Value.ref b :: argsL).toArray X₁ hg hsize hdg hW (X₁.named hnamed) (hpre vm₁ X₁.warmed) with ⟨v, B, X', hpost, hsteps⟩ | ⟨q, B, X', hpost, hsteps⟩
  · exact Or.inl ⟨v, vm₁, B, X₁.warmed, X', hpost, fun target h => hstep₁ _ fun acts => by rw [doInvoke_state]; exact hsteps.trans h⟩
  · exact Or.inr ⟨q, vm₁, B, X₁.warmed, X', hpost, hstep₁ _ fun acts => by rw [doInvoke_state]; exact hsteps⟩
theorem vx_callS (X : Stand p l e R s m args below meth c T locs cells slots) (hexec : p.tables.exec = Jvm.exec) {own : String} {index : Nat} {y : MethodName} {bytes : ByteArray} {maxL : Nat} {ret : Option FieldType}
    (hown : s.vm.findClass own = some m.cls) (hlink : (Cond.methodLink own index y).before args s = true) (hstat : (Cond.static y).before args s = true) (hinit : (Cond.initialized y.cls).before args s = true)
    (hcode : (Cond.code y bytes maxL ret).before args s = true) (hy : y.cls ≠ "java/lang/invoke/MethodHandle" ∧ y.cls ≠ "java/lang/invoke/VarHandle")
    {W9 : Nat} {Pre : Pt → Array Value → Prop} {Post : Pt → Array Value → Option Value → Pt → Prop} {PostX : Pt → Array Value → Addr → Pt → Prop} (hK : vx_Back l R p e below s args y 3 W9 Pre Post PostX)
    {g : JFrame} (hg : g.method = m) (hsize : g.locals.size = c.maxLocals) {argsL rest : List Value} (hlen : ∀ sig, parseMethodDescriptor y.desc = some sig → argsL.length = sig.parameters.length)
    (hstack : g.stack = argsL.reverse ++ rest) (hW : 2 * g.monitorRoom + (rest.map fun v => v.category).sum ≤ W9) (hdg : decode c.code g.pc = .ok (.invokestatic index, 3))
    (hpre : ∀ vm₁, s.WarmedH vm₁ → Pre ⟨T.setVm vm₁, locs, cells, slots⟩ argsL.toArray) :
    (∃ (v : Option Value) (vm₁ : Vm) (B : Pt), s.WarmedH vm₁ ∧ Stand p l e R s m args below meth c B.U B.locs B.cells B.slots ∧ Post ⟨T.setVm vm₁, locs, cells, slots⟩ argsL.toArray v B ∧
      ∀ target, Steps p.tables e below (B.U.setTop { g with pc := g.pc + 3, stack := v.toList ++ rest }) target → Steps p.tables e below (T.setTop g) target) ∨
    (∃ (q : Addr) (vm₁ : Vm) (B : Pt), s.WarmedH vm₁ ∧ Stand p l e R s m args below meth c B.U B.locs B.cells B.slots ∧ PostX ⟨T.setVm vm₁, locs, cells, slots⟩ argsL.toArray q B ∧
      Steps p.tables e below (T.setTop g) ((B.U.setTop { g with stack := rest }).pushFrame (.throwing q))) := by
  obtain ⟨mk, hnamed⟩ := Cond.code_named hcode
  obtain ⟨methM, cM, hmethM, -, -, -, -, -, -, hsigM⟩ := Cond.code_spec hnamed hcode
  have hstatic : methM.isStatic = true := Cond.static_spec hnamed hmethM hstat
  obtain ⟨kP, hkP, -⟩ := className_of_methodNamed hnamed
  have hinitP : kP.init = .initialized := Cond.initialized_spec (findClass_of_methodNamed hnamed) hkP hinit
  obtain ⟨vm₁, X₁, hstep₁⟩ := X.invokestatic hexec hown hlink hnamed hmethM hstatic hkP hinitP hy (g := g) hg (argsL := argsL) (rest := rest) (hlen _ hsigM) hstack hdg
  rcases hK m meth c ⟨T.setVm vm₁, locs, cells, slots⟩ { g with stack := rest } (.invokestatic index) mk argsL.toArray X₁ hg hsize hdg hW (X₁.named hnamed) (hpre vm₁ X₁.warmed) with ⟨v, B, X', hpost, hsteps⟩ | ⟨q, B, X', hpost, hsteps⟩
  · exact Or.inl ⟨v, vm₁, B, X₁.warmed, X', hpost, fun target h => hstep₁ _ fun acts => by rw [doInvoke_state]; exact hsteps.trans h⟩
  · exact Or.inr ⟨q, vm₁, B, X₁.warmed, X', hpost, hstep₁ _ fun acts => by rw [doInvoke_state]; exact hsteps⟩
end Calls
theorem vx_cls {s : State} {T : State} {vm₁ : Vm} {E : String} {k : ClassId} (hW : s.WarmedH vm₁) (h : (T.setVm vm₁).vm.findClass E = some k) : s.vm.findClass E = some k := by
  have h1 : vm₁.findClass E = some k := h
  rw [hW.alike.findClass] at h1
  exact h1
/-- the method's frame g, with q thrown over it -/
def vx_W (p : Program) (l : Launch) (e : Env) (R : Room) (s : State) (m : MethodId) (args : Array Value) (below : List Frame) (meth : Method) (c : Code) (H : Heap) (locs : List Loc) (cells slots : Nat) (Q : State → Prop) (g : JFrame) (q : Addr) : Prop :=
  ∀ T : State, T.heap = H → Stand p l e R s m args below meth c T locs cells slots → ∃ t, Steps p.tables e below ((T.setTop g).pushFrame (.throwing q)) t ∧ Q t
def vx_Run (p : Program) (l : Launch) (e : Env) (R : Room) (s : State) (m : MethodId) (args : Array Value) (below : List Frame) (meth : Method) (c : Code) (H : Heap) (locs : List Loc) (cells slots mc ms : Nat) (g : JFrame) (rest : List Value) (Qa : State → Outcome → State → Prop) (XC : String → State → State → Prop) (free : Addr → Prop) : Prop :=
  ∀ T : State, T.heap = H → Stand p l e R s m args below meth c T locs cells slots →
    (∃ (v : Option Value) (st₀ t T' : State) (L : List Loc), st₀.heap = H ∧ Stand p l e R s m args below meth c T' (locs ++ L) (cells + mc) (slots + ms) ∧ (∀ q ∈ L, free q.base) ∧ T'.heap = t.heap ∧ T'.vm = t.vm ∧ Qa st₀ (.returned v) t ∧
      Goes p e below T g T' { g with pc := g.pc + 3, stack := v.toList ++ rest }) ∨
    (∃ (q : Addr) (st₀ t T' : State) (L : List Loc) (E : String) (ce : Cell), st₀.heap = H ∧ Stand p l e R s m args below meth c T' (locs ++ L) (cells + mc) (slots + ms) ∧ (∀ z ∈ L, free z.base) ∧ T'.heap = t.heap ∧ T'.vm = t.vm ∧ XC E st₀ t ∧ t.heap[q]? = some ce ∧ ce.vm = .none ∧ s.vm.findClass E = some ce.cls ∧
      Steps p.tables e below (T.setTop g) ((T'.setTop { g with stack := rest }).pushFrame (.throwing q)))
def vx_X {S : Type} (px : S → Prop) (B : String → S → State → Prop) (A : Nat → Prop) : String → State → State → Prop := fun E st t => ∃ u : S, px u ∧ B E u t ∧ va_F A st t
section Runs
variable {p : Program} {l : Launch} {e : Env} {R : Room} {s : State} {m : MethodId} {args : Array Value} {below : List Frame} {meth : Method} {c : Code} {H : Heap} {locs : List Loc} {cells slots : Nat}
variable {y : MethodName} {bytes cc : ByteArray} {maxL nL mc ms n index : Nat} {ret : Option FieldType} {ws : List Cond} {rm : Room} {Pc : Array Value → State → Prop} {Qc : Array Value → State → Outcome → State → Prop} {XC : String → State → State → Prop} {free : Addr → Prop} {Ts : List Cond} {own C : String} {b : Addr} {As rest : List Value} {g : JFrame}
theorem vx_callBack (cb : CallB R s args own index y bytes maxL ret ws rm mc ms n) (hM : vx_Met l y ws rm Pc Qc XC mc ms free) (hbl : FrameBlind Pc) : vx_Back l R p e below s args y 3 8 (PreOf R mc ms Pc) (PostOf Qc mc ms free) (vx_Post XC mc ms free) := by
  obtain ⟨hrc, hrs, hfr, hlo, hws, hcw, -, hini, -⟩ := cb
  exact vx_back (bytes := bytes) (maxL := maxL) (ret := ret) hM hbl hrc hrs hfr hlo hws hcw (fun a' U hW => word_at hW (Or.inl (by first | rfl | simp [Cond.onTables, Cond.keeps, Cond.steady])) hini)
theorem vx_runV (S : CallFix p m c cc nL s args Ts own) (hM : vx_Met l y ws rm Pc Qc XC mc ms free) (cw : CallW R s args own C index y bytes maxL ret ws rm mc ms n) (hp : PreV s H C b Pc As)
    (hg : g.method = m) (hn : As.length = n) (hsize : g.locals.size = nL) (hstack : g.stack = As.reverse ++ .ref b :: rest) (hW : 2 * g.monitorRoom + (rest.map fun v => v.category).sum ≤ 8) (hdg : decode cc g.pc = .ok (.invokevirtual index, 3)) (hf : cells + mc ≤ R.cells ∧ slots + ms ≤ R.slots) :
    vx_Run p l e R s m args below meth c H locs cells slots mc ms g rest (Qc (Value.ref b :: As).toArray) XC free := by
  have hK : vx_Back l R p e below s args y 3 8 (PreOf R mc ms Pc) (PostOf Qc mc ms free) (vx_Post XC mc ms free) := vx_callBack cw.1 hM hp.1
  obtain ⟨⟨-, -, -, -, -, -, hcode, -, hy, hlen, hl⟩, hin, hse⟩ := cw
  obtain ⟨hx, hb, hml, ho, -⟩ := S
  obtain ⟨-, ⟨cellB, hcB, hoB, hclB⟩, hPc⟩ := hp
  intro T hT X
  rcases vx_callV X hx (C := C) (bytes := bytes) (maxL := maxL) (ret := ret) ho hl hin hse hcode hy hK (by rw [hT]; exact hcB) hoB hclB hg (hsize.trans hml.symm) (argsL := As) (rest := rest) (fun sig h => hn.trans (hlen sig h)) hstack hW (by rw [hb]; exact hdg)
    (fun vm₁ hW₁ => ⟨hf.1, hf.2, hPc (T.setVm vm₁) hT hW₁⟩) with ⟨v, vm₁, ⟨U', l2, c2, s2⟩, hW₁, X', ⟨g', mk, t, L, e1, e2, hq, h1, hL, h2, h3⟩, st⟩ | ⟨q, vm₁, ⟨U', l2, c2, s2⟩, hW₁, X', ⟨g', mk, t, L, E, ce, e1, e2, hq, hce, hcv, hcl, h1, hL, h2, h3⟩, st⟩
  · dsimp only [Pt.U, Pt.locs, Pt.cells, Pt.slots] at X' e1 e2 h1 h2 h3 st
    subst h1; subst h2; subst h3
    exact Or.inl ⟨v, (T.setVm vm₁).calling g' mk (Value.ref b :: As).toArray, t, U', L, hT, X', hL, e1, e2, hq, st⟩
  · dsimp only [Pt.U, Pt.locs, Pt.cells, Pt.slots] at X' e1 e2 h1 h2 h3 st hcl
    subst h1; subst h2; subst h3
    exact Or.inr ⟨q, (T.setVm vm₁).calling g' mk (Value.ref b :: As).toArray, t, U', L, E, ce, hT, X', hL, e1, e2, hq, hce, hcv, vx_cls hW₁ hcl, st⟩
theorem vx_runS (S : CallFix p m c cc nL s args Ts own) (hM : vx_Met l y ws rm Pc Qc XC mc ms free) (cw : CallB R s args own index y bytes maxL ret ws rm mc ms n ∧ (Cond.static y).before args s = true) (hp : PreS s H Pc As)
    (hg : g.method = m) (hn : As.length = n) (hsize : g.locals.size = nL) (hstack : g.stack = As.reverse ++ rest) (hW : 2 * g.monitorRoom + (rest.map fun v => v.category).sum ≤ 8) (hdg : decode cc g.pc = .ok (.invokestatic index, 3)) (hf : cells + mc ≤ R.cells ∧ slots + ms ≤ R.slots) :
    vx_Run p l e R s m args below meth c H locs cells slots mc ms g rest (Qc As.toArray) XC free := by
  have hK : vx_Back l R p e below s args y 3 8 (PreOf R mc ms Pc) (PostOf Qc mc ms free) (vx_Post XC mc ms free) := vx_callBack cw.1 hM hp.1
  obtain ⟨⟨-, -, -, -, -, -, hcode, hini, hy, hlen, hl⟩, hstt⟩ := cw
  obtain ⟨hx, hb, hml, ho, -⟩ := S
  intro T hT X
  rcases vx_callS X hx (bytes := bytes) (maxL := maxL) (ret := ret) ho hl hstt hini hcode hy hK hg (hsize.trans hml.symm) (argsL := As) (rest := rest) (fun sig h => hn.trans (hlen sig h)) hstack hW (by rw [hb]; exact hdg)
    (fun vm₁ hW₁ => ⟨hf.1, hf.2, hp.2 (T.setVm vm₁) hT hW₁⟩) with ⟨v, vm₁, ⟨U', l2, c2, s2⟩, hW₁, X', ⟨g', mk, t, L, e1, e2, hq, h1, hL, h2, h3⟩, st⟩ | ⟨q, vm₁, ⟨U', l2, c2, s2⟩, hW₁, X', ⟨g', mk, t, L, E, ce, e1, e2, hq, hce, hcv, hcl, h1, hL, h2, h3⟩, st⟩
  · dsimp only [Pt.U, Pt.locs, Pt.cells, Pt.slots] at X' e1 e2 h1 h2 h3 st
    subst h1; subst h2; subst h3
    exact Or.inl ⟨v, (T.setVm vm₁).calling g' mk As.toArray, t, U', L, hT, X', hL, e1, e2, hq, st⟩
  · dsimp only [Pt.U, Pt.locs, Pt.cells, Pt.slots] at X' e1 e2 h1 h2 h3 st hcl
    subst h1; subst h2; subst h3
    exact Or.inr ⟨q, (T.setVm vm₁).calling g' mk As.toArray, t, U', L, E, ce, hT, X', hL, e1, e2, hq, hce, hcv, vx_cls hW₁ hcl, st⟩
end Runs
section Rows
variable {p : Program} {l : Launch} {e : Env} {R : Room} {s : State} {m : MethodId} {args : Array Value} {below : List Frame} {meth : Method} {c : Code} {H : Heap} {locs : List Loc} {cells slots : Nat} {Q : State → Prop}
variable {mc ms : Nat} {free : Addr → Prop} {A0 A1 : Nat → Prop} {H0 : Heap} {a : Array Value} {pc : Nat} {ls : Array Slot} {st0 rest : List Value}
theorem vx_keep {st₀ t T' : State} {L : List Loc} (h0 : st₀.heap = H) (e1 : T'.heap = t.heap) (hS : va_S A0 H0 H locs) (hA : ∀ q, q < H.size → A1 q → A0 q) (hf : ∀ q, free q → A0 q) (hL : ∀ q ∈ L, free q.base) (hF : va_F A1 st₀ t) :
    H.size ≤ T'.heap.size ∧ (∀ q : Nat, q < H.size → ¬ A1 q → T'.heap[q]? = H[q]?) ∧ va_S A0 H0 T'.heap (locs ++ L) := by
  obtain ⟨hz, hk⟩ := hF
  rw [h0] at hz hk
  exact ⟨by rw [e1]; exact hz, fun q h1 h2 => by rw [e1]; exact hk q h1 h2,
    ⟨Nat.le_trans hS.1 (by rw [e1]; exact hz), fun q h1 h2 => by rw [e1, hk q (Nat.lt_of_lt_of_le h1 hS.1) (fun z => h2 (hA q (Nat.lt_of_lt_of_le h1 hS.1) z))]; exact hS.2.1 q h1 h2, fun q hq => by
      rcases List.mem_append.mp hq with h | h
      · exact hS.2.2 q h
      · exact hf _ (hL q h)⟩⟩
theorem vx_calli {S SX : Type} {post : Int32 → S → Prop} {px : SX → Prop} {B : S → State → Prop} {BX : String → SX → State → Prop} {AX : Nat → Prop} (hr : vx_Run p l e R s m args below meth c H locs cells slots mc ms (F0 m pc ls st0) rest (va_Qi post B A1 a) (vx_X px BX AX) free) (hS : va_S A0 H0 H locs) (hA : ∀ q, q < H.size → A1 q → A0 q) (hf : ∀ q, free q → A0 q) (hAX : ∀ q, q < H.size → AX q → A0 q)
    (kx : ∀ (E : String) (ce : Cell) (q9 : Addr) (u : SX) (t : State) (H1 : Heap) (locs1 : List Loc), t.heap = H1 → s.vm.Alike t.vm → px u → BX E u t → H.size ≤ H1.size → (∀ q : Nat, q < H.size → ¬ AX q → H1[q]? = H[q]?) → va_S A0 H0 H1 locs1 → H1[q9]? = some ce → ce.vm = .none → s.vm.findClass E = some ce.cls → vx_W p l e R s m args below meth c H1 locs1 (cells + mc) (slots + ms) Q (F0 m pc ls rest) q9)
    (kk : ∀ (r : Int32) (u : S) (t : State) (H1 : Heap) (locs1 : List Loc), t.heap = H1 → s.vm.Alike t.vm → post r u → B u t → H.size ≤ H1.size → (∀ q : Nat, q < H.size → ¬ A1 q → H1[q]? = H[q]?) → va_S A0 H0 H1 locs1 → W p l e R s m args below meth c H1 locs1 (cells + mc) (slots + ms) Q (F0 m (pc + 3) ls (.int r :: rest))) : W p l e R s m args below meth c H locs cells slots Q (F0 m pc ls st0) := by
  intro T hT X
  rcases hr T hT X with ⟨v, st₀, t, T', L, h0, X', hL, e1, e2, ⟨⟨r, u, hv, hp, hb⟩, hF⟩, st⟩ | ⟨q, st₀, t, T', L, E, ce, h0, X', hL, e1, e2, ⟨u, hp, hb, hF⟩, hce, hcv, hcl, st⟩
  · cases hv
    obtain ⟨k1, k2, k3⟩ := vx_keep h0 e1 hS hA hf hL hF
    obtain ⟨t2, a1, b1⟩ := kk r u t T'.heap (locs ++ L) e1.symm (by rw [← e2]; exact X'.warmed.alike) hp hb k1 k2 k3 T' rfl X'
    exact ⟨t2, st t2 a1, b1⟩
  · obtain ⟨k1, k2, k3⟩ := vx_keep h0 e1 hS hAX hf hL hF
    obtain ⟨t2, a1, b1⟩ := kx E ce q u t T'.heap (locs ++ L) e1.symm (by rw [← e2]; exact X'.warmed.alike) hp hb k1 k2 k3 (by rw [e1]; exact hce) hcv hcl T' rfl X'
    exact ⟨t2, st.trans a1, b1⟩
theorem vx_calll {S SX : Type} {post : Int64 → S → Prop} {px : SX → Prop} {B : S → State → Prop} {BX : String → SX → State → Prop} {AX : Nat → Prop} (hr : vx_Run p l e R s m args below meth c H locs cells slots mc ms (F0 m pc ls st0) rest (va_Ql post B A1 a) (vx_X px BX AX) free) (hS : va_S A0 H0 H locs) (hA : ∀ q, q < H.size → A1 q → A0 q) (hf : ∀ q, free q → A0 q) (hAX : ∀ q, q < H.size → AX q → A0 q)
    (kx : ∀ (E : String) (ce : Cell) (q9 : Addr) (u : SX) (t : State) (H1 : Heap) (locs1 : List Loc), t.heap = H1 → s.vm.Alike t.vm → px u → BX E u t → H.size ≤ H1.size → (∀ q : Nat, q < H.size → ¬ AX q → H1[q]? = H[q]?) → va_S A0 H0 H1 locs1 → H1[q9]? = some ce → ce.vm = .none → s.vm.findClass E = some ce.cls → vx_W p l e R s m args below meth c H1 locs1 (cells + mc) (slots + ms) Q (F0 m pc ls rest) q9)
    (kk : ∀ (r : Int64) (u : S) (t : State) (H1 : Heap) (locs1 : List Loc), t.heap = H1 → s.vm.Alike t.vm → post r u → B u t → H.size ≤ H1.size → (∀ q : Nat, q < H.size → ¬ A1 q → H1[q]? = H[q]?) → va_S A0 H0 H1 locs1 → W p l e R s m args below meth c H1 locs1 (cells + mc) (slots + ms) Q (F0 m (pc + 3) ls (.long r :: rest))) : W p l e R s m args below meth c H locs cells slots Q (F0 m pc ls st0) := by
  intro T hT X
  rcases hr T hT X with ⟨v, st₀, t, T', L, h0, X', hL, e1, e2, ⟨⟨r, u, hv, hp, hb⟩, hF⟩, st⟩ | ⟨q, st₀, t, T', L, E, ce, h0, X', hL, e1, e2, ⟨u, hp, hb, hF⟩, hce, hcv, hcl, st⟩
  · cases hv
    obtain ⟨k1, k2, k3⟩ := vx_keep h0 e1 hS hA hf hL hF
    obtain ⟨t2, a1, b1⟩ := kk r u t T'.heap (locs ++ L) e1.symm (by rw [← e2]; exact X'.warmed.alike) hp hb k1 k2 k3 T' rfl X'
    exact ⟨t2, st t2 a1, b1⟩
  · obtain ⟨k1, k2, k3⟩ := vx_keep h0 e1 hS hAX hf hL hF
    obtain ⟨t2, a1, b1⟩ := kx E ce q u t T'.heap (locs ++ L) e1.symm (by rw [← e2]; exact X'.warmed.alike) hp hb k1 k2 k3 (by rw [e1]; exact hce) hcv hcl T' rfl X'
    exact ⟨t2, st.trans a1, b1⟩
theorem vx_callf {S SX : Type} {post : UInt32 → S → Prop} {px : SX → Prop} {B : S → State → Prop} {BX : String → SX → State → Prop} {AX : Nat → Prop} (hr : vx_Run p l e R s m args below meth c H locs cells slots mc ms (F0 m pc ls st0) rest (va_Qf post B A1 a) (vx_X px BX AX) free) (hS : va_S A0 H0 H locs) (hA : ∀ q, q < H.size → A1 q → A0 q) (hf : ∀ q, free q → A0 q) (hAX : ∀ q, q < H.size → AX q → A0 q)
    (kx : ∀ (E : String) (ce : Cell) (q9 : Addr) (u : SX) (t : State) (H1 : Heap) (locs1 : List Loc), t.heap = H1 → s.vm.Alike t.vm → px u → BX E u t → H.size ≤ H1.size → (∀ q : Nat, q < H.size → ¬ AX q → H1[q]? = H[q]?) → va_S A0 H0 H1 locs1 → H1[q9]? = some ce → ce.vm = .none → s.vm.findClass E = some ce.cls → vx_W p l e R s m args below meth c H1 locs1 (cells + mc) (slots + ms) Q (F0 m pc ls rest) q9)
    (kk : ∀ (r : UInt32) (u : S) (t : State) (H1 : Heap) (locs1 : List Loc), t.heap = H1 → s.vm.Alike t.vm → post r u → B u t → H.size ≤ H1.size → (∀ q : Nat, q < H.size → ¬ A1 q → H1[q]? = H[q]?) → va_S A0 H0 H1 locs1 → W p l e R s m args below meth c H1 locs1 (cells + mc) (slots + ms) Q (F0 m (pc + 3) ls (.float r :: rest))) : W p l e R s m args below meth c H locs cells slots Q (F0 m pc ls st0) := by
  intro T hT X
  rcases hr T hT X with ⟨v, st₀, t, T', L, h0, X', hL, e1, e2, ⟨⟨r, u, hv, hp, hb⟩, hF⟩, st⟩ | ⟨q, st₀, t, T', L, E, ce, h0, X', hL, e1, e2, ⟨u, hp, hb, hF⟩, hce, hcv, hcl, st⟩
  · cases hv
    obtain ⟨k1, k2, k3⟩ := vx_keep h0 e1 hS hA hf hL hF
    obtain ⟨t2, a1, b1⟩ := kk r u t T'.heap (locs ++ L) e1.symm (by rw [← e2]; exact X'.warmed.alike) hp hb k1 k2 k3 T' rfl X'
    exact ⟨t2, st t2 a1, b1⟩
  · obtain ⟨k1, k2, k3⟩ := vx_keep h0 e1 hS hAX hf hL hF
    obtain ⟨t2, a1, b1⟩ := kx E ce q u t T'.heap (locs ++ L) e1.symm (by rw [← e2]; exact X'.warmed.alike) hp hb k1 k2 k3 (by rw [e1]; exact hce) hcv hcl T' rfl X'
    exact ⟨t2, st.trans a1, b1⟩
theorem vx_calld {S SX : Type} {post : UInt64 → S → Prop} {px : SX → Prop} {B : S → State → Prop} {BX : String → SX → State → Prop} {AX : Nat → Prop} (hr : vx_Run p l e R s m args below meth c H locs cells slots mc ms (F0 m pc ls st0) rest (va_Qd post B A1 a) (vx_X px BX AX) free) (hS : va_S A0 H0 H locs) (hA : ∀ q, q < H.size → A1 q → A0 q) (hf : ∀ q, free q → A0 q) (hAX : ∀ q, q < H.size → AX q → A0 q)
    (kx : ∀ (E : String) (ce : Cell) (q9 : Addr) (u : SX) (t : State) (H1 : Heap) (locs1 : List Loc), t.heap = H1 → s.vm.Alike t.vm → px u → BX E u t → H.size ≤ H1.size → (∀ q : Nat, q < H.size → ¬ AX q → H1[q]? = H[q]?) → va_S A0 H0 H1 locs1 → H1[q9]? = some ce → ce.vm = .none → s.vm.findClass E = some ce.cls → vx_W p l e R s m args below meth c H1 locs1 (cells + mc) (slots + ms) Q (F0 m pc ls rest) q9)
    (kk : ∀ (r : UInt64) (u : S) (t : State) (H1 : Heap) (locs1 : List Loc), t.heap = H1 → s.vm.Alike t.vm → post r u → B u t → H.size ≤ H1.size → (∀ q : Nat, q < H.size → ¬ A1 q → H1[q]? = H[q]?) → va_S A0 H0 H1 locs1 → W p l e R s m args below meth c H1 locs1 (cells + mc) (slots + ms) Q (F0 m (pc + 3) ls (.double r :: rest))) : W p l e R s m args below meth c H locs cells slots Q (F0 m pc ls st0) := by
  intro T hT X
  rcases hr T hT X with ⟨v, st₀, t, T', L, h0, X', hL, e1, e2, ⟨⟨r, u, hv, hp, hb⟩, hF⟩, st⟩ | ⟨q, st₀, t, T', L, E, ce, h0, X', hL, e1, e2, ⟨u, hp, hb, hF⟩, hce, hcv, hcl, st⟩
  · cases hv
    obtain ⟨k1, k2, k3⟩ := vx_keep h0 e1 hS hA hf hL hF
    obtain ⟨t2, a1, b1⟩ := kk r u t T'.heap (locs ++ L) e1.symm (by rw [← e2]; exact X'.warmed.alike) hp hb k1 k2 k3 T' rfl X'
    exact ⟨t2, st t2 a1, b1⟩
  · obtain ⟨k1, k2, k3⟩ := vx_keep h0 e1 hS hAX hf hL hF
    obtain ⟨t2, a1, b1⟩ := kx E ce q u t T'.heap (locs ++ L) e1.symm (by rw [← e2]; exact X'.warmed.alike) hp hb k1 k2 k3 (by rw [e1]; exact hce) hcv hcl T' rfl X'
    exact ⟨t2, st.trans a1, b1⟩
theorem vx_callv {S SX : Type} {post : S → Prop} {px : SX → Prop} {B : S → State → Prop} {BX : String → SX → State → Prop} {AX : Nat → Prop} (hr : vx_Run p l e R s m args below meth c H locs cells slots mc ms (F0 m pc ls st0) rest (va_Qv post B A1 a) (vx_X px BX AX) free) (hS : va_S A0 H0 H locs) (hA : ∀ q, q < H.size → A1 q → A0 q) (hf : ∀ q, free q → A0 q) (hAX : ∀ q, q < H.size → AX q → A0 q)
    (kx : ∀ (E : String) (ce : Cell) (q9 : Addr) (u : SX) (t : State) (H1 : Heap) (locs1 : List Loc), t.heap = H1 → s.vm.Alike t.vm → px u → BX E u t → H.size ≤ H1.size → (∀ q : Nat, q < H.size → ¬ AX q → H1[q]? = H[q]?) → va_S A0 H0 H1 locs1 → H1[q9]? = some ce → ce.vm = .none → s.vm.findClass E = some ce.cls → vx_W p l e R s m args below meth c H1 locs1 (cells + mc) (slots + ms) Q (F0 m pc ls rest) q9)
    (kk : ∀ (u : S) (t : State) (H1 : Heap) (locs1 : List Loc), t.heap = H1 → s.vm.Alike t.vm → post u → B u t → H.size ≤ H1.size → (∀ q : Nat, q < H.size → ¬ A1 q → H1[q]? = H[q]?) → va_S A0 H0 H1 locs1 → W p l e R s m args below meth c H1 locs1 (cells + mc) (slots + ms) Q (F0 m (pc + 3) ls (rest))) : W p l e R s m args below meth c H locs cells slots Q (F0 m pc ls st0) := by
  intro T hT X
  rcases hr T hT X with ⟨v, st₀, t, T', L, h0, X', hL, e1, e2, ⟨⟨u, hv, hp, hb⟩, hF⟩, st⟩ | ⟨q, st₀, t, T', L, E, ce, h0, X', hL, e1, e2, ⟨u, hp, hb, hF⟩, hce, hcv, hcl, st⟩
  · cases hv
    obtain ⟨k1, k2, k3⟩ := vx_keep h0 e1 hS hA hf hL hF
    obtain ⟨t2, a1, b1⟩ := kk u t T'.heap (locs ++ L) e1.symm (by rw [← e2]; exact X'.warmed.alike) hp hb k1 k2 k3 T' rfl X'
    exact ⟨t2, st t2 a1, b1⟩
  · obtain ⟨k1, k2, k3⟩ := vx_keep h0 e1 hS hAX hf hL hF
    obtain ⟨t2, a1, b1⟩ := kx E ce q u t T'.heap (locs ++ L) e1.symm (by rw [← e2]; exact X'.warmed.alike) hp hb k1 k2 k3 (by rw [e1]; exact hce) hcv hcl T' rfl X'
    exact ⟨t2, st.trans a1, b1⟩
/-- caught by the row x of this method's table; the rows ahead don't take it -/
theorem vx_catch {own name : String} {E : String} {ce : Cell} {q : Addr} (hown : s.vm.findClass own = some m.cls) (pre : List ExceptionTableEntry) (x : ExceptionTableEntry) (suf : List ExceptionTableEntry) (hsplit : c.exceptionTable.toList = pre ++ x :: suf)
    (hpass : ∀ z ∈ pre, covers z pc = false ∨ (z.catchType ≠ 0 ∧ ∃ nm : String, (Cond.classLink own z.catchType nm).before args s = true ∧ va_Nc E nm s)) (hx : covers x pc = true) (h0 : x.catchType ≠ 0)
    (hlink : (Cond.classLink own x.catchType name).before args s = true) (hcast : (Cond.castable E name).before args s = true) (hcell : H[q]? = some ce) (hv : ce.vm = .none) (hcl : s.vm.findClass E = some ce.cls)
    (kk : W p l e R s m args below meth c H locs cells slots Q (F0 m x.handlerPc ls [.ref q])) : vx_W p l e R s m args below meth c H locs cells slots Q (F0 m pc ls rest) q := by
  intro T hT X
  have hpl : e.platform.magicAccessors = ({} : Platform).magicAccessors := by rw [X.admits.platform]
  obtain ⟨c3, c4, hc3, hc4, hasg⟩ := Cond.castable_spec hcast
  cases Option.some.inj (hc3.symm.trans hcl)
  obtain ⟨c5, hc5, hcl5⟩ := Cond.classLink_spec hown hlink e.platform hpl
  cases Option.some.inj (hc4.symm.trans hc5)
  obtain ⟨vm', X', st⟩ := X.thenCaughtThrough q (g := F0 m pc ls rest) rfl (Steps.refl _) (by rw [hT]; exact hcell) (by rw [hv]; rfl) (by obtain ⟨k9, h9, -⟩ := Vm.findClass_spec hcl; exact ⟨k9, h9⟩) pre x suf hsplit
    (fun z hz => by
      rcases hpass z hz with h | ⟨hz0, nm, hl1, hn1⟩
      · exact Or.inl h
      · obtain ⟨c6, hc6, hcl6⟩ := Cond.classLink_spec hown hl1 e.platform hpl
        obtain ⟨a8, b8, h1, h2, h3⟩ := hn1
        cases Option.some.inj (h1.symm.trans hcl)
        cases Option.some.inj (h2.symm.trans hc6)
        exact Or.inr ⟨hz0, _, hcl6, h3⟩) hx (Or.inr ⟨h0, c4, hcl5, hasg⟩)
  obtain ⟨t, a1, b1⟩ := kk (T.setVm vm') hT X'
  exact ⟨t, st.trans a1, b1⟩
end Rows
section Ends
variable {p : Program} {l : Launch} {e : Env} {R : Room} {s : State} {m : MethodId} {args : Array Value} {below : List Frame} {meth : Method} {c : Code} {H : Heap} {locs : List Loc} {cells slots : Nat} {Q : State → Prop}
variable {mc ms : Nat} {free : Addr → Prop} {A0 A1 : Nat → Prop} {H0 : Heap} {a : Array Value} {ls : Array Slot} {st0 rest : List Value}
variable {Qc : Array Value → State → Outcome → State → Prop} {XC : String → State → State → Prop}
/-- what a body that may throw owes at its end -/
def vx_MQ (below : List Frame) (Qc : Array Value → State → Outcome → State → Prop) (XC : String → State → State → Prop) (a : Array Value) (s : State) (mc ms : Nat) (free : Addr → Prop) : State → Prop := fun t =>
  ∃ o, t.status = .running ∧ Ended t below o ∧ vx_Q Qc XC mc ms free a s o t
theorem vx_ret {g : JFrame} {mc ms : Nat} (k : W p l e R s m args below meth c H locs cells slots (MQ below Qc args s mc ms free) g) : W p l e R s m args below meth c H locs cells slots (vx_MQ below Qc XC args s mc ms free) g := by
  intro T hT X
  obtain ⟨t, a1, o, b1, b2, b3, b4⟩ := k T hT X
  exact ⟨t, a1, o, b1, b2, Or.inl ⟨b3, b4⟩⟩
/-- not caught here: it goes on to the caller -/
theorem vx_widen {g : JFrame} {q : Addr} {k n : Nat} (h1 : cells ≤ k) (h2 : slots ≤ n) (kk : vx_W p l e R s m args below meth c H locs k n Q g q) : vx_W p l e R s m args below meth c H locs cells slots Q g q := fun T hT X => kk T hT (stand_widen X h1 h2)
theorem vx_out {pc : Nat} {E : String} {ce : Cell} {q : Addr} {mc ms : Nat} (hout : ∀ x ∈ c.exceptionTable.toList, covers x pc = false) (hlocks : meth.locks = false) (hcell : H[q]? = some ce) (hv : ce.vm = .none) (hcl : s.vm.findClass E = some ce.cls)
    (hx : ∀ t : State, t.heap = H → s.vm.Alike t.vm → XC E s t) (hf : ∀ z ∈ locs, free z.base) (hc : cells ≤ mc) (hs : slots ≤ ms) :
    vx_W p l e R s m args below meth c H locs cells slots (vx_MQ below Qc XC args s mc ms free) (F0 m pc ls rest) q := by
  intro T hT X
  obtain ⟨st1, hrun, hend, hW, hsm⟩ := X.leaveThrown q (g := F0 m pc ls rest) rfl rfl rfl hout hlocks
  have hcell9 : (T.setFrames (.throwing q :: below)).heap[q]? = some ce := by
    show T.heap[q]? = some ce
    rw [hT]; exact hcell
  exact ⟨_, st1, .threw q, hrun, hend, Or.inr ⟨q, rfl, E, ce, locs, hx _ hT hW.alike, hcell9, hv, hcl, hW, hsm.mono hc hs, hf⟩⟩
theorem vx_frame {U : State} {k n : Nat} (h : s.sameButNew ({ U with vm := s.vm } : State) locs k n) : s.heap.size ≤ U.heap.size ∧ ∀ q : Nat, q < s.heap.size → (∀ z ∈ locs, z.base ≠ q) → U.heap[q]? = s.heap[q]? := by
  obtain ⟨-, h2, -, -, -, h6⟩ := h
  refine ⟨h2, fun q hq hz => ?_⟩
  obtain ⟨c9, e1, e2, e3, e4⟩ := h6 q _ (Array.getElem?_eq_getElem hq)
  have hs : c9.slots = (s.heap[q]).slots := Array.ext_getElem? fun i => e4 i fun hm => hz _ hm rfl
  have h9 : c9 = s.heap[q] := by
    rw [hs] at e2
    exact e2
  have e5 : U.heap[q]? = some c9 := e1
  rw [e5, h9, Array.getElem?_eq_getElem hq]
/-- the words of a throw but the four that speak of the heap -/
def vx_no (w : Cond) : Bool := decide (w ≠ .isRef (.static Bundle.tN "UNASSIGNED_STACK" Bundle.steD)) && decide (w ≠ .isRef (.static Bundle.tN "SUPPRESSED_SENTINEL" Bundle.listD)) && decide (w ≠ .laysStatic Bundle.tN "UNASSIGNED_STACK" Bundle.steD) && decide (w ≠ .laysStatic Bundle.tN "SUPPRESSED_SENTINEL" Bundle.listD)
def vx_at0 (own : String) (ic : Nat) (X : String) (names : List String) : List Cond := (Bundle.ownAtoms0 own ic X names).filter vx_no
def vx_atS (own : String) (ic : Nat) (X : String) (names : List String) : List Cond := (Bundle.ownAtoms own ic X names).filter vx_no
/-- a word that the tables alone decide, or a good one -/
def vx_ot (w : Cond) : Bool := w.onTables || goodWord w
theorem vx_ot_at {args a' : Array Value} {s U : State} {w : Cond} (hW : s.WarmedH U.vm) (hvm : s.vm = U.vm) (hg : vx_ot w = true) (h : w.before args s = true) : w.before a' U = true := by
  simp only [vx_ot, Bool.or_eq_true] at hg
  rcases hg with hg | hg
  · exact va_tabs hg hvm h
  · exact word_at hW (good_of_word hg) h
/-- a list's words: the good ones out of the method's own list, the others by premises of their own -/
theorem vx_hat {args : Array Value} {s : State} {L B : List Cond} (h1 : ∀ w ∈ L.filter goodWord, w.before args s = true) (h2 : ∀ w ∈ L.filter (fun w => !goodWord w), w ∈ B) (h3 : ∀ w ∈ B, w.before args s = true) : ∀ w ∈ L, w.before args s = true := by
  intro w hw
  by_cases g : goodWord w = true
  · exact h1 w (List.mem_filter.mpr ⟨hw, g⟩)
  · refine h3 w (h2 w (List.mem_filter.mpr ⟨hw, ?_⟩))
    show (!goodWord w) = true
    cases hgw : goodWord w
    · rfl
    · exact absurd hgw g
theorem vx_c {args : Array Value} {s : State} {w : Cond} {B : List Cond} (h : w.before args s = true) (t : ∀ w ∈ B, w.before args s = true) : ∀ w' ∈ w :: B, w'.before args s = true := fun w' h' => (List.mem_cons.mp h').elim (fun e => by rw [e]; exact h) (t w')
theorem vx_n {args : Array Value} {s : State} : ∀ w ∈ ([] : List Cond), w.before args s = true := fun _ h => nomatch h
theorem vx_own {args : Array Value} {s : State} {L : List Cond} (h1 : ∀ w ∈ L.filter vx_no, w.before args s = true)
    (hU : (Cond.isRef (.static Bundle.tN "UNASSIGNED_STACK" Bundle.steD)).before args s = true) (hN : (Cond.isRef (.static Bundle.tN "SUPPRESSED_SENTINEL" Bundle.listD)).before args s = true)
    (lU : (Cond.laysStatic Bundle.tN "UNASSIGNED_STACK" Bundle.steD).before args s = true) (lN : (Cond.laysStatic Bundle.tN "SUPPRESSED_SENTINEL" Bundle.listD).before args s = true) : ∀ w ∈ L, w.before args s = true := by
  intro w hw
  by_cases e1 : w = .isRef (.static Bundle.tN "UNASSIGNED_STACK" Bundle.steD)
  · rw [e1]; exact hU
  · by_cases e2 : w = .isRef (.static Bundle.tN "SUPPRESSED_SENTINEL" Bundle.listD)
    · rw [e2]; exact hN
    · by_cases e3 : w = .laysStatic Bundle.tN "UNASSIGNED_STACK" Bundle.steD
      · rw [e3]; exact lU
      · by_cases e4 : w = .laysStatic Bundle.tN "SUPPRESSED_SENTINEL" Bundle.listD
        · rw [e4]; exact lN
        · exact h1 w (List.mem_filter.mpr ⟨hw, by unfold vx_no; rw [decide_eq_true e1, decide_eq_true e2, decide_eq_true e3, decide_eq_true e4]; rfl⟩)
/-- where a static field lies, its class's statics cell in H -/
def vx_L (C n d : String) (A : Nat → Prop) (U : State) (H : Heap) : Prop := ∃ (c : ClassId) (k : Class) (i : Nat) (f : Field) (a : Nat) (cell : Cell), U.vm.findClass C = some c ∧ U.fieldFound? C n d = some (c, k, i, f) ∧ f.isStatic = true ∧ k.statics = some a ∧ H[a]? = some cell ∧ cell.vm.isStatics = true ∧ cell.cls = c ∧ f.slot < cell.slots.size ∧ k.staticTypes[f.slot]? = some f.type ∧ ¬ A a
theorem vx_L.moved {C n d : String} {A : Nat → Prop} {u U : State} {H : Heap} (hvm : u.vm.Alike U.vm) (h : vx_L C n d A u H) : vx_L C n d A U H := by
  obtain ⟨c, k, i, f, a, cell, h1, h2, h3, h4, h5, h6, h7, h8, h9, h10⟩ := h
  obtain ⟨k', hi', he⟩ := State.fieldFound?_setVm hvm h2
  exact ⟨c, k', i, f, a, cell, by rw [hvm.findClass]; exact h1, hi', h3, by rw [he]; exact h4, h5, h6, h7, h8, by rw [he]; exact h9, h10⟩
theorem vx_L.kept {C n d : String} {A : Nat → Prop} {U : State} {H H1 : Heap} (h : vx_L C n d A U H) (hq : ∀ a : Nat, a < H.size → ¬ A a → H1[a]? = H[a]?) : vx_L C n d A U H1 := by
  obtain ⟨c, k, i, f, a, cell, h1, h2, h3, h4, h5, h6, h7, h8, h9, h10⟩ := h
  exact ⟨c, k, i, f, a, cell, h1, h2, h3, h4, by rw [hq a (Array.getElem?_eq_some_iff.mp h5).1 h10]; exact h5, h6, h7, h8, h9, h10⟩
theorem vx_L.narrow {C n d : String} {A B : Nat → Prop} {U : State} {H : Heap} (h : vx_L C n d A U H) (hAB : ∀ q, B q → A q) : vx_L C n d B U H := by
  obtain ⟨c, k, i, f, a, cell, h1, h2, h3, h4, h5, h6, h7, h8, h9, h10⟩ := h
  exact ⟨c, k, i, f, a, cell, h1, h2, h3, h4, h5, h6, h7, h8, h9, fun z => h10 (hAB _ z)⟩
theorem vx_L.word {C n d : String} {A : Nat → Prop} {s : State} {args : Array Value} (h : vx_L C n d A s s.heap) : (Cond.laysStatic C n d).before args s = true := by
  obtain ⟨c, k, i, f, a, cell, h1, h2, h3, h4, h5, h6, h7, h8, h9, -⟩ := h
  show (Cond.laysStatic C n d).holds args s none s [] = true
  exact Cond.laysStatic_of h1 h2 h3 h4 h5 h6 h7 h8 h9
/-- .. and what it holds: null or some reference -/
def vx_Zq (C n d : String) (A : Nat → Prop) (U : State) (H : Heap) : Prop := va_Zq C n d A U H ∧ vx_L C n d A U H
theorem vx_Zq.moved {C n d : String} {A : Nat → Prop} {u U : State} {H : Heap} (hvm : u.vm.Alike U.vm) (h : vx_Zq C n d A u H) : vx_Zq C n d A U H := ⟨va_Zq.moved hvm h.1, vx_L.moved hvm h.2⟩
theorem vx_Zq.kept {C n d : String} {A : Nat → Prop} {U : State} {H H1 : Heap} (h : vx_Zq C n d A U H) (hq : ∀ a : Nat, a < H.size → ¬ A a → H1[a]? = H[a]?) : vx_Zq C n d A U H1 := ⟨va_Zq.kept h.1 hq, vx_L.kept h.2 hq⟩
theorem vx_Zq.narrow {C n d : String} {A B : Nat → Prop} {U : State} {H : Heap} (h : vx_Zq C n d A U H) (hAB : ∀ q, B q → A q) : vx_Zq C n d B U H := ⟨va_Zq.narrow h.1 hAB, vx_L.narrow h.2 hAB⟩
theorem vx_Zqof {args : Array Value} {s : State} {C n d : String} {A : Nat → Prop} (hl : (Cond.laysStatic C n d).before args s = true) (hini : (Cond.initialized C).before args s = true) (h : (Cond.isRef (.static C n d)).before args s = true) (hA : ∀ a : Nat, a < s.heap.size → ¬ A a) : vx_Zq C n d A s s.heap := by
  refine ⟨va_Zqof hl hini h hA, ?_⟩
  obtain ⟨c, k, i, f, a, cell, h1, h2, h3, h4, h5, h6, h7, h8, h9⟩ := Cond.laysStatic_spec hl
  exact ⟨c, k, i, f, a, cell, h1, h2, h3, h4, h5, h6, h7, h8, h9, hA a (Array.getElem?_eq_some_iff.mp h5).1⟩
theorem vx_isRef {C n d : String} {v : Value} {A : Nat → Prop} {s : State} {args : Array Value} (h : va_Z C n d v A s s.heap) (hv : v.isRef = true) : (Cond.isRef (.static C n d)).before args s = true := by
  obtain ⟨cf, kf, fi, f, a, cell, h1, h2, h3, h4, h5, h6, h7, -⟩ := h
  have he : (Term.static C n d).eval args s none [] s = some v := by
    simp [Term.eval, State.fieldNamed?, h1, h2, h4, h5, h6, h7]
  simp only [Cond.before, Cond.holds, Cond.value, he]
  cases v <;> simp_all [Value.isRef]
theorem vx_isRefq {C n d : String} {A : Nat → Prop} {s : State} {args : Array Value} (h : va_Zq C n d A s s.heap) : (Cond.isRef (.static C n d)).before args s = true := by
  rcases h with h | ⟨t, h⟩
  · exact vx_isRef h rfl
  · exact vx_isRef h rfl
/-- the same frame, seen from here: as if the method were called anew in this heap -/
theorem vx_rebase {T : State} (X : Stand p l e R s m args below meth c T locs cells slots) {R' : Room} (hf : R'.frames ≤ R.frames) (hl : R'.locals ≤ R.locals) (hc : cells + R'.cells ≤ R.cells) (hs : slots + R'.slots ≤ R.slots) :
    Stand p l e R' ((T.setVm s.vm).setFrames (.invoking m args :: below)) m args below meth c T [] 0 0 := by
  have htop : (T.setVm s.vm).topJava?.isSome := X.here.top
  have hF : ((T.setVm s.vm).setFrames (.invoking m args :: below)).frames = .invoking m args :: below := State.frames_setFrames _ (State.cur_lt_of_top htop)
  obtain ⟨g₀, hg0⟩ := Option.isSome_iff_exists.mp htop
  obtain ⟨r, hr⟩ := State.topJava?_eq_some.mp hg0
  have hl9 : e.platform.stackLimits (T.setVm s.vm).me = e.platform.stackLimits s.me := X.limits
  have hb9 : (T.setVm s.vm).me.stackBytes = s.me.stackBytes := X.bytes
  refine ⟨X.admits, X.cas, X.clock, hF, ?_, X.hears, X.method, X.code, X.here, X.tail, X.warmed, ?_, ?_, ?_⟩
  · have h := X.room
    have hU : ((T.setVm s.vm).setFrames (.invoking m args :: below)).localsInUse = s.localsInUse := by
      rw [State.localsInUse_invoking hF (meth := meth) (c := c) X.method X.code, State.localsInUse_invoking X.frames X.method X.code]
    simp only [State.hasRoom, Bool.and_eq_true, decide_eq_true_eq] at h ⊢
    obtain ⟨⟨⟨⟨h1, h2, h3, h4, h5, h6⟩, h7⟩, h8⟩, h9⟩ := h
    rw [X.frames, List.length_cons] at h2 h3
    have q1 := X.heapSize
    have q2 := X.used
    simp only [hF, hU, List.length_cons, State.stackLimits_setFrames, State.stackBytes_setFrames, hl9, hb9]
    refine ⟨⟨⟨⟨by omega, by omega, by omega, by omega, by omega, h6⟩, ?_⟩, ?_⟩, X.book⟩
    · show T.heap.size + R'.cells ≤ e.platform.maxCells
      omega
    · show T.slotsUsed + R'.slots ≤ e.platform.maxSlots
      omega
  · rw [State.stackLimits_setFrames]; rfl
  · rw [State.stackBytes_setFrames]; rfl
  · refine ⟨?_, Nat.le_refl _, Nat.le_refl _, ?_, ?_, fun a c9 h9 => ⟨c9, h9, rfl, rfl, fun _ _ => rfl⟩⟩
    · obtain ⟨t, ht, -⟩ := State.frames_cons hr
      show T.setVm s.vm = { ((T.setVm s.vm).setFrames (.invoking m args :: below)).setFrames (T.setVm s.vm).frames with heap := T.heap, slotsUsed := T.slotsUsed }
      rw [State.setFrames_setFrames, State.setFrames_self ht]
      rfl
    · show T.slotsUsed = T.slotsUsed + ((T.heap.toList.drop T.heap.size).map (·.slots.size)).sum
      rw [List.drop_eq_nil_of_le (Nat.le_of_eq Array.length_toList)]
      rfl
    · show ((T.heap.toList.drop T.heap.size).map (·.slots.size)).sum ≤ 0
      rw [List.drop_eq_nil_of_le (Nat.le_of_eq Array.length_toList)]
      exact Nat.le_refl _
/-- 'throw new E()': new; dup; invokespecial; athrow -/
theorem vx_throw0 {cc : ByteArray} {pc : Nat} (hexec : p.tables.exec = Jvm.exec) (hb : c.code = cc) (hl : l.stackTraces = false) {own cls : String} {names : List String} {ik ic mc ms : Nat} {A : Nat → Prop}
    (hown : s.vm.findClass own = some m.cls) (hcls : Bundle.fit cls = true) (hnames : ∀ n ∈ names, Bundle.fit n = true)
    (hk : (Cond.classLink own ik cls).before args s = true) (hini : (Cond.initialized cls).before args s = true) (hat : ∀ w ∈ vx_at0 own ic cls names, w.before args s = true)
    (hgood : ∀ w ∈ Cond.classLink own ik cls :: Cond.initialized cls :: vx_at0 own ic cls names, vx_ot w = true)
    (hU : vx_Zq Bundle.tN "UNASSIGNED_STACK" Bundle.steD A s s.heap) (hN : vx_Zq Bundle.tN "SUPPRESSED_SENTINEL" Bundle.listD A s s.heap) (hS : va_S A s.heap H locs) (hsize : ls.size = c.maxLocals)
    (d0 : decode cc pc = .ok (.new ik, 3)) (d3 : decode cc (pc + 3) = .ok (.dup, 1)) (d4 : decode cc (pc + 4) = .ok (.invokespecial ic, 3)) (d7 : decode cc (pc + 7) = .ok (.athrow, 1))
    (hout : ∀ x ∈ c.exceptionTable.toList, covers x (pc + 7) = false)
    (hRframes : names.length + 3 < R.frames) (hRlocals : (rest.map fun v => v.category).sum + (13 * (names.length + 1) + 42) ≤ R.locals) (hRcells : cells + 1 ≤ R.cells) (hRslots : slots + 6 ≤ R.slots) (hlocks : meth.locks = false)
    (hx : ∀ t : State, s.vm.Alike t.vm → H.size ≤ t.heap.size → (∀ q : Nat, q < H.size → t.heap[q]? = H[q]?) → XC cls s t)
    (hf : ∀ z ∈ locs, free z.base) (hc : cells + 1 ≤ mc) (hs : slots + 6 ≤ ms) :
    W p l e R s m args below meth c H locs cells slots (vx_MQ below Qc XC args s mc ms free) (F0 m pc ls rest) := by
  intro T hT X
  have htr : e.platform.stackTraces = false := (show e.platform.stackTraces = l.stackTraces by rw [X.admits.platform]).trans hl
  have Y := vx_rebase X (R' := { frames := R.frames, locals := R.locals, cells := 1, slots := 6 }) (Nat.le_refl _) (Nat.le_refl _) hRcells hRslots
  obtain ⟨s', hA⟩ : ∃ z, z = (T.setVm s.vm).setFrames (.invoking m args :: below) := ⟨_, rfl⟩
  rw [← hA] at Y
  have hvm : s'.vm = s.vm := by rw [hA]; rfl
  have hhp : s'.heap = H := by rw [hA]; exact hT
  have hW0 : s.WarmedH s'.vm := by rw [hvm]; exact State.WarmedH.refl s
  have hat' : ∀ w ∈ vx_at0 own ic cls names, w.before args s' = true := fun w hw => vx_ot_at hW0 hvm.symm (hgood w (List.mem_cons_of_mem _ (List.mem_cons_of_mem _ hw))) (hat w hw)
  have hk' : (Cond.classLink own ik cls).before args s' = true := vx_ot_at hW0 hvm.symm (hgood _ List.mem_cons_self) hk
  have hini' : (Cond.initialized cls).before args s' = true := vx_ot_at hW0 hvm.symm (hgood _ (List.mem_cons_of_mem _ List.mem_cons_self)) hini
  have hU' : vx_Zq Bundle.tN "UNASSIGNED_STACK" Bundle.steD A s' s'.heap := by rw [hhp]; exact vx_Zq.moved hW0.alike (hU.kept hS.2.1)
  have hN' : vx_Zq Bundle.tN "SUPPRESSED_SENTINEL" Bundle.listD A s' s'.heap := by rw [hhp]; exact vx_Zq.moved hW0.alike (hN.kept hS.2.1)
  have h : ∀ w ∈ Bundle.ownAtoms0 own ic cls names, w.before args s' = true := vx_own hat' (vx_isRefq hU'.1) (vx_isRefq hN'.1) hU'.2.word hN'.2.word
  have hown' : s'.vm.findClass own = some m.cls := by rw [hvm]; exact hown
  have hins : (Cond.instantiable cls 6).before args s' = true := h _ (by simp [Bundle.ownAtoms0])
  obtain ⟨vm₁, cX, kX, hfX, hkX, -, -, X₁, st1⟩ := Y.newCold hexec (own := own) (C := cls) (index := ik) (n := 6) hown' hk' hins hini'
    (g := F0 m pc ls rest) rfl (by rw [hb]; exact d0) (Nat.le_refl _) (Nat.le_refl _)
  generalize hT1 : (T.setVm vm₁).pushCell { cls := cX, slots := kX.instanceTypes.map defaultValue, vm := .none } = T1 at X₁ st1
  have hcat : (Value.ref T.heap.size).category = 1 := rfl
  have hcellA : T1.heap[T.heap.size]? = some (freshCell cX kX) := by rw [← hT1]; exact State.heap_pushCell_size _ _
  have d3' : decode c.code (pc + 3) = .ok (.dup, 1) := by rw [hb]; exact d3
  obtain ⟨U, hsteps, hrun, hend, hW, hsame, ce, hce, hO⟩ := X₁.ctorThrow0 hexec htr (own := own) (cls := cls) (names := names) (ic := ic) hown' hcls hnames h (fun x hx => nomatch hx) hfX hkX hcellA (by rw [hhp, hT]; exact Nat.le_refl _)
    (g := { method := m, pc := pc + 4, locals := ls, stack := .ref T.heap.size :: .ref T.heap.size :: rest, locked := none }) rfl hsize rfl rfl (rest := rest) rfl
    (by rw [hb]; exact d4) (by rw [hb]; exact d7) hout hRframes (by simp only [List.map_cons, List.sum_cons, hcat]; omega) hlocks
  obtain ⟨f1, f2⟩ := vx_frame hsame
  rw [hhp] at f1 f2
  have hWs : s.WarmedH U.vm := State.WarmedH.trans hW0 hW
  have hcl : s.vm.findClass cls = some ce.cls := by
    have h9 := hO.cls
    rw [hvm] at h9
    exact h9
  have hall : s.sameButNew ({ U with vm := s.vm } : State) locs mc ms := by
    subst hA
    obtain ⟨e1, e2⟩ := hsame
    rw [State.setFrames_setFrames] at e1
    have h2 : (T.setVm s.vm).sameButNew ({ U with vm := s.vm } : State) [] (0 + 1) (0 + 6) := ⟨e1, e2⟩
    have h3 := X.same.trans h2
    rw [List.append_nil] at h3
    exact h3.mono hc hs
  refine ⟨U, ?_, .threw T.heap.size, hrun, hend, Or.inr ⟨T.heap.size, rfl, cls, ce, locs, hx U hWs.alike f1 (fun q hq => f2 q hq (fun z hz => nomatch hz)), hce, hO.vm, hcl, hWs, hall, hf⟩⟩
  refine st1 _ ?_
  show Steps p.tables e below (T1.setTop { method := m, pc := pc + 3, locals := ls, stack := .ref T.heap.size :: rest, locked := none }) _
  jvm_step X₁.here [X₁.here.top, hexec, d3', Value.category]
  exact hsteps
/-- 'throw new E("text")': new; dup; ldc; invokespecial; athrow -/
theorem vx_throwS {cc : ByteArray} {pc : Nat} (hexec : p.tables.exec = Jvm.exec) (hb : c.code = cc) (hl : l.stackTraces = false) {own cls text : String} {names : List String} {ik is ic mc ms sa : Nat} {A : Nat → Prop}
    (hown : s.vm.findClass own = some m.cls) (hcls : Bundle.fit cls = true) (hnames : ∀ n ∈ names, Bundle.fit n = true)
    (hk : (Cond.classLink own ik cls).before args s = true) (hini : (Cond.initialized cls).before args s = true) (hstr : vk_R own is text sa s) (hat : ∀ w ∈ vx_atS own ic cls names, w.before args s = true)
    (hgood : ∀ w ∈ Cond.classLink own ik cls :: Cond.initialized cls :: vx_atS own ic cls names, vx_ot w = true)
    (hU : vx_Zq Bundle.tN "UNASSIGNED_STACK" Bundle.steD A s s.heap) (hN : vx_Zq Bundle.tN "SUPPRESSED_SENTINEL" Bundle.listD A s s.heap) (hS : va_S A s.heap H locs) (hsize : ls.size = c.maxLocals)
    (d0 : decode cc pc = .ok (.new ik, 3)) (d3 : decode cc (pc + 3) = .ok (.dup, 1)) (d4 : decode cc (pc + 4) = .ok (.ldc is, 2)) (d6 : decode cc (pc + 6) = .ok (.invokespecial ic, 3)) (d9 : decode cc (pc + 9) = .ok (.athrow, 1))
    (hout : ∀ x ∈ c.exceptionTable.toList, covers x (pc + 9) = false)
    (hRframes : names.length + 3 < R.frames) (hRlocals : (rest.map fun v => v.category).sum + (13 * (names.length + 1) + 43) ≤ R.locals) (hRcells : cells + 1 ≤ R.cells) (hRslots : slots + 6 ≤ R.slots) (hlocks : meth.locks = false)
    (hx : ∀ t : State, s.vm.Alike t.vm → H.size ≤ t.heap.size → (∀ q : Nat, q < H.size → t.heap[q]? = H[q]?) → XC cls s t)
    (hf : ∀ z ∈ locs, free z.base) (hc : cells + 1 ≤ mc) (hs : slots + 6 ≤ ms) :
    W p l e R s m args below meth c H locs cells slots (vx_MQ below Qc XC args s mc ms free) (F0 m pc ls rest) := by
  intro T hT X
  have htr : e.platform.stackTraces = false := (show e.platform.stackTraces = l.stackTraces by rw [X.admits.platform]).trans hl
  have Y := vx_rebase X (R' := { frames := R.frames, locals := R.locals, cells := 1, slots := 6 }) (Nat.le_refl _) (Nat.le_refl _) hRcells hRslots
  obtain ⟨s', hA⟩ : ∃ z, z = (T.setVm s.vm).setFrames (.invoking m args :: below) := ⟨_, rfl⟩
  rw [← hA] at Y
  have hvm : s'.vm = s.vm := by rw [hA]; rfl
  have hhp : s'.heap = H := by rw [hA]; exact hT
  have hW0 : s.WarmedH s'.vm := by rw [hvm]; exact State.WarmedH.refl s
  have hat' : ∀ w ∈ vx_atS own ic cls names, w.before args s' = true := fun w hw => vx_ot_at hW0 hvm.symm (hgood w (List.mem_cons_of_mem _ (List.mem_cons_of_mem _ hw))) (hat w hw)
  have hk' : (Cond.classLink own ik cls).before args s' = true := vx_ot_at hW0 hvm.symm (hgood _ List.mem_cons_self) hk
  have hini' : (Cond.initialized cls).before args s' = true := vx_ot_at hW0 hvm.symm (hgood _ (List.mem_cons_of_mem _ List.mem_cons_self)) hini
  have hU' : vx_Zq Bundle.tN "UNASSIGNED_STACK" Bundle.steD A s' s'.heap := by rw [hhp]; exact vx_Zq.moved hW0.alike (hU.kept hS.2.1)
  have hN' : vx_Zq Bundle.tN "SUPPRESSED_SENTINEL" Bundle.listD A s' s'.heap := by rw [hhp]; exact vx_Zq.moved hW0.alike (hN.kept hS.2.1)
  have h : ∀ w ∈ Bundle.ownAtoms own ic cls names, w.before args s' = true := vx_own hat' (vx_isRefq hU'.1) (vx_isRefq hN'.1) hU'.2.word hN'.2.word
  have hown' : s'.vm.findClass own = some m.cls := by rw [hvm]; exact hown
  have hins : (Cond.instantiable cls 6).before args s' = true := h _ (by simp [Bundle.ownAtoms])
  obtain ⟨vm₁, cX, kX, hfX, hkX, -, -, X₁, st1⟩ := Y.newCold hexec (own := own) (C := cls) (index := ik) (n := 6) hown' hk' hins hini'
    (g := F0 m pc ls rest) rfl (by rw [hb]; exact d0) (Nat.le_refl _) (Nat.le_refl _)
  generalize hT1 : (T.setVm vm₁).pushCell { cls := cX, slots := kX.instanceTypes.map defaultValue, vm := .none } = T1 at X₁ st1
  have hcat : (Value.ref T.heap.size).category = 1 := rfl
  have hcellA : T1.heap[T.heap.size]? = some (freshCell cX kX) := by rw [← hT1]; exact State.heap_pushCell_size _ _
  have d3' : decode c.code (pc + 3) = .ok (.dup, 1) := by rw [hb]; exact d3
  have d4' : decode c.code (pc + 4) = .ok (.ldc is, 2) := by rw [hb]; exact d4
  have hstr' : vk_R own is text sa s' := vk_R.warm hW0 hstr
  obtain ⟨U, hsteps, hrun, hend, hW, hsame, ce, hce, hO⟩ := X₁.ctorThrowS hexec htr (own := own) (cls := cls) (names := names) (ic := ic) hown' hcls hnames h (fun x hx => nomatch hx) hfX hkX hcellA (by rw [hhp, hT]; exact Nat.le_refl _) (msg := .ref sa) rfl
    (g := { method := m, pc := pc + 6, locals := ls, stack := .ref sa :: .ref T.heap.size :: .ref T.heap.size :: rest, locked := none }) rfl hsize rfl rfl (rest := rest) rfl
    (by rw [hb]; exact d6) (by rw [hb]; exact d9) hout hRframes (by simp only [List.map_cons, List.sum_cons, hcat]; omega) hlocks
  obtain ⟨f1, f2⟩ := vx_frame hsame
  rw [hhp] at f1 f2
  have hWs : s.WarmedH U.vm := State.WarmedH.trans hW0 hW
  have hcl : s.vm.findClass cls = some ce.cls := by
    have h9 := hO.cls
    rw [hvm] at h9
    exact h9
  have hall : s.sameButNew ({ U with vm := s.vm } : State) locs mc ms := by
    subst hA
    obtain ⟨e1, e2⟩ := hsame
    rw [State.setFrames_setFrames] at e1
    have h2 : (T.setVm s.vm).sameButNew ({ U with vm := s.vm } : State) [] (0 + 1) (0 + 6) := ⟨e1, e2⟩
    have h3 := X.same.trans h2
    rw [List.append_nil] at h3
    exact h3.mono hc hs
  refine ⟨U, ?_, .threw T.heap.size, hrun, hend, Or.inr ⟨T.heap.size, rfl, cls, ce, locs, hx U hWs.alike f1 (fun q hq => f2 q hq (fun z hz => nomatch hz)), hce, hO.vm, hcl, hWs, hall, hf⟩⟩
  refine st1 _ ?_
  show Steps p.tables e below (T1.setTop { method := m, pc := pc + 3, locals := ls, stack := .ref T.heap.size :: rest, locked := none }) _
  jvm_step X₁.here [X₁.here.top, hexec, d3', Value.category]
  exact X₁.ldcString hexec (own := own) (text := text) (index := is) (a := sa) hown' hstr'.1 hstr'.2
    (g := { method := m, pc := pc + 4, locals := ls, stack := .ref T.heap.size :: .ref T.heap.size :: rest, locked := none }) rfl d4' _ hsteps
/-- 'throw new E("text")', the text by a wide index -/
theorem vx_throwSW {cc : ByteArray} {pc : Nat} (hexec : p.tables.exec = Jvm.exec) (hb : c.code = cc) (hl : l.stackTraces = false) {own cls text : String} {names : List String} {ik is ic mc ms sa : Nat} {A : Nat → Prop}
    (hown : s.vm.findClass own = some m.cls) (hcls : Bundle.fit cls = true) (hnames : ∀ n ∈ names, Bundle.fit n = true)
    (hk : (Cond.classLink own ik cls).before args s = true) (hini : (Cond.initialized cls).before args s = true) (hstr : vk_R own is text sa s) (hat : ∀ w ∈ vx_atS own ic cls names, w.before args s = true)
    (hgood : ∀ w ∈ Cond.classLink own ik cls :: Cond.initialized cls :: vx_atS own ic cls names, vx_ot w = true)
    (hU : vx_Zq Bundle.tN "UNASSIGNED_STACK" Bundle.steD A s s.heap) (hN : vx_Zq Bundle.tN "SUPPRESSED_SENTINEL" Bundle.listD A s s.heap) (hS : va_S A s.heap H locs) (hsize : ls.size = c.maxLocals)
    (d0 : decode cc pc = .ok (.new ik, 3)) (d3 : decode cc (pc + 3) = .ok (.dup, 1)) (d4 : decode cc (pc + 4) = .ok (.ldc_w is, 3)) (d7 : decode cc (pc + 7) = .ok (.invokespecial ic, 3)) (d10 : decode cc (pc + 10) = .ok (.athrow, 1))
    (hout : ∀ x ∈ c.exceptionTable.toList, covers x (pc + 10) = false)
    (hRframes : names.length + 3 < R.frames) (hRlocals : (rest.map fun v => v.category).sum + (13 * (names.length + 1) + 43) ≤ R.locals) (hRcells : cells + 1 ≤ R.cells) (hRslots : slots + 6 ≤ R.slots) (hlocks : meth.locks = false)
    (hx : ∀ t : State, s.vm.Alike t.vm → H.size ≤ t.heap.size → (∀ q : Nat, q < H.size → t.heap[q]? = H[q]?) → XC cls s t)
    (hf : ∀ z ∈ locs, free z.base) (hc : cells + 1 ≤ mc) (hs : slots + 6 ≤ ms) :
    W p l e R s m args below meth c H locs cells slots (vx_MQ below Qc XC args s mc ms free) (F0 m pc ls rest) := by
  intro T hT X
  have htr : e.platform.stackTraces = false := (show e.platform.stackTraces = l.stackTraces by rw [X.admits.platform]).trans hl
  have Y := vx_rebase X (R' := { frames := R.frames, locals := R.locals, cells := 1, slots := 6 }) (Nat.le_refl _) (Nat.le_refl _) hRcells hRslots
  obtain ⟨s', hA⟩ : ∃ z, z = (T.setVm s.vm).setFrames (.invoking m args :: below) := ⟨_, rfl⟩
  rw [← hA] at Y
  have hvm : s'.vm = s.vm := by rw [hA]; rfl
  have hhp : s'.heap = H := by rw [hA]; exact hT
  have hW0 : s.WarmedH s'.vm := by rw [hvm]; exact State.WarmedH.refl s
  have hat' : ∀ w ∈ vx_atS own ic cls names, w.before args s' = true := fun w hw => vx_ot_at hW0 hvm.symm (hgood w (List.mem_cons_of_mem _ (List.mem_cons_of_mem _ hw))) (hat w hw)
  have hk' : (Cond.classLink own ik cls).before args s' = true := vx_ot_at hW0 hvm.symm (hgood _ List.mem_cons_self) hk
  have hini' : (Cond.initialized cls).before args s' = true := vx_ot_at hW0 hvm.symm (hgood _ (List.mem_cons_of_mem _ List.mem_cons_self)) hini
  have hU' : vx_Zq Bundle.tN "UNASSIGNED_STACK" Bundle.steD A s' s'.heap := by rw [hhp]; exact vx_Zq.moved hW0.alike (hU.kept hS.2.1)
  have hN' : vx_Zq Bundle.tN "SUPPRESSED_SENTINEL" Bundle.listD A s' s'.heap := by rw [hhp]; exact vx_Zq.moved hW0.alike (hN.kept hS.2.1)
  have h : ∀ w ∈ Bundle.ownAtoms own ic cls names, w.before args s' = true := vx_own hat' (vx_isRefq hU'.1) (vx_isRefq hN'.1) hU'.2.word hN'.2.word
  have hown' : s'.vm.findClass own = some m.cls := by rw [hvm]; exact hown
  have hins : (Cond.instantiable cls 6).before args s' = true := h _ (by simp [Bundle.ownAtoms])
  obtain ⟨vm₁, cX, kX, hfX, hkX, -, -, X₁, st1⟩ := Y.newCold hexec (own := own) (C := cls) (index := ik) (n := 6) hown' hk' hins hini'
    (g := F0 m pc ls rest) rfl (by rw [hb]; exact d0) (Nat.le_refl _) (Nat.le_refl _)
  generalize hT1 : (T.setVm vm₁).pushCell { cls := cX, slots := kX.instanceTypes.map defaultValue, vm := .none } = T1 at X₁ st1
  have hcat : (Value.ref T.heap.size).category = 1 := rfl
  have hcellA : T1.heap[T.heap.size]? = some (freshCell cX kX) := by rw [← hT1]; exact State.heap_pushCell_size _ _
  have d3' : decode c.code (pc + 3) = .ok (.dup, 1) := by rw [hb]; exact d3
  have d4' : decode c.code (pc + 4) = .ok (.ldc_w is, 3) := by rw [hb]; exact d4
  have hstr' : vk_R own is text sa s' := vk_R.warm hW0 hstr
  obtain ⟨U, hsteps, hrun, hend, hW, hsame, ce, hce, hO⟩ := X₁.ctorThrowS hexec htr (own := own) (cls := cls) (names := names) (ic := ic) hown' hcls hnames h (fun x hx => nomatch hx) hfX hkX hcellA (by rw [hhp, hT]; exact Nat.le_refl _) (msg := .ref sa) rfl
    (g := { method := m, pc := pc + 7, locals := ls, stack := .ref sa :: .ref T.heap.size :: .ref T.heap.size :: rest, locked := none }) rfl hsize rfl rfl (rest := rest) rfl
    (by rw [hb]; exact d7) (by rw [hb]; exact d10) hout hRframes (by simp only [List.map_cons, List.sum_cons, hcat]; omega) hlocks
  obtain ⟨f1, f2⟩ := vx_frame hsame
  rw [hhp] at f1 f2
  have hWs : s.WarmedH U.vm := State.WarmedH.trans hW0 hW
  have hcl : s.vm.findClass cls = some ce.cls := by
    have h9 := hO.cls
    rw [hvm] at h9
    exact h9
  have hall : s.sameButNew ({ U with vm := s.vm } : State) locs mc ms := by
    subst hA
    obtain ⟨e1, e2⟩ := hsame
    rw [State.setFrames_setFrames] at e1
    have h2 : (T.setVm s.vm).sameButNew ({ U with vm := s.vm } : State) [] (0 + 1) (0 + 6) := ⟨e1, e2⟩
    have h3 := X.same.trans h2
    rw [List.append_nil] at h3
    exact h3.mono hc hs
  refine ⟨U, ?_, .threw T.heap.size, hrun, hend, Or.inr ⟨T.heap.size, rfl, cls, ce, locs, hx U hWs.alike f1 (fun q hq => f2 q hq (fun z hz => nomatch hz)), hce, hO.vm, hcl, hWs, hall, hf⟩⟩
  refine st1 _ ?_
  show Steps p.tables e below (T1.setTop { method := m, pc := pc + 3, locals := ls, stack := .ref T.heap.size :: rest, locked := none }) _
  jvm_step X₁.here [X₁.here.top, hexec, d3', Value.category]
  exact X₁.ldcStringW hexec (own := own) (text := text) (index := is) (a := sa) hown' hstr'.1 hstr'.2
    (g := { method := m, pc := pc + 4, locals := ls, stack := .ref T.heap.size :: .ref T.heap.size :: rest, locked := none }) rfl d4' _ hsteps
end Ends
section Bodies
variable {l : Launch}
theorem vx_ofW {y : MethodName} {ws ws' : List Cond} {rm : Room} {Pc : Array Value → State → Prop} {Qc : Array Value → State → Outcome → State → Prop} {XC : String → State → State → Prop} {mc ms : Nat} {free : Addr → Prop} {cc : ByteArray} {maxL : Nat} {ret : Option FieldType}
    (hy : plainName y.cls = true) (hw : ws = Cond.code y cc maxL ret :: ws')
    (body : ∀ p e s m args below meth c s₁, BodyLoose p l y (headSpec ws rm) cc maxL ret e s m args below meth c s₁ → c.maxLocals = maxL → (∀ x ∈ c.exceptionTable.toList, False) → Pc args s →
      W p l e (headSpec ws rm).room s m args below meth c s.heap [] 0 0 (vx_MQ below Qc XC args s mc ms free) (entryFrame m args maxL)) : vx_Met l y ws rm Pc Qc XC mc ms free := by
  refine MetFree.of_bodyS (code := cc) (maxLocals := maxL) (ret := ret) hy ?_ ?_
  · intro args s m h hn
    obtain ⟨meth, c, h1, h2, h3, h4, h5, h6, -, -⟩ := Cond.code_spec hn (atoms_spec (ws := ws) h _ (by rw [hw]; exact List.mem_cons_self))
    exact ⟨meth, c, h1, h2, h3, h4, h5, h6⟩
  · intro p e s m args below meth c s₁ B hml hP _
    have hh0 : s₁.heap = s.heap := by rw [B.state]; rfl
    have ht : ∀ x ∈ c.exceptionTable.toList, False := by
      obtain ⟨meth9, c9, h1, h2, -, -, -, -, h7, -⟩ := Cond.code_spec B.named (atoms_spec (ws := ws) B.pre _ (by rw [hw]; exact List.mem_cons_self))
      cases Option.some.inj (h1.symm.trans B.method)
      cases Option.some.inj (h2.symm.trans (Stand.of_body B).code)
      intro x hx
      rw [Array.isEmpty_iff.mp h7] at hx
      cases hx
    obtain ⟨t, a1, o, b1, b2, b3⟩ := body p e s m args below meth c s₁ B hml ht hP s₁ hh0 (Stand.of_body B)
    exact ⟨t, o, a1, b1, b2, b3⟩
/-- the table of a body with handlers -/
theorem vx_table {p : Program} {x y : MethodName} {S : Spec} {cc bytes : ByteArray} {maxL maxL' : Nat} {ret ret' : Option FieldType} {e : Env} {s s₁ : State} {m : MethodId} {args : Array Value} {below : List Frame} {meth : Method} {c : Code} {hh : List (Nat × Nat × Nat × Nat)}
    (B : BodyLoose p l y S cc maxL ret e s m args below meth c s₁) (h : (Cond.codeWith y bytes maxL' ret' hh).before args s = true) : c.exceptionTable.toList = tableOf hh := by
  obtain ⟨m9, meth9, c9, hn9, h1, h2, -, -, h6, -⟩ := Cond.codeWith_spec h
  cases Option.some.inj (hn9.symm.trans B.named)
  cases Option.some.inj (h1.symm.trans B.method)
  cases Option.some.inj (h2.symm.trans (Stand.of_body B).code)
  rw [← h6, table_eq]
end Bodies
end VXA
/-! ===== END ===== -/
/-! ===== BEGIN a static call of a method with an exception table ===== -/
section VXS
variable {p : Program} {l : Launch} {e : Env} {R : Room} {s : State} {m : MethodId} {args : Array Value} {below : List Frame} {meth : Method} {c : Code} {T : State} {H : Heap} {locs : List Loc} {cells slots : Nat}
abbrev vx_CSW (R : Room) (s : State) (args : Array Value) (own : String) (index : Nat) (y : MethodName) (bytes : ByteArray) (maxL : Nat) (ret : Option FieldType) (hh : List (Nat × Nat × Nat × Nat)) (ws : List Cond) (rm : Room) (mc ms n : Nat) : Prop :=
  (rm.cells = mc ∧ rm.slots = ms ∧ rm.frames + 1 ≤ R.frames ∧ 8 + (maxL + 11) + rm.locals ≤ R.locals ∧ (∀ w ∈ ws, ∀ (a' : Array Value) (U : State), s.WarmedH U.vm → w.before a' U = true) ∧ Cond.codeWith y bytes maxL ret hh ∈ ws) ∧
  (Cond.codeWith y bytes maxL ret hh).before args s = true ∧ (Cond.initialized y.cls).before args s = true ∧ (y.cls ≠ "java/lang/invoke/MethodHandle" ∧ y.cls ≠ "java/lang/invoke/VarHandle") ∧
  (∀ sig, parseMethodDescriptor y.desc = some sig → n = sig.parameters.length) ∧ (Cond.methodLink own index y).before args s = true ∧ (Cond.static y).before args s = true
theorem vx_cwSW {own : String} {index maxL mc ms : Nat} {y : MethodName} {bytes : ByteArray} {ret : Option FieldType} {hh : List (Nat × Nat × Nat × Nat)} {Ts ws ws' : List Cond} {rm : Room} (n : Nat) (ht : ∀ w ∈ Ts, w.before args s = true) (hT : GoodIn Ts (va_wsS own index y ws)) (hw : ws = Cond.codeWith y bytes maxL ret hh :: ws') (hrc : rm.cells = mc) (hrs : rm.slots = ms)
    (hd : y.cls ≠ "java/lang/invoke/MethodHandle" ∧ y.cls ≠ "java/lang/invoke/VarHandle" ∧ (parseMethodDescriptor y.desc).map (fun d => d.parameters.length) = some n) (hR : rm.frames + 1 ≤ R.frames ∧ 8 + (maxL + 11) + rm.locals ≤ R.locals) :
    vx_CSW R s args own index y bytes maxL ret hh ws rm mc ms n := by
  have ok : ∀ w ∈ va_wsS own index y ws, w.before args s = true := fun w h => ht w (hT w h).1
  have hG : GoodIn Ts ws := fun w h => hT w (by unfold va_wsS; exact List.mem_append_right _ h)
  have hc : Cond.codeWith y bytes maxL ret hh ∈ ws := by rw [hw]; exact List.mem_cons_self
  refine ⟨⟨hrc, hrs, hR.1, hR.2, pay_in ht hG, hc⟩, ht _ (hG _ hc).1, ok _ (by simp [va_wsS]), ⟨hd.1, hd.2.1⟩, fun sig h => ?_, ok _ (by simp [va_wsS]), ok _ (by simp [va_wsS])⟩
  have h2 := hd.2.2
  rw [h] at h2
  exact (Option.some.inj h2).symm
theorem vx_callSW (X : Stand p l e R s m args below meth c T locs cells slots) (hexec : p.tables.exec = Jvm.exec) {own : String} {index : Nat} {y : MethodName} {bytes : ByteArray} {maxL : Nat} {ret : Option FieldType} {hh : List (Nat × Nat × Nat × Nat)}
    (hown : s.vm.findClass own = some m.cls) (hlink : (Cond.methodLink own index y).before args s = true) (hstat : (Cond.static y).before args s = true) (hinit : (Cond.initialized y.cls).before args s = true)
    (hcode : (Cond.codeWith y bytes maxL ret hh).before args s = true) (hy : y.cls ≠ "java/lang/invoke/MethodHandle" ∧ y.cls ≠ "java/lang/invoke/VarHandle")
    {W9 : Nat} {Pre : Pt → Array Value → Prop} {Post : Pt → Array Value → Option Value → Pt → Prop} (hK : Back l R p e below s args y 3 W9 Pre Post)
    {g : JFrame} (hg : g.method = m) (hsize : g.locals.size = c.maxLocals) {argsL rest : List Value} (hlen : ∀ sig, parseMethodDescriptor y.desc = some sig → argsL.length = sig.parameters.length)
    (hstack : g.stack = argsL.reverse ++ rest) (hW : 2 * g.monitorRoom + (rest.map fun v => v.category).sum ≤ W9) (hdg : decode c.code g.pc = .ok (.invokestatic index, 3))
    (hpre : ∀ vm₁, s.WarmedH vm₁ → Pre ⟨T.setVm vm₁, locs, cells, slots⟩ argsL.toArray) :
    ∃ (v : Option Value) (vm₁ : Vm) (B : Pt), s.WarmedH vm₁ ∧ Stand p l e R s m args below meth c B.U B.locs B.cells B.slots ∧ Post ⟨T.setVm vm₁, locs, cells, slots⟩ argsL.toArray v B ∧
      ∀ target, Steps p.tables e below (B.U.setTop { g with pc := g.pc + 3, stack := v.toList ++ rest }) target → Steps p.tables e below (T.setTop g) target := by
  obtain ⟨mk, methM, cM, hnamed, hmethM, -, -, -, -, -, -, hsigM⟩ := Cond.codeWith_spec hcode
  have hstatic : methM.isStatic = true := Cond.static_spec hnamed hmethM hstat
  obtain ⟨kP, hkP, -⟩ := className_of_methodNamed hnamed
  have hinitP : kP.init = .initialized := Cond.initialized_spec (findClass_of_methodNamed hnamed) hkP hinit
  obtain ⟨vm₁, X₁, hstep₁⟩ := X.invokestatic hexec hown hlink hnamed hmethM hstatic hkP hinitP hy (g := g) hg (argsL := argsL) (rest := rest) (hlen _ hsigM) hstack hdg
  obtain ⟨v, B, X', hpost, hsteps⟩ := hK m meth c ⟨T.setVm vm₁, locs, cells, slots⟩ { g with stack := rest } (.invokestatic index) mk argsL.toArray X₁ hg hsize hdg hW (X₁.named hnamed) (hpre vm₁ X₁.warmed)
  exact ⟨v, vm₁, B, X₁.warmed, X', hpost, fun target h => hstep₁ _ fun acts => by rw [doInvoke_state]; exact hsteps.trans h⟩
theorem vx_runSW {y : MethodName} {bytes cc : ByteArray} {maxL nL mc ms n index : Nat} {ret : Option FieldType} {hh : List (Nat × Nat × Nat × Nat)} {ws : List Cond} {rm : Room} {Pc : Array Value → State → Prop} {Qc : Array Value → State → Outcome → State → Prop} {free : Addr → Prop} {Ts : List Cond} {own : String} {As rest : List Value} {g : JFrame}
    (S : CallFix p m c cc nL s args Ts own) (hM : Met l y ws rm Pc Qc mc ms free) (cw : vx_CSW R s args own index y bytes maxL ret hh ws rm mc ms n) (hp : PreS s H Pc As)
    (hg : g.method = m) (hn : As.length = n) (hsize : g.locals.size = nL) (hstack : g.stack = As.reverse ++ rest) (hW : 2 * g.monitorRoom + (rest.map fun v => v.category).sum ≤ 8) (hdg : decode cc g.pc = .ok (.invokestatic index, 3)) (hf : cells + mc ≤ R.cells ∧ slots + ms ≤ R.slots) :
    va_Run p l e R s m args below meth c H locs cells slots mc ms g rest (Qc As.toArray) (free) := by
  obtain ⟨⟨hrc, hrs, hfr, hlo, hws, hcw⟩, hcode, hini, hy, hlen, hl, hstt⟩ := cw
  have hK : Back l R p e below s args y 3 8 (PreOf R mc ms Pc) (PostOf Qc mc ms free) := va_backW (hh := hh) (bytes := bytes) (maxL := maxL) (ret := ret) hM hp.1 hrc hrs hfr hlo hws hcw (fun a' U hW => word_at hW (Or.inl (by first | rfl | simp [Cond.onTables, Cond.keeps, Cond.steady])) hini)
  obtain ⟨hx, hb, hml, ho, -⟩ := S
  intro T hT X
  obtain ⟨v, vm₁, ⟨U', l2, c2, s2⟩, hW₁, X', ⟨g', mk, t, L, e1, e2, hq, h1, hL, h2, h3⟩, st⟩ := vx_callSW X hx (hh := hh) (bytes := bytes) (maxL := maxL) (ret := ret) ho hl hstt hini hcode hy hK hg (hsize.trans hml.symm) (argsL := As) (rest := rest) (fun sig h => hn.trans (hlen sig h)) hstack hW (by rw [hb]; exact hdg)
    (fun vm₁ hW₁ => ⟨hf.1, hf.2, hp.2 (T.setVm vm₁) hT hW₁⟩)
  dsimp only [Pt.U, Pt.locs, Pt.cells, Pt.slots] at X' e1 e2 h1 h2 h3 st
  subst h1; subst h2; subst h3
  exact ⟨v, (T.setVm vm₁).calling g' mk As.toArray, t, U', L, hT, X', hL, e1, e2, hq, st⟩
/-- not caught here, past rows that name other classes: it goes on to the caller -/
theorem vx_outP {p : Program} {l : Launch} {e : Env} {R : Room} {s : State} {m : MethodId} {args : Array Value} {below : List Frame} {meth : Method} {c : Code} {H : Heap} {locs : List Loc} {cells slots : Nat} {free : Addr → Prop} {ls : Array Slot} {rest : List Value} {Qc : Array Value → State → Outcome → State → Prop} {XC : String → State → State → Prop}
    {pc : Nat} {own E : String} {ce : Cell} {q : Addr} {mc ms : Nat} (hown : s.vm.findClass own = some m.cls) (hlocks : meth.locks = false)
    (hpass : ∀ z ∈ c.exceptionTable.toList, covers z pc = false ∨ (z.catchType ≠ 0 ∧ ∃ nm : String, (Cond.classLink own z.catchType nm).before args s = true ∧ va_Nc E nm s)) (hcell : H[q]? = some ce) (hv : ce.vm = .none) (hcl : s.vm.findClass E = some ce.cls)
    (hx : ∀ t : State, t.heap = H → s.vm.Alike t.vm → XC E s t) (hf : ∀ z ∈ locs, free z.base) (hc : cells ≤ mc) (hs : slots ≤ ms) :
    vx_W p l e R s m args below meth c H locs cells slots (vx_MQ below Qc XC args s mc ms free) (F0 m pc ls rest) q := by
  intro T hT X
  have hpl : e.platform.magicAccessors = ({} : Platform).magicAccessors := by rw [X.admits.platform]
  obtain ⟨vm', hW', X', st⟩ := X.outThrough hlocks q (g := F0 m pc ls rest) rfl rfl rfl (cell := ce) (by rw [hT]; exact hcell) (by rw [hv]; rfl)
    (by obtain ⟨k9, h9, -⟩ := Vm.findClass_spec hcl; exact ⟨k9, h9⟩) (fun z hz => by
      rcases hpass z hz with h | ⟨hz0, nm, hl1, hn1⟩
      · exact Or.inl h
      · obtain ⟨c6, hc6, hcl6⟩ := Cond.classLink_spec hown hl1 e.platform hpl
        obtain ⟨a8, b8, h1, h2, h3⟩ := hn1
        cases Option.some.inj (h1.symm.trans hcl)
        cases Option.some.inj (h2.symm.trans hc6)
        exact Or.inr ⟨hz0, _, hcl6, h3⟩)
  obtain ⟨g₀, hfr⟩ := X'.frames_eq
  have hcell9 : ((T.setVm vm').setFrames (.throwing q :: below)).heap[q]? = some ce := by
    show T.heap[q]? = some ce
    rw [hT]; exact hcell
  have hend : Ended ((T.setVm vm').setFrames (.throwing q :: below)) below (.threw q) := State.frames_setFrames _ (State.cur_lt_of_frames hfr)
  refine ⟨(T.setVm vm').setFrames (.throwing q :: below), ?_, .threw q, X'.here.running, hend, Or.inr ⟨q, rfl, E, ce, locs, hx _ hT (X'.ends _).1.alike, hcell9, hv, hcl, (X'.ends _).1, (X'.ends _).2.mono hc hs, hf⟩⟩
  rw [X.pushThrowing_eq]
  exact st
/-- a thing of a world lies in the heap -/
theorem vx_lt {D : va_G} {cl : List vw_C} {ws : va_W} {H1 : Heap} (h : va_P D cl ws H1) {k : Nat} {q : Nat × va_E} (hk : ws[k]? = some q) : q.1 < H1.size := (h k q hk).lt
end VXS
/-! ===== END ===== -/
/-! ===== BEGIN methods with a table of their own: called by a name, returning or throwing ===== -/
section VXH
/-! vx_backW, vx_callVX, vx_callSX, vx_callVW, vx_runVW, vx_runVX, vx_runSX, vx_ofWH follow the same proofs as their sisters above (Free/Laws.lean, Shelf42/LK1.lean); vx_outP calls Shelf42/NT130.lean (outThrough). -/
section
variable {l : Launch} {R : Room} {p : Program} {e : Env} {below : List Frame} {s : State} {sargs : Array Value} {y : MethodName} {len W9 : Nat}
theorem vx_backW {ws : List Cond} {rm : Room} {Pc : Array Value → State → Prop} {Qc : Array Value → State → Outcome → State → Prop} {XC : String → State → State → Prop} {mc ms : Nat} {free : Addr → Prop} {bytes : ByteArray} {maxL : Nat} {ret : Option FieldType} {hh : List (Nat × Nat × Nat × Nat)}
    (hM : vx_Met l y ws rm Pc Qc XC mc ms free) (hblind : FrameBlind Pc) (hrc : rm.cells = mc) (hrs : rm.slots = ms)
    (hframes : rm.frames + 1 ≤ R.frames) (hlocals : W9 + (maxL + 11) + rm.locals ≤ R.locals)
    (hws : ∀ w ∈ ws, ∀ a' U, s.WarmedH U.vm → w.before a' U = true) (hcode : Cond.codeWith y bytes maxL ret hh ∈ ws) (hinit : ∀ a' U, s.WarmedH U.vm → (Cond.initialized y.cls).before a' U = true) :
    vx_Back l R p e below s sargs y len W9 (PreOf R mc ms Pc) (PostOf Qc mc ms free) (vx_Post XC mc ms free) := by
  intro m meth c A g ig mk a X hg hsize hdg hW hn hp
  have h1 : (headSpec ws rm).pre.before a A.U = true := atoms_intro fun w hw => hws w hw _ _ X.warmed
  have h2 : (Cond.codeWith y bytes maxL ret hh).before a A.U = true := hws _ hcode _ _ X.warmed
  have h3 : (Cond.initialized y.cls).before a A.U = true := hinit _ _ X.warmed
  have h4 : A.cells + (headSpec ws rm).room.cells ≤ R.cells := by rw [show (headSpec ws rm).room.cells = mc from hrc]; exact hp.1
  have h5 : A.slots + (headSpec ws rm).room.slots ≤ R.slots := by rw [show (headSpec ws rm).room.slots = ms from hrs]; exact hp.2.1
  have hPc : Pc a (A.U.calling g mk a) := hblind _ _ _ _ hp.2.2
  obtain ⟨U, Ls, c0, s0⟩ := A
  dsimp only [Pt.U, Pt.locs, Pt.cells, Pt.slots] at h1 h2 h3 h4 h5 X hn hPc ⊢
  obtain ⟨m9, methY, cY, hn9, hmY, hcY, -, hlY, -⟩ := Cond.codeWith_spec h2
  cases Option.some.inj (hn9.symm.trans hn)
  obtain ⟨kY, hkY, -⟩ := className_of_methodNamed hn
  have hinitY : kY.init = .initialized := Cond.initialized_spec (findClass_of_methodNamed hn) hkY h3
  have h : At U g.method c below := by rw [hg]; exact X.here
  have hlocals9 : W9 + (maxL + 11) + (headSpec ws rm).room.locals ≤ R.locals := hlocals
  have happ : (headSpec ws rm).appliesLoose y e.platform (U.calling g mk a) = true :=
    Spec.appliesLoose_calling (g := g) h hdg hn hkY hinitY
      (X.room_calling (g := g) (R' := (headSpec ws rm).room) hsize hmY hcY hframes (by rw [hlY]; omega) h4 h5) h1
  obtain ⟨mid, hmid⟩ := h.above
  have hfr : (U.setTop g).frames = (.java g :: mid) ++ below := by rw [State.frames_setTop' g h.top, hmid]; rfl
  obtain ⟨o, s₂, hsteps, -, hend, hq⟩ := Steps.callFree hM p X.admits X.cas X.clock (acts := []) hfr happ hPc trivial
  have hq' : vx_Q Qc XC mc ms free a (U.calling g mk a) o s₂ := hq
  rw [State.frames_setTop' g h.top] at hend
  obtain ⟨g₀, hg0⟩ := Option.isSome_iff_exists.mp h.top
  obtain ⟨r, hr⟩ := State.topJava?_eq_some.mp hg0
  have hr' : (({ U with heap := s₂.heap, slotsUsed := s₂.slotsUsed } : State).setVm s₂.vm).frames = .java g₀ :: r := hr
  rcases hq' with ⟨hqc, L, hfe, hL⟩ | ⟨q, rfl, E, ce, L, hx, hce, hcv, hcl, hW₂, hsm, hL⟩
  · obtain ⟨⟨v, rfl⟩, hW₂, e2, q2, q3, q4, q5, q6⟩ := id hfe
    have e3 : s₂ = ({ (U.calling g mk a).setFrames s₂.frames with heap := s₂.heap, slotsUsed := s₂.slotsUsed } : State).setVm s₂.vm := by
      have : s₂ = ({ s₂ with vm := (U.calling g mk a).vm } : State).setVm s₂.vm := rfl
      rw [e2] at this
      exact this
    obtain ⟨c₂, i₂, len₂, hc₂, hd₂, hf₂⟩ := hend
    have hW' : U.WarmedH s₂.vm := hW₂
    have hcc : c₂ = c := by
      have h1 : s₂.code? g.method = U.code? g.method := by
        rw [State.code?_eq, State.code?_eq, hW'.alike.method?]
      exact Option.some.inj (hc₂.symm.trans (h1.trans h.code))
    subst hcc
    have hlen : len₂ = len := by rw [hdg] at hd₂; cases hd₂; rfl
    subst hlen
    have hs₂ : s₂ = (({ U with heap := s₂.heap, slotsUsed := s₂.slotsUsed } : State).setVm s₂.vm).setTop { g with pc := g.pc + len₂, stack := v.toList ++ g.stack } := by
      refine e3.trans ?_
      rw [hf₂, State.calling_eq h.top, State.setFrames_setFrames, State.setTop_of_frames _ hr', hr]
      rfl
    have hsame : U.sameButNew ({ U with heap := s₂.heap, slotsUsed := s₂.slotsUsed } : State) L mc ms := by
      refine ⟨?_, q2, q3, q4, q5, q6⟩
      obtain ⟨t, ht, -⟩ := State.frames_cons hr
      show ({ U with heap := s₂.heap, slotsUsed := s₂.slotsUsed } : State) = { U.setFrames U.frames with heap := s₂.heap, slotsUsed := s₂.slotsUsed }
      rw [State.setFrames_self ht]
    subst hg
    refine Or.inl ⟨v, ⟨(({ U with heap := s₂.heap, slotsUsed := s₂.slotsUsed } : State).setVm s₂.vm), Ls ++ L, c0 + mc, s0 + ms⟩,
      ⟨X.admits, X.cas, X.clock, X.frames, X.room, X.hears, X.method, X.code, (X.here.setHeapUsed s₂.heap s₂.slotsUsed).setVm hW'.alike, X.tail, State.WarmedH.trans X.warmed hW', X.limits, X.bytes, X.same.trans (hsame.setVm s.vm)⟩,
      ⟨g, mk, s₂, L, rfl, rfl, hqc, rfl, hL, rfl, rfl⟩, ?_⟩
    show Steps p.tables e below _ ((({ U with heap := s₂.heap, slotsUsed := s₂.slotsUsed } : State).setVm s₂.vm).setTop { g with pc := g.pc + len₂, stack := v.toList ++ g.stack })
    rw [← hs₂]
    exact hsteps
  · obtain ⟨e2, q2, q3, q4, q5, q6⟩ := id hsm
    have e3 : s₂ = ({ (U.calling g mk a).setFrames s₂.frames with heap := s₂.heap, slotsUsed := s₂.slotsUsed } : State).setVm s₂.vm := by
      have : s₂ = ({ s₂ with vm := (U.calling g mk a).vm } : State).setVm s₂.vm := rfl
      rw [e2] at this
      exact this
    have hf₂ : s₂.frames = .throwing q :: .java g :: U.frames.tail := hend
    have hW' : U.WarmedH s₂.vm := hW₂
    have hs₂ : s₂ = ((({ U with heap := s₂.heap, slotsUsed := s₂.slotsUsed } : State).setVm s₂.vm).setTop g).pushFrame (.throwing q) := by
      refine e3.trans ?_
      rw [hf₂, State.calling_eq h.top, State.setFrames_setFrames, State.pushFrame, State.frames_setTop _ hr', State.setTop_of_frames _ hr', State.setFrames_setFrames, hr]
      rfl
    have hsame : U.sameButNew ({ U with heap := s₂.heap, slotsUsed := s₂.slotsUsed } : State) L mc ms := by
      refine ⟨?_, q2, q3, q4, q5, q6⟩
      obtain ⟨t, ht, -⟩ := State.frames_cons hr
      show ({ U with heap := s₂.heap, slotsUsed := s₂.slotsUsed } : State) = { U.setFrames U.frames with heap := s₂.heap, slotsUsed := s₂.slotsUsed }
      rw [State.setFrames_self ht]
    subst hg
    refine Or.inr ⟨q, ⟨(({ U with heap := s₂.heap, slotsUsed := s₂.slotsUsed } : State).setVm s₂.vm), Ls ++ L, c0 + mc, s0 + ms⟩,
      ⟨X.admits, X.cas, X.clock, X.frames, X.room, X.hears, X.method, X.code, (X.here.setHeapUsed s₂.heap s₂.slotsUsed).setVm hW'.alike, X.tail, State.WarmedH.trans X.warmed hW', X.limits, X.bytes, X.same.trans (hsame.setVm s.vm)⟩,
      ⟨g, mk, s₂, L, E, ce, rfl, rfl, hx, hce, hcv, hcl, rfl, hL, rfl, rfl⟩, ?_⟩
    show Steps p.tables e below _ (((({ U with heap := s₂.heap, slotsUsed := s₂.slotsUsed } : State).setVm s₂.vm).setTop g).pushFrame (.throwing q))
    rw [← hs₂]
    exact hsteps
end
variable {p : Program} {l : Launch} {e : Env} {R : Room} {s : State} {m : MethodId} {args : Array Value} {below : List Frame} {meth : Method} {c : Code} {T : State} {H : Heap} {locs : List Loc} {cells slots : Nat}
theorem vx_callVX (X : Stand p l e R s m args below meth c T locs cells slots) (hexec : p.tables.exec = Jvm.exec) {own C : String} {index : Nat} {y : MethodName} {bytes : ByteArray} {maxL : Nat} {ret : Option FieldType} {hh : List (Nat × Nat × Nat × Nat)}
    (hown : s.vm.findClass own = some m.cls) (hlink : (Cond.methodLink own index y).before args s = true) (hinst : (Cond.instanceMethod y).before args s = true) (hsel : (Cond.selects C y y).before args s = true)
    (hcode : (Cond.codeWith y bytes maxL ret hh).before args s = true) (hy : y.cls ≠ "java/lang/invoke/MethodHandle" ∧ y.cls ≠ "java/lang/invoke/VarHandle")
    {W9 : Nat} {Pre : Pt → Array Value → Prop} {Post : Pt → Array Value → Option Value → Pt → Prop} {PostX : Pt → Array Value → Addr → Pt → Prop} (hK : vx_Back l R p e below s args y 3 W9 Pre Post PostX)
    {b : Addr} {cellB : Cell} (hcell : T.heap[b]? = some cellB) (hobj : cellB.vm.isStatics = false) (hcls : s.vm.findClass C = some cellB.cls)
    {g : JFrame} (hg : g.method = m) (hsize : g.locals.size = c.maxLocals) {argsL rest : List Value} (hlen : ∀ sig, parseMethodDescriptor y.desc = some sig → argsL.length = sig.parameters.length)
    (hstack : g.stack = argsL.reverse ++ .ref b :: rest) (hW : 2 * g.monitorRoom + (rest.map fun v => v.category).sum ≤ W9) (hdg : decode c.code g.pc = .ok (.invokevirtual index, 3))
    (hpre : ∀ vm₁, s.WarmedH vm₁ → Pre ⟨T.setVm vm₁, locs, cells, slots⟩ (Value.ref b :: argsL).toArray) :
    (∃ (v : Option Value) (vm₁ : Vm) (B : Pt), s.WarmedH vm₁ ∧ Stand p l e R s m args below meth c B.U B.locs B.cells B.slots ∧ Post ⟨T.setVm vm₁, locs, cells, slots⟩ (Value.ref b :: argsL).toArray v B ∧
      ∀ target, Steps p.tables e below (B.U.setTop { g with pc := g.pc + 3, stack := v.toList ++ rest }) target → Steps p.tables e below (T.setTop g) target) ∨
    (∃ (q : Addr) (vm₁ : Vm) (B : Pt), s.WarmedH vm₁ ∧ Stand p l e R s m args below meth c B.U B.locs B.cells B.slots ∧ PostX ⟨T.setVm vm₁, locs, cells, slots⟩ (Value.ref b :: argsL).toArray q B ∧
      Steps p.tables e below (T.setTop g) ((B.U.setTop { g with stack := rest }).pushFrame (.throwing q))) := by
  obtain ⟨mk, methM, hnamed, hmethM, hstM, habM⟩ := Cond.instanceMethod_spec hinst
  obtain ⟨m8, methM', cM, hn8, hmethM', -, -, -, -, -, -, hsigM⟩ := Cond.codeWith_spec hcode
  cases Option.some.inj (hn8.symm.trans hnamed)
  cases hmethM.symm.trans hmethM'
  obtain ⟨c2, r2, m2, q1, q2, q3, q4, kP, hkP, hkPi⟩ := Cond.selects_spec hsel
  cases hcls.symm.trans q1
  cases (State.methodFound?_of_named hnamed hy).symm.trans q2
  cases hnamed.symm.trans q3
  have hselP : selectMethod e.platform s.vm cellB.cls mk = .method mk := by rw [Launch.admits_selectMethod X.admits]; exact q4
  obtain ⟨vm₁, X₁, hstep₁⟩ := X.invokevirtual hexec hown hlink hnamed hmethM hstM hkP hkPi hy (a := b) (cell := cellB) hcell
    (fun z h => by rw [h] at hobj; cases hobj) hselP hmethM habM hkP hkPi (g := g) hg (argsL := argsL) (rest := rest) (hlen _ hsigM) hstack hdg
  rcases hK m meth c ⟨T.setVm vm₁, locs, cells, slots⟩ { g with stack := rest } (.invokevirtual index) mk (Value.ref b :: argsL).toArray X₁ hg hsize hdg hW (X₁.named hnamed) (hpre vm₁ X₁.warmed) with ⟨v, B, X', hpost, hsteps⟩ | ⟨q, B, X', hpost, hsteps⟩
  · exact Or.inl ⟨v, vm₁, B, X₁.warmed, X', hpost, fun target h => hstep₁ _ fun acts => by rw [doInvoke_state]; exact hsteps.trans h⟩
  · exact Or.inr ⟨q, vm₁, B, X₁.warmed, X', hpost, hstep₁ _ fun acts => by rw [doInvoke_state]; exact hsteps⟩
theorem vx_callSX (X : Stand p l e R s m args below meth c T locs cells slots) (hexec : p.tables.exec = Jvm.exec) {own : String} {index : Nat} {y : MethodName} {bytes : ByteArray} {maxL : Nat} {ret : Option FieldType} {hh : List (Nat × Nat × Nat × Nat)}
    (hown : s.vm.findClass own = some m.cls) (hlink : (Cond.methodLink own index y).before args s = true) (hstat : (Cond.static y).before args s = true) (hinit : (Cond.initialized y.cls).before args s = true)
    (hcode : (Cond.codeWith y bytes maxL ret hh).before args s = true) (hy : y.cls ≠ "java/lang/invoke/MethodHandle" ∧ y.cls ≠ "java/lang/invoke/VarHandle")
    {W9 : Nat} {Pre : Pt → Array Value → Prop} {Post : Pt → Array Value → Option Value → Pt → Prop} {PostX : Pt → Array Value → Addr → Pt → Prop} (hK : vx_Back l R p e below s args y 3 W9 Pre Post PostX)
    {g : JFrame} (hg : g.method = m) (hsize : g.locals.size = c.maxLocals) {argsL rest : List Value} (hlen : ∀ sig, parseMethodDescriptor y.desc = some sig → argsL.length = sig.parameters.length)
    (hstack : g.stack = argsL.reverse ++ rest) (hW : 2 * g.monitorRoom + (rest.map fun v => v.category).sum ≤ W9) (hdg : decode c.code g.pc = .ok (.invokestatic index, 3))
    (hpre : ∀ vm₁, s.WarmedH vm₁ → Pre ⟨T.setVm vm₁, locs, cells, slots⟩ argsL.toArray) :
    (∃ (v : Option Value) (vm₁ : Vm) (B : Pt), s.WarmedH vm₁ ∧ Stand p l e R s m args below meth c B.U B.locs B.cells B.slots ∧ Post ⟨T.setVm vm₁, locs, cells, slots⟩ argsL.toArray v B ∧
      ∀ target, Steps p.tables e below (B.U.setTop { g with pc := g.pc + 3, stack := v.toList ++ rest }) target → Steps p.tables e below (T.setTop g) target) ∨
    (∃ (q : Addr) (vm₁ : Vm) (B : Pt), s.WarmedH vm₁ ∧ Stand p l e R s m args below meth c B.U B.locs B.cells B.slots ∧ PostX ⟨T.setVm vm₁, locs, cells, slots⟩ argsL.toArray q B ∧
      Steps p.tables e below (T.setTop g) ((B.U.setTop { g with stack := rest }).pushFrame (.throwing q))) := by
  obtain ⟨mk, methM, cM, hnamed, hmethM, -, -, -, -, -, -, hsigM⟩ := Cond.codeWith_spec hcode
  have hstatic : methM.isStatic = true := Cond.static_spec hnamed hmethM hstat
  obtain ⟨kP, hkP, -⟩ := className_of_methodNamed hnamed
  have hinitP : kP.init = .initialized := Cond.initialized_spec (findClass_of_methodNamed hnamed) hkP hinit
  obtain ⟨vm₁, X₁, hstep₁⟩ := X.invokestatic hexec hown hlink hnamed hmethM hstatic hkP hinitP hy (g := g) hg (argsL := argsL) (rest := rest) (hlen _ hsigM) hstack hdg
  rcases hK m meth c ⟨T.setVm vm₁, locs, cells, slots⟩ { g with stack := rest } (.invokestatic index) mk argsL.toArray X₁ hg hsize hdg hW (X₁.named hnamed) (hpre vm₁ X₁.warmed) with ⟨v, B, X', hpost, hsteps⟩ | ⟨q, B, X', hpost, hsteps⟩
  · exact Or.inl ⟨v, vm₁, B, X₁.warmed, X', hpost, fun target h => hstep₁ _ fun acts => by rw [doInvoke_state]; exact hsteps.trans h⟩
  · exact Or.inr ⟨q, vm₁, B, X₁.warmed, X', hpost, hstep₁ _ fun acts => by rw [doInvoke_state]; exact hsteps⟩
theorem vx_callVW (X : Stand p l e R s m args below meth c T locs cells slots) (hexec : p.tables.exec = Jvm.exec) {own C : String} {index : Nat} {y : MethodName} {bytes : ByteArray} {maxL : Nat} {ret : Option FieldType} {hh : List (Nat × Nat × Nat × Nat)}
    (hown : s.vm.findClass own = some m.cls) (hlink : (Cond.methodLink own index y).before args s = true) (hinst : (Cond.instanceMethod y).before args s = true) (hsel : (Cond.selects C y y).before args s = true)
    (hcode : (Cond.codeWith y bytes maxL ret hh).before args s = true) (hy : y.cls ≠ "java/lang/invoke/MethodHandle" ∧ y.cls ≠ "java/lang/invoke/VarHandle")
    {W9 : Nat} {Pre : Pt → Array Value → Prop} {Post : Pt → Array Value → Option Value → Pt → Prop} (hK : Back l R p e below s args y 3 W9 Pre Post)
    {b : Addr} {cellB : Cell} (hcell : T.heap[b]? = some cellB) (hobj : cellB.vm.isStatics = false) (hcls : s.vm.findClass C = some cellB.cls)
    {g : JFrame} (hg : g.method = m) (hsize : g.locals.size = c.maxLocals) {argsL rest : List Value} (hlen : ∀ sig, parseMethodDescriptor y.desc = some sig → argsL.length = sig.parameters.length)
    (hstack : g.stack = argsL.reverse ++ .ref b :: rest) (hW : 2 * g.monitorRoom + (rest.map fun v => v.category).sum ≤ W9) (hdg : decode c.code g.pc = .ok (.invokevirtual index, 3))
    (hpre : ∀ vm₁, s.WarmedH vm₁ → Pre ⟨T.setVm vm₁, locs, cells, slots⟩ (Value.ref b :: argsL).toArray) :
    ∃ (v : Option Value) (vm₁ : Vm) (B : Pt), s.WarmedH vm₁ ∧ Stand p l e R s m args below meth c B.U B.locs B.cells B.slots ∧ Post ⟨T.setVm vm₁, locs, cells, slots⟩ (Value.ref b :: argsL).toArray v B ∧
      ∀ target, Steps p.tables e below (B.U.setTop { g with pc := g.pc + 3, stack := v.toList ++ rest }) target → Steps p.tables e below (T.setTop g) target := by
  obtain ⟨mk, methM, hnamed, hmethM, hstM, habM⟩ := Cond.instanceMethod_spec hinst
  obtain ⟨m8, methM', cM, hn8, hmethM', -, -, -, -, -, -, hsigM⟩ := Cond.codeWith_spec hcode
  cases Option.some.inj (hn8.symm.trans hnamed)
  cases hmethM.symm.trans hmethM'
  obtain ⟨c2, r2, m2, q1, q2, q3, q4, kP, hkP, hkPi⟩ := Cond.selects_spec hsel
  cases hcls.symm.trans q1
  cases (State.methodFound?_of_named hnamed hy).symm.trans q2
  cases hnamed.symm.trans q3
  have hselP : selectMethod e.platform s.vm cellB.cls mk = .method mk := by rw [Launch.admits_selectMethod X.admits]; exact q4
  obtain ⟨vm₁, X₁, hstep₁⟩ := X.invokevirtual hexec hown hlink hnamed hmethM hstM hkP hkPi hy (a := b) (cell := cellB) hcell
    (fun z h => by rw [h] at hobj; cases hobj) hselP hmethM habM hkP hkPi (g := g) hg (argsL := argsL) (rest := rest) (hlen _ hsigM) hstack hdg
  obtain ⟨v, B, X', hpost, hsteps⟩ := hK m meth c ⟨T.setVm vm₁, locs, cells, slots⟩ { g with stack := rest } (.invokevirtual index) mk (Value.ref b :: argsL).toArray X₁ hg hsize hdg hW (X₁.named hnamed) (hpre vm₁ X₁.warmed)
  exact ⟨v, vm₁, B, X₁.warmed, X', hpost, fun target h => hstep₁ _ fun acts => by rw [doInvoke_state]; exact hsteps.trans h⟩
abbrev vx_CVW (R : Room) (s : State) (args : Array Value) (own C : String) (index : Nat) (y : MethodName) (bytes : ByteArray) (maxL : Nat) (ret : Option FieldType) (hh : List (Nat × Nat × Nat × Nat)) (ws : List Cond) (rm : Room) (mc ms n : Nat) : Prop :=
  (rm.cells = mc ∧ rm.slots = ms ∧ rm.frames + 1 ≤ R.frames ∧ 8 + (maxL + 11) + rm.locals ≤ R.locals ∧ (∀ w ∈ ws, ∀ (a' : Array Value) (U : State), s.WarmedH U.vm → w.before a' U = true) ∧ Cond.codeWith y bytes maxL ret hh ∈ ws) ∧
  (Cond.codeWith y bytes maxL ret hh).before args s = true ∧ (Cond.initialized y.cls).before args s = true ∧ (y.cls ≠ "java/lang/invoke/MethodHandle" ∧ y.cls ≠ "java/lang/invoke/VarHandle") ∧
  (∀ sig, parseMethodDescriptor y.desc = some sig → n = sig.parameters.length) ∧ (Cond.methodLink own index y).before args s = true ∧ (Cond.instanceMethod y).before args s = true ∧ (Cond.selects C y y).before args s = true
theorem vx_cwVW {own C : String} {index maxL mc ms : Nat} {y : MethodName} {bytes : ByteArray} {ret : Option FieldType} {hh : List (Nat × Nat × Nat × Nat)} {Ts ws ws' : List Cond} {rm : Room} (n : Nat) (ht : ∀ w ∈ Ts, w.before args s = true) (hT : GoodIn Ts (wsV own index C y ws)) (hw : ws = Cond.codeWith y bytes maxL ret hh :: ws') (hrc : rm.cells = mc) (hrs : rm.slots = ms)
    (hd : y.cls = C ∧ y.cls ≠ "java/lang/invoke/MethodHandle" ∧ y.cls ≠ "java/lang/invoke/VarHandle" ∧ (parseMethodDescriptor y.desc).map (fun d => d.parameters.length) = some n) (hR : rm.frames + 1 ≤ R.frames ∧ 8 + (maxL + 11) + rm.locals ≤ R.locals) :
    vx_CVW R s args own C index y bytes maxL ret hh ws rm mc ms n := by
  obtain ⟨hC, hd⟩ := hd
  subst hC
  have ok : ∀ w ∈ wsV own index y.cls y ws, w.before args s = true := fun w h => ht w (hT w h).1
  have hG : GoodIn Ts ws := fun w h => hT w (by unfold wsV; exact List.mem_append_right _ h)
  have hc : Cond.codeWith y bytes maxL ret hh ∈ ws := by rw [hw]; exact List.mem_cons_self
  refine ⟨⟨hrc, hrs, hR.1, hR.2, pay_in ht hG, hc⟩, ht _ (hG _ hc).1, ok _ (by simp [wsV]), ⟨hd.1, hd.2.1⟩, fun sig h => ?_, ok _ (by simp [wsV]), ok _ (by simp [wsV]), ok _ (by simp [wsV])⟩
  have h2 := hd.2.2
  rw [h] at h2
  exact (Option.some.inj h2).symm
theorem vx_runVW {y : MethodName} {bytes cc : ByteArray} {maxL nL mc ms n index : Nat} {ret : Option FieldType} {hh : List (Nat × Nat × Nat × Nat)} {ws : List Cond} {rm : Room} {Pc : Array Value → State → Prop} {Qc : Array Value → State → Outcome → State → Prop} {free : Addr → Prop} {Ts : List Cond} {own C : String} {b : Addr} {As rest : List Value} {g : JFrame}
    (S : CallFix p m c cc nL s args Ts own) (hM : Met l y ws rm Pc Qc mc ms free) (cw : vx_CVW R s args own C index y bytes maxL ret hh ws rm mc ms n) (hp : PreV s H C b Pc As)
    (hg : g.method = m) (hn : As.length = n) (hsize : g.locals.size = nL) (hstack : g.stack = As.reverse ++ .ref b :: rest) (hW : 2 * g.monitorRoom + (rest.map fun v => v.category).sum ≤ 8) (hdg : decode cc g.pc = .ok (.invokevirtual index, 3)) (hf : cells + mc ≤ R.cells ∧ slots + ms ≤ R.slots) :
    va_Run p l e R s m args below meth c H locs cells slots mc ms g rest (Qc (Value.ref b :: As).toArray) free := by
  obtain ⟨⟨hrc, hrs, hfr, hlo, hws, hcw⟩, hcode, hini, hy, hlen, hl, hin, hse⟩ := cw
  have hK : Back l R p e below s args y 3 8 (PreOf R mc ms Pc) (PostOf Qc mc ms free) := va_backW (hh := hh) (bytes := bytes) (maxL := maxL) (ret := ret) hM hp.1 hrc hrs hfr hlo hws hcw (fun a' U hW => word_at hW (Or.inl (by first | rfl | simp [Cond.onTables, Cond.keeps, Cond.steady])) hini)
  obtain ⟨hx, hb, hml, ho, -⟩ := S
  obtain ⟨-, ⟨cellB, hcB, hoB, hclB⟩, hPc⟩ := hp
  intro T hT X
  obtain ⟨v, vm₁, ⟨U', l2, c2, s2⟩, hW₁, X', ⟨g', mk, t, L, e1, e2, hq, h1, hL, h2, h3⟩, st⟩ := vx_callVW X hx (C := C) (hh := hh) (bytes := bytes) (maxL := maxL) (ret := ret) ho hl hin hse hcode hy hK (by rw [hT]; exact hcB) hoB hclB hg (hsize.trans hml.symm) (argsL := As) (rest := rest) (fun sig h => hn.trans (hlen sig h)) hstack hW (by rw [hb]; exact hdg)
    (fun vm₁ hW₁ => ⟨hf.1, hf.2, hPc (T.setVm vm₁) hT hW₁⟩)
  dsimp only [Pt.U, Pt.locs, Pt.cells, Pt.slots] at X' e1 e2 h1 h2 h3 st
  subst h1; subst h2; subst h3
  exact ⟨v, (T.setVm vm₁).calling g' mk (Value.ref b :: As).toArray, t, U', L, hT, X', hL, e1, e2, hq, st⟩
section
variable {y : MethodName} {bytes cc : ByteArray} {maxL nL mc ms n index : Nat} {ret : Option FieldType} {ws : List Cond} {rm : Room} {Pc : Array Value → State → Prop} {Qc : Array Value → State → Outcome → State → Prop} {XC : String → State → State → Prop} {free : Addr → Prop} {Ts : List Cond} {own C : String} {b : Addr} {As rest : List Value} {g : JFrame}
theorem vx_runVX {hh : List (Nat × Nat × Nat × Nat)} (S : CallFix p m c cc nL s args Ts own) (hM : vx_Met l y ws rm Pc Qc XC mc ms free) (cw : vx_CVW R s args own C index y bytes maxL ret hh ws rm mc ms n) (hp : PreV s H C b Pc As)
    (hg : g.method = m) (hn : As.length = n) (hsize : g.locals.size = nL) (hstack : g.stack = As.reverse ++ .ref b :: rest) (hW : 2 * g.monitorRoom + (rest.map fun v => v.category).sum ≤ 8) (hdg : decode cc g.pc = .ok (.invokevirtual index, 3)) (hf : cells + mc ≤ R.cells ∧ slots + ms ≤ R.slots) :
    vx_Run p l e R s m args below meth c H locs cells slots mc ms g rest (Qc (Value.ref b :: As).toArray) XC free := by
  obtain ⟨⟨hrc, hrs, hfr, hlo, hws, hcw⟩, hcode, hini, hy, hlen, hl, hin, hse⟩ := cw
  have hK : vx_Back l R p e below s args y 3 8 (PreOf R mc ms Pc) (PostOf Qc mc ms free) (vx_Post XC mc ms free) := vx_backW (hh := hh) (bytes := bytes) (maxL := maxL) (ret := ret) hM hp.1 hrc hrs hfr hlo hws hcw (fun a' U hW => word_at hW (Or.inl (by first | rfl | simp [Cond.onTables, Cond.keeps, Cond.steady])) hini)
  obtain ⟨hx, hb, hml, ho, -⟩ := S
  obtain ⟨-, ⟨cellB, hcB, hoB, hclB⟩, hPc⟩ := hp
  intro T hT X
  rcases vx_callVX X hx (C := C) (hh := hh) (bytes := bytes) (maxL := maxL) (ret := ret) ho hl hin hse hcode hy hK (by rw [hT]; exact hcB) hoB hclB hg (hsize.trans hml.symm) (argsL := As) (rest := rest) (fun sig h => hn.trans (hlen sig h)) hstack hW (by rw [hb]; exact hdg)
    (fun vm₁ hW₁ => ⟨hf.1, hf.2, hPc (T.setVm vm₁) hT hW₁⟩) with ⟨v, vm₁, ⟨U', l2, c2, s2⟩, hW₁, X', ⟨g', mk, t, L, e1, e2, hq, h1, hL, h2, h3⟩, st⟩ | ⟨q, vm₁, ⟨U', l2, c2, s2⟩, hW₁, X', ⟨g', mk, t, L, E, ce, e1, e2, hq, hce, hcv, hcl, h1, hL, h2, h3⟩, st⟩
  · dsimp only [Pt.U, Pt.locs, Pt.cells, Pt.slots] at X' e1 e2 h1 h2 h3 st
    subst h1; subst h2; subst h3
    exact Or.inl ⟨v, (T.setVm vm₁).calling g' mk (Value.ref b :: As).toArray, t, U', L, hT, X', hL, e1, e2, hq, st⟩
  · dsimp only [Pt.U, Pt.locs, Pt.cells, Pt.slots] at X' e1 e2 h1 h2 h3 st hcl
    subst h1; subst h2; subst h3
    exact Or.inr ⟨q, (T.setVm vm₁).calling g' mk (Value.ref b :: As).toArray, t, U', L, E, ce, hT, X', hL, e1, e2, hq, hce, hcv, vx_cls hW₁ hcl, st⟩
theorem vx_runSX {hh : List (Nat × Nat × Nat × Nat)} (S : CallFix p m c cc nL s args Ts own) (hM : vx_Met l y ws rm Pc Qc XC mc ms free) (cw : vx_CSW R s args own index y bytes maxL ret hh ws rm mc ms n) (hp : PreS s H Pc As)
    (hg : g.method = m) (hn : As.length = n) (hsize : g.locals.size = nL) (hstack : g.stack = As.reverse ++ rest) (hW : 2 * g.monitorRoom + (rest.map fun v => v.category).sum ≤ 8) (hdg : decode cc g.pc = .ok (.invokestatic index, 3)) (hf : cells + mc ≤ R.cells ∧ slots + ms ≤ R.slots) :
    vx_Run p l e R s m args below meth c H locs cells slots mc ms g rest (Qc As.toArray) XC free := by
  obtain ⟨⟨hrc, hrs, hfr, hlo, hws, hcw⟩, hcode, hini, hy, hlen, hl, hstt⟩ := cw
  have hK : vx_Back l R p e below s args y 3 8 (PreOf R mc ms Pc) (PostOf Qc mc ms free) (vx_Post XC mc ms free) := vx_backW (hh := hh) (bytes := bytes) (maxL := maxL) (ret := ret) hM hp.1 hrc hrs hfr hlo hws hcw (fun a' U hW => word_at hW (Or.inl (by first | rfl | simp [Cond.onTables, Cond.keeps, Cond.steady])) hini)
  obtain ⟨hx, hb, hml, ho, -⟩ := S
  intro T hT X
  rcases vx_callSX X hx (hh := hh) (bytes := bytes) (maxL := maxL) (ret := ret) ho hl hstt hini hcode hy hK hg (hsize.trans hml.symm) (argsL := As) (rest := rest) (fun sig h => hn.trans (hlen sig h)) hstack hW (by rw [hb]; exact hdg)
    (fun vm₁ hW₁ => ⟨hf.1, hf.2, hp.2 (T.setVm vm₁) hT hW₁⟩) with ⟨v, vm₁, ⟨U', l2, c2, s2⟩, hW₁, X', ⟨g', mk, t, L, e1, e2, hq, h1, hL, h2, h3⟩, st⟩ | ⟨q, vm₁, ⟨U', l2, c2, s2⟩, hW₁, X', ⟨g', mk, t, L, E, ce, e1, e2, hq, hce, hcv, hcl, h1, hL, h2, h3⟩, st⟩
  · dsimp only [Pt.U, Pt.locs, Pt.cells, Pt.slots] at X' e1 e2 h1 h2 h3 st
    subst h1; subst h2; subst h3
    exact Or.inl ⟨v, (T.setVm vm₁).calling g' mk As.toArray, t, U', L, hT, X', hL, e1, e2, hq, st⟩
  · dsimp only [Pt.U, Pt.locs, Pt.cells, Pt.slots] at X' e1 e2 h1 h2 h3 st hcl
    subst h1; subst h2; subst h3
    exact Or.inr ⟨q, (T.setVm vm₁).calling g' mk As.toArray, t, U', L, E, ce, hT, X', hL, e1, e2, hq, hce, hcv, vx_cls hW₁ hcl, st⟩
end
end VXH
theorem vx_ofWH {l : Launch} {y : MethodName} {ws ws' : List Cond} {rm : Room} {Pc : Array Value → State → Prop} {Qc : Array Value → State → Outcome → State → Prop} {XC : String → State → State → Prop} {mc ms : Nat} {free : Addr → Prop} {cc : ByteArray} {maxL : Nat} {ret : Option FieldType} {hh : List (Nat × Nat × Nat × Nat)}
    (hy : plainName y.cls = true) (hw : ws = Cond.codeWith y cc maxL ret hh :: ws')
    (body : ∀ p e s m args below meth c s₁, BodyLoose p l y (headSpec ws rm) cc maxL ret e s m args below meth c s₁ → c.maxLocals = maxL → Pc args s →
      W p l e (headSpec ws rm).room s m args below meth c s.heap [] 0 0 (vx_MQ below Qc XC args s mc ms free) (entryFrame m args maxL)) : vx_Met l y ws rm Pc Qc XC mc ms free := by
  refine MetFree.of_bodyS (code := cc) (maxLocals := maxL) (ret := ret) hy ?_ ?_
  · intro args s m h hn
    obtain ⟨m9, meth, c, hn9, h1, h2, h3, h4, -, h5, h6, -⟩ := Cond.codeWith_spec (atoms_spec (ws := ws) h _ (by rw [hw]; exact List.mem_cons_self))
    cases hn.symm.trans hn9
    exact ⟨meth, c, h1, h2, h3, h4, h5, h6⟩
  · intro p e s m args below meth c s₁ B hml hP _
    have hh0 : s₁.heap = s.heap := by rw [B.state]; rfl
    obtain ⟨t, a1, o, b1, b2, b3⟩ := body p e s m args below meth c s₁ B hml hP s₁ hh0 (Stand.of_body B)
    exact ⟨t, o, a1, b1, b2, b3⟩
/-! ===== END ===== -/

/-! ===== BEGIN what the machine throws by itself, no traces kept ===== -/
section VXM
set_option maxHeartbeats 1000000 in
/-- the machine throws cls with the message text, no traces kept: from its note over the frame g to 'throwing' over the same frame (follows the proofs of Stand.vmThrowsMessage, Shelf/KitTracedVmS.lean, and Stand.throwsMessageColdBareV, StandMessageColdV.lean, without the step out of the frame) -/
theorem vx_vmAt {p : Program} {l : Launch} {e : Env} {R : Room} {s : State} {m₀ : MethodId} {args : Array Value} {below : List Frame} {meth : Method} {c : Code} {W : State} {locs : List Loc} {cells slots : Nat}
    (X : Stand p l e R s m₀ args below meth c W locs cells slots) (hexec : p.tables.exec = Jvm.exec) (htr : e.platform.stackTraces = false) {cls : String} {names : List String} {text : String}
    (hcls : Bundle.fit cls = true) (hnames : ∀ n ∈ names, Bundle.fit n = true) (hsoe : (cls == "java/lang/StackOverflowError") = false) (hoom : (cls == "java/lang/OutOfMemoryError") = false)
    (h : ∀ a ∈ Bundle.messageArmAtoms cls names, a.before args s = true)
    (hlocs : ∀ x ∈ locs, ∀ cell, s.heap[x.base]? = some cell → cell.vm.isStatics = false)
    (htext : (text == notModelled) = false) (hlimit : ¬ (stringBytes (stringToUtf16 text)).size > e.platform.arrayLengthLimit) (hheap : ¬ (stringBytes (stringToUtf16 text)).size * componentBytes .byte > e.platform.maxHeapBytes)
    {g : JFrame} (hg : g.method = m₀) (hsize : g.locals.size = c.maxLocals)
    (hRframes : names.length + 4 < R.frames) (hRlocals : 2 * g.monitorRoom + (g.stack.map fun v => v.category).sum + 10240 ≤ R.locals) (hshort : 13 * names.length + 55 ≤ 10240)
    (hRcells : cells + 3 ≤ R.cells) (hRslots : slots + ((stringBytes (stringToUtf16 text)).size + 4 + 6) ≤ R.slots) (hlocks : meth.locks = false) :
    ∃ (S : State) (q : Addr) (ce : Cell), (∀ target, Steps p.tables e below ((S.setTop g).pushFrame (.throwing q)) target → Steps p.tables e below ((W.setTop g).pushFrame (.throwNew cls (some text) none)) target) ∧
      Stand p l e R s m₀ args below meth c S locs (cells + 3) (slots + ((stringBytes (stringToUtf16 text)).size + 4 + 6)) ∧ S.heap[q]? = some ce ∧ s.vm.findClass cls = some ce.cls ∧ ce.vm = .none := by
  have howns : e.platform.frameOwnsMonitors = true := by rw [X.admits.platform]
  have hfin : e.platform.finalization = false := by rw [X.admits.platform]
  have hpl : e.platform.magicAccessors = ({} : Platform).magicAccessors := by rw [X.admits.platform]
  have a : ∀ x, x ∈ Bundle.messageArmAtoms cls names → x.holds args s none s [] = true := fun x hx => h x hx
  obtain ⟨T, Z0, L, -, Y⟩ := ThrowableC.of_atoms (args := args) howns hfin hpl (fun x hx => h x (by simp [Bundle.messageArmAtoms, hx]))
  obtain ⟨Z, M, LZ, LM, hnZ⟩ := Init0T.ofS_atoms (args := args) hpl L Y (fun x hx => h x (by simp [Bundle.messageArmAtoms, hx]))
  obtain ⟨P1, Ps, hlen, L1, hL, hP1m, hlink1, hlink⟩ := Bundle.chainS (args := args) hpl hnZ names cls hcls hnames (fun x hx => h x (by simp [Bundle.messageArmAtoms, hx]))
  obtain ⟨Zs, LZs, hn4, hfitv, hfitc⟩ := StringT.of_atoms (args := args) (fun x hx => h x (by simp [Bundle.messageArmAtoms, hx]))
  have hfound : s.vm.findClass cls = some P1.m.cls := findClass_of_methodNamed hP1m
  obtain ⟨c1, kX, hc1, hk, hord, -, -, hn6⟩ := Cond.instantiable_spec (a (.instantiable cls 6) (by simp [Bundle.messageArmAtoms]))
  cases Option.some.inj (hc1.symm.trans hfound)
  have hinit := Cond.initialized_spec hfound hk (a (.initialized cls) (by simp [Bundle.messageArmAtoms]))
  have hctor : kX.findMethod "<init>" "(Ljava/lang/String;)V" = some P1.m.idx := findMethod_of_methodNamed hP1m hk
  have hsel0 : selectMethod e.platform s.vm P1.m.cls T.fill0 = .method T.fill0 := by
    obtain ⟨c2, r2, m2, q1, q2, q3, q4, -⟩ := Cond.selects_spec (a (.selects cls Bundle.tFill0 Bundle.tFill0) (by simp [Bundle.messageArmAtoms]))
    cases Option.some.inj (q1.symm.trans hfound)
    cases Option.some.inj (q2.symm.trans (State.methodFound?_of_named Y.fill0 (by decide)))
    cases Option.some.inj (q3.symm.trans Y.fill0)
    rw [Launch.admits_selectMethod X.admits]; exact q4
  have hselF : selectMethod e.platform s.vm P1.m.cls T.fill = .method T.fill := by
    obtain ⟨c2, r2, m2, q1, q2, q3, q4, -⟩ := Cond.selects_spec (a (.selects cls Bundle.tFill Bundle.tFill) (by simp [Bundle.messageArmAtoms]))
    cases Option.some.inj (q1.symm.trans hfound)
    cases Option.some.inj (q2.symm.trans (State.methodFound?_of_named Y.fill (by decide)))
    cases Option.some.inj (q3.symm.trans Y.fill)
    rw [Launch.admits_selectMethod X.admits]; exact q4
  obtain ⟨cellS0, hcS0, hiss⟩ := Y.statics
  obtain ⟨u0, hu0⟩ := Cond.staticRefV Y.unassigned L.unassignedStatic L.statics hcS0 hiss (a (.isRef (.static Bundle.tN "UNASSIGNED_STACK" Bundle.steD)) (by simp [Bundle.messageArmAtoms]))
  obtain ⟨sen, hsen⟩ := Cond.staticRefV Y.sentinel L.sentinelStatic L.statics hcS0 hiss (a (.isRef (.static Bundle.tN "SUPPRESSED_SENTINEL" Bundle.listD)) (by simp [Bundle.messageArmAtoms]))
  obtain ⟨ci198, i198, fB, hk198, hg198, ha198, hsB, -, hnB, htB, hffB⟩ := Cond.ownField (t := .object "java/lang/Object") Y.found L.cls (by decide +kernel) (a (.fieldLink Bundle.tN 198 Bundle.tN "backtrace" "Ljava/lang/Object;") (by simp [Bundle.messageArmAtoms])) (a (.lays Bundle.tN Bundle.tN "backtrace" "Ljava/lang/Object;") (by simp [Bundle.messageArmAtoms])) e.platform hpl
  obtain ⟨cellS, hcS', heS, -, hkeep⟩ := X.same.2.2.2.2.2 T.aS cellS0 hcS0
  have hcellS : W.heap[T.aS]? = some cellS := hcS'
  have hout' : ∀ i, (⟨T.aS, i⟩ : Loc) ∉ locs := fun i hmem => by
    have := hlocs _ hmem cellS0 hcS0
    rw [hiss] at this; cases this
  have hknownS : cellS.vm ≠ .unknown := by
    rw [heS]; intro hu
    rw [show cellS0.vm = .unknown from hu] at hiss
    cases hiss
  have hvU : cellS.slots[T.fUnassigned.slot]? = some u0.v := by rw [hkeep _ (hout' _)]; exact hu0
  have hvSen : cellS.slots[T.fSentinel.slot]? = some sen.v := by rw [hkeep _ (hout' _)]; exact hsen
  obtain ⟨iM, hffM⟩ := Y.msg
  obtain ⟨tyC, dC, hdC, hdnC⟩ := Cond.laysAt hfound hk Y.cause (a (.lays cls Bundle.tN "cause" "Ljava/lang/Throwable;") (by simp [Bundle.messageArmAtoms]))
  obtain ⟨tyS, dS, hdS, hdnS⟩ := Cond.laysAt hfound hk Y.stack (a (.lays cls Bundle.tN "stackTrace" Bundle.steD) (by simp [Bundle.messageArmAtoms]))
  obtain ⟨tyP, dP, hdP, hdnP⟩ := Cond.laysAt hfound hk Y.supp (a (.lays cls Bundle.tN "suppressedExceptions" Bundle.listD) (by simp [Bundle.messageArmAtoms]))
  obtain ⟨tyM, dM, hdM, hdnM⟩ := Cond.laysAt hfound hk hffM (a (.lays cls Bundle.tN "detailMessage" "Ljava/lang/String;") (by simp [Bundle.messageArmAtoms]))
  obtain ⟨tyB, dB, hdB, hdnB⟩ := Cond.laysAt hfound hk hffB (a (.lays cls Bundle.tN "backtrace" "Ljava/lang/Object;") (by simp [Bundle.messageArmAtoms]))
  have bC := Cond.laysApart hdB hdC hdnB hdnC (by rw [hnB, Y.causeName]; decide)
  have bS := Cond.laysApart hdB hdS hdnB hdnS (by rw [hnB, Y.stackName]; decide)
  have bP := Cond.laysApart hdB hdP hdnB hdnP (by rw [hnB, Y.suppName]; decide)
  have hbk : ((preparedCellV T.toThrowableT (freshCell P1.m.cls kX) (W.heap.size + 2) u0 sen).withEntry W.cur).slots[fB.slot]? = some .null := by
    have := fresh_default (c := P1.m.cls) tyB
    rw [htB] at this
    simpa [preparedCellV, Cell.setSlot, Cell.withEntry, Array.getElem?_setIfInBounds, bC, bS, bP, bC.symm, bS.symm, bP.symm, defaultValue] using this
  have tkC := Takes.of_laid (v := .ref (W.heap.size + 2)) hk hord tyC (by rw [Y.causeType]; rfl)
  have tkS := Takes.of_laid (v := u0.v) hk hord tyS (by rw [Y.stackType]; exact fits_refV_array _ u0)
  have tkP := Takes.of_laid (v := sen.v) hk hord tyP (by rw [Y.suppType]; exact fits_refV_object _ sen)
  have tkM := Takes.of_laid (v := .ref (W.heap.size + 1)) hk hord tyM (by rw [Y.msgType]; rfl)
  have hskip : SkipFacts T e.platform s (fun u => u) u0 ((preparedCellV T.toThrowableT (freshCell P1.m.cls kX) (W.heap.size + 2) u0 sen).withEntry W.cur) := ⟨{ ci198 := ci198, i198 := i198, fBack := fB }, ⟨hk198, hg198, ha198, hsB⟩, hbk, fun _ _ => rfl⟩
  have h0 : At W g.method c below := by rw [hg]; exact X.here
  obtain ⟨hbeyond, hfreeW⟩ := X.vmMayThrow hsize (.throwNew cls (some text) none) (fun f hf => by cases hf) rfl hRlocals
  have hfr' : W.frames.length + Ps.length + 4 < (e.platform.stackLimits W.me).1 := by have := X.framesAbove hRframes; omega
  have hwd' : (stackUse (.java g :: W.frames.tail)).2 + 13 * Ps.length + 55 ≤ (e.platform.stackLimits W.me).2 := by have := X.stackAbove hsize (K := 13 * Ps.length + 55) (by omega); omega
  have hslots : W.slotsUsed + (stringBytes (stringToUtf16 text)).size + Zs.kS.instanceTypes.size + kX.instanceTypes.size ≤ e.platform.maxSlots := by
    have := X.slotsAbove hRslots
    rw [hn4, hn6]
    omega
  obtain ⟨vm', hW', st⟩ := Steps.vmThrowsMessageColdByV p (s₀ := s) (S := W) (g := g) h0 hexec T L Z LZ M LM X.warmed (t := W.cur) rfl Zs LZs P1 L1 Ps hL hlink1 hlink hsoe hoom hfound hk hinit hord hctor
    (Launch.admits_hotImplicitExceptions X.admits) hbeyond hfreeW htext hlimit hheap (X.cellsAbove hRcells) hslots (hfitv _) (hfitc _)
    (Nn := fun u => u) heapOnly_id (fun _ _ => rfl) (fun _ => rfl) (fun u x y => setCell_twice _ _ _ _) (fun _ => Nat.le_refl _) (cN := ((preparedCellV T.toThrowableT (freshCell P1.m.cls kX) (W.heap.size + 2) u0 sen).withEntry W.cur))
    hsel0 hcellS hknownS hvU tkS (fun _ hu => hu) (fun _ hu => hu) rfl rfl rfl (by simp [preparedCellV, Cell.setSlot, Cell.withEntry]) hskip (fun _ _ hA hW _ hroom _ hrest => L.nativeOff p htr hA hW hroom hrest) hselF hvSen tkC tkP tkM Y.objLocals rfl hfr' hwd'
  rw [plainBareV_eq T.toThrowableT (W.heap.size + 2) u0 sen (.ref (W.heap.size + 1)) W.cur rfl rfl] at st
  obtain ⟨-, -, w3, w4, -, -, -⟩ := withThrown_facts e.platform W Zs text P1.m.cls kX
  have X3 := ((X.pushed (bytesOf Zs.cB (stringToUtf16 text))).pushed (stringAt Zs.cS Zs.kS Zs.fv Zs.fc (stringToUtf16 text) W.heap.size)).pushed (freshCell P1.m.cls kX)
  rw [← withString_eq] at X3
  have X4 := X3.noted hW'
  have ha : (W.heap.size + 2) < ((withThrown W Zs text P1.m.cls kX).setVm vm').heap.size := by show _ < (withThrown W Zs text P1.m.cls kX).heap.size; rw [w3]; omega
  have hcell : ((withThrown W Zs text P1.m.cls kX).setVm vm').heap[(W.heap.size + 2)]? = some (freshCell P1.m.cls kX) := w4
  have X5 := ((((X4.stored hcell T.fCause.slot (.ref (W.heap.size + 2))).storedAgain ha T.fStack.slot u0.v).storedAgain ha T.fSupp.slot sen.v).storedAgain ha T.fStack.slot u0.v).storedAgain ha T.fMsg.slot (.ref (W.heap.size + 1))
  obtain ⟨g₁, hfrM⟩ := X5.frames_eq
  have hU : ((((withThrown W Zs text P1.m.cls kX).setVm vm').setCell (W.heap.size + 2) (plainBareV T.toThrowableT (freshCell P1.m.cls kX) (W.heap.size + 2) u0 sen (.ref (W.heap.size + 1)))).setTop g).pushFrame (.throwing (W.heap.size + 2)) = (((withThrown W Zs text P1.m.cls kX).setVm vm').setCell (W.heap.size + 2) (plainBareV T.toThrowableT (freshCell P1.m.cls kX) (W.heap.size + 2) u0 sen (.ref (W.heap.size + 1)))).setFrames (.throwing (W.heap.size + 2) :: .java g :: below) := by
    rw [State.pushFrame, State.frames_setTop _ hfrM, State.setTop_of_frames _ hfrM, State.setFrames_setFrames]
  have b1 : (bytesOf Zs.cB (stringToUtf16 text)).slots.size = (stringBytes (stringToUtf16 text)).size := by
    rw [(Cell.writeAll_facts _ _).2.2]; simp [bytes0]
  have b2 : (stringAt Zs.cS Zs.kS Zs.fv Zs.fc (stringToUtf16 text) W.heap.size).slots.size = 4 := by simp [string0, Cell.setSlot, hn4]
  have b3 : (freshCell P1.m.cls kX).slots.size = 6 := by simp [hn6]
  rw [b1, b2, b3] at X5
  have e9 : slots + (stringBytes (stringToUtf16 text)).size + 4 + 6 = slots + ((stringBytes (stringToUtf16 text)).size + 4 + 6) := by omega
  rw [e9] at X5
  simp only [List.append_assoc, List.cons_append, List.nil_append] at X5
  refine ⟨((withThrown W Zs text P1.m.cls kX).setVm vm').setCell (W.heap.size + 2) (plainBareV T.toThrowableT (freshCell P1.m.cls kX) (W.heap.size + 2) u0 sen (.ref (W.heap.size + 1))), W.heap.size + 2, _, fun target ht => st _ (by rw [X.tail, ← hU]; exact ht),
    X5.forget (fun y hy => ?_), heapAt_setCell_self _ ha, hfound, rfl⟩
  simp only [List.mem_cons, List.not_mem_nil, or_false] at hy
  have hge : s.heap.size ≤ W.heap.size := X.same.2.1
  rcases hy with rfl | rfl | rfl | rfl | rfl <;> exact Nat.le_trans hge (Nat.le_add_right _ 2)
set_option maxHeartbeats 1000000 in
/-- the machine throws NullPointerException, no traces kept: from its note over the frame g to 'throwing' over the same frame (follows the proof of Stand.vmThrowsNpe, Shelf42/KT2.lean; throwsNpeColdBareVAt, Shelf42/NT91.lean, called) -/
theorem vx_npeAt {p : Program} {l : Launch} {e : Env} {R : Room} {s : State} {m₀ : MethodId} {args : Array Value} {below : List Frame} {meth : Method} {c : Code} {W : State} {locs : List Loc} {cells slots : Nat}
    (X : Stand p l e R s m₀ args below meth c W locs cells slots) (hexec : p.tables.exec = Jvm.exec) (htr : e.platform.stackTraces = false) {n : Nat}
    (h : ∀ a ∈ Bundle.npeArmAtoms n, a.before args s = true)
    (hlocs : ∀ x ∈ locs, ∀ cell, s.heap[x.base]? = some cell → cell.vm.isStatics = false)
    {g : JFrame} (hg : g.method = m₀) (hsize : g.locals.size = c.maxLocals)
    (hRframes : 7 < R.frames) (hRlocals : 2 * g.monitorRoom + (g.stack.map fun v => v.category).sum + 10240 ≤ R.locals)
    (hRcells : cells + 1 ≤ R.cells) (hRslots : slots + n ≤ R.slots) (hlocks : meth.locks = false) :
    ∃ (S : State) (q : Addr) (ce : Cell), (∀ target, Steps p.tables e below ((S.setTop g).pushFrame (.throwing q)) target → Steps p.tables e below ((W.setTop g).pushFrame (.throwNew "java/lang/NullPointerException" none none)) target) ∧
      Stand p l e R s m₀ args below meth c S locs (cells + 1) (slots + n) ∧ S.heap[q]? = some ce ∧ s.vm.findClass "java/lang/NullPointerException" = some ce.cls ∧ ce.vm = .none := by
  have howns : e.platform.frameOwnsMonitors = true := by rw [X.admits.platform]
  have hfin : e.platform.finalization = false := by rw [X.admits.platform]
  have hpl : e.platform.magicAccessors = ({} : Platform).magicAccessors := by rw [X.admits.platform]
  have hpl2 : e.platform.arrayCloneIsPublic = true := by rw [X.admits.platform]
  have a' : ∀ x, x ∈ Bundle.npeArmAtoms n → x.holds args s none s [] = true := fun x hx => h x hx
  obtain ⟨T, Z, L, LZ, Y⟩ := ThrowableC.of_atoms (args := args) howns hfin hpl (fun x hx => h x (by simp [Bundle.npeArmAtoms, hx]))
  obtain ⟨N, LN, hcN, hnNF, hordN, hffS⟩ := NpeC.of_atoms (args := args) hpl hpl2 L Y (fun x hx => h x (by simp [Bundle.npeArmAtoms, hx]))
  obtain ⟨P1, L1, hP1m, hP1s⟩ := PassC.of_atoms (args := args) (s := s) hpl (X := Bundle.nN) (Y := Bundle.rN) (by decide) (by decide) LibCode.NullPointerException.Init0.at_0 LibCode.NullPointerException.Init0.at_1 LibCode.NullPointerException.Init0.at_4 (fun x hx => h x (by simp [Bundle.npeArmAtoms, hx]))
  obtain ⟨PR, LR, hPRm, hPRs⟩ := PassC.of_atoms (args := args) (s := s) hpl (X := Bundle.rN) (Y := Bundle.eN) (by decide) (by decide) LibCode.RuntimeException.Init0.at_0 LibCode.RuntimeException.Init0.at_1 LibCode.RuntimeException.Init0.at_4 (fun x hx => h x (by simp [Bundle.npeArmAtoms, hx]))
  obtain ⟨PE, LEx, hPEm, hPEs⟩ := PassC.of_atoms (args := args) (s := s) hpl (X := Bundle.eN) (Y := Bundle.tN) (by decide) (by decide) LibCode.Exception.Init0.at_0 LibCode.Exception.Init0.at_1 LibCode.Exception.Init0.at_4 (fun x hx => h x (by simp [Bundle.npeArmAtoms, hx]))
  have hfound : s.vm.findClass Bundle.nN = some P1.m.cls := findClass_of_methodNamed hP1m
  have ecls : N.cN = P1.m.cls := Option.some.inj (hcN.symm.trans hfound)
  have hk : s.vm.classes[P1.m.cls]? = some N.kN := by rw [← ecls]; exact LN.cls
  have hinit := Cond.initialized_spec hfound hk (a' (.initialized Bundle.nN) (by simp [Bundle.npeArmAtoms]))
  have hctor : N.kN.findMethod "<init>" "()V" = some P1.m.idx := findMethod_of_methodNamed hP1m hk
  obtain ⟨c1, k1, hc1, hk1, -, -, -, hn⟩ := Cond.instantiable_spec (a' (.instantiable Bundle.nN n) (by simp [Bundle.npeArmAtoms]))
  cases Option.some.inj (hc1.symm.trans hfound)
  cases Option.some.inj (hk1.symm.trans hk)
  have hfsz : (freshCell P1.m.cls N.kN).slots.size = n := by simp [hn]
  have hlink1 : P1.sup = PR.m := Option.some.inj (hP1s.symm.trans hPRm)
  have hlinkR : PR.sup = PE.m := Option.some.inj (hPRs.symm.trans hPEm)
  have hlinkE : PE.sup = Z.m T.toThrowableT := Option.some.inj (hPEs.symm.trans Y.init0)
  have hLs : ∀ P, P ∈ [PR, PE] → P.Links0 e.platform s := fun P hP => by
    simp only [List.mem_cons, List.not_mem_nil, or_false] at hP
    rcases hP with rfl | rfl
    · exact LR
    · exact LEx
  have hsel0 : selectMethod e.platform s.vm P1.m.cls T.fill0 = .method T.fill0 := by
    obtain ⟨c2, r2, m2, q1, q2, q3, q4, -⟩ := Cond.selects_spec (a' (.selects Bundle.nN Bundle.tFill0 Bundle.tFill0) (by simp [Bundle.npeArmAtoms]))
    cases Option.some.inj (q1.symm.trans hfound)
    cases Option.some.inj (q2.symm.trans (State.methodFound?_of_named Y.fill0 (by decide)))
    cases Option.some.inj (q3.symm.trans Y.fill0)
    rw [Launch.admits_selectMethod X.admits]; exact q4
  have hselF : selectMethod e.platform s.vm P1.m.cls T.fill = .method N.fill := by
    obtain ⟨c2, r2, m2, q1, q2, q3, q4, -⟩ := Cond.selects_spec (a' (.selects Bundle.nN Bundle.tFill Bundle.nFill) (by simp [Bundle.npeArmAtoms]))
    cases Option.some.inj (q1.symm.trans hfound)
    cases Option.some.inj (q2.symm.trans (State.methodFound?_of_named Y.fill (by decide)))
    cases Option.some.inj (q3.symm.trans hnNF)
    rw [Launch.admits_selectMethod X.admits]; exact q4
  obtain ⟨cellS0, hcS0, hiss⟩ := Y.statics
  obtain ⟨u0, hu0⟩ := Cond.staticRefV Y.unassigned L.unassignedStatic L.statics hcS0 hiss (a' (.isRef (.static Bundle.tN "UNASSIGNED_STACK" Bundle.steD)) (by simp [Bundle.npeArmAtoms]))
  obtain ⟨sen, hsen⟩ := Cond.staticRefV Y.sentinel L.sentinelStatic L.statics hcS0 hiss (a' (.isRef (.static Bundle.tN "SUPPRESSED_SENTINEL" Bundle.listD)) (by simp [Bundle.npeArmAtoms]))
  obtain ⟨ci198, i198, fB, hk198, hg198, ha198, hsB, -, hnB, htB, hffB⟩ := Cond.ownField (t := .object "java/lang/Object") Y.found L.cls (by decide +kernel) (a' (.fieldLink Bundle.tN 198 Bundle.tN "backtrace" Bundle.objD) (by simp [Bundle.npeArmAtoms])) (a' (.lays Bundle.tN Bundle.tN "backtrace" Bundle.objD) (by simp [Bundle.npeArmAtoms])) e.platform hpl
  obtain ⟨cellS, hcS', heS, -, hkeep⟩ := X.same.2.2.2.2.2 T.aS cellS0 hcS0
  have hcellS : W.heap[T.aS]? = some cellS := hcS'
  have hout' : ∀ i, (⟨T.aS, i⟩ : Loc) ∉ locs := fun i hmem => by
    have := hlocs _ hmem cellS0 hcS0
    rw [hiss] at this; cases this
  have hknownS : cellS.vm ≠ .unknown := by
    rw [heS]; intro hu
    rw [show cellS0.vm = .unknown from hu] at hiss
    cases hiss
  have hvU : cellS.slots[T.fUnassigned.slot]? = some u0.v := by rw [hkeep _ (hout' _)]; exact hu0
  have hvSen : cellS.slots[T.fSentinel.slot]? = some sen.v := by rw [hkeep _ (hout' _)]; exact hsen
  obtain ⟨tyC, dC, hdC, hdnC⟩ := Cond.laysAt hfound hk Y.cause (a' (.lays Bundle.nN Bundle.tN "cause" "Ljava/lang/Throwable;") (by simp [Bundle.npeArmAtoms]))
  obtain ⟨tyS, dS, hdS, hdnS⟩ := Cond.laysAt hfound hk Y.stack (a' (.lays Bundle.nN Bundle.tN "stackTrace" Bundle.steD) (by simp [Bundle.npeArmAtoms]))
  obtain ⟨tyP, dP, hdP, hdnP⟩ := Cond.laysAt hfound hk Y.supp (a' (.lays Bundle.nN Bundle.tN "suppressedExceptions" Bundle.listD) (by simp [Bundle.npeArmAtoms]))
  obtain ⟨tyX, dX, hdX, hdnX⟩ := Cond.laysAt hfound hk hffS (a' (.lays Bundle.nN Bundle.nN "extendedMessageState" "I") (by simp [Bundle.npeArmAtoms, Bundle.npeAtoms]))
  obtain ⟨hnX, htX⟩ := State.fieldFound?_type hffS (t := .int) (by decide +kernel)
  have xC := Cond.laysApart hdC hdX hdnC hdnX (by rw [hnX, Y.causeName]; decide)
  have xS := Cond.laysApart hdS hdX hdnS hdnX (by rw [hnX, Y.stackName]; decide)
  have xP := Cond.laysApart hdP hdX hdnP hdnX (by rw [hnX, Y.suppName]; decide)
  have hv0 : (freshCell P1.m.cls N.kN).slots[N.fState.slot]? = some (.int 0) := by
    have := fresh_default (c := P1.m.cls) tyX
    rw [htX] at this; exact this
  obtain ⟨tyB, dB, hdB, hdnB⟩ := Cond.laysAt hfound hk hffB (a' (.lays Bundle.nN Bundle.tN "backtrace" Bundle.objD) (by simp [Bundle.npeArmAtoms]))
  have bC := Cond.laysApart hdB hdC hdnB hdnC (by rw [hnB, Y.causeName]; decide)
  have bS := Cond.laysApart hdB hdS hdnB hdnS (by rw [hnB, Y.stackName]; decide)
  have bP := Cond.laysApart hdB hdP hdnB hdnP (by rw [hnB, Y.suppName]; decide)
  have bX := Cond.laysApart hdB hdX hdnB hdnX (by rw [hnB, hnX]; decide)
  have hbk : ((npeCell N.toNpeT (preparedCellV T.toThrowableT (freshCell P1.m.cls N.kN) W.heap.size u0 sen) W.cur).withEntry W.cur).slots[fB.slot]? = some .null := by
    have := fresh_default (c := P1.m.cls) tyB
    rw [htB] at this
    simpa [npeCell, preparedCellV, Cell.setSlot, Cell.withEntry, Array.getElem?_setIfInBounds, bC, bS, bP, bX, bC.symm, bS.symm, bP.symm, bX.symm, defaultValue] using this
  have tkC := Takes.of_laid (v := .ref W.heap.size) hk hordN tyC (by rw [Y.causeType]; rfl)
  have tkS := Takes.of_laid (v := u0.v) hk hordN tyS (by rw [Y.stackType]; exact fits_refV_array _ u0)
  have tkP := Takes.of_laid (v := sen.v) hk hordN tyP (by rw [Y.suppType]; exact fits_refV_object _ sen)
  have tkX := Takes.of_laid (v := .int 1) hk hordN tyX (by rw [htX]; rfl)
  have hskip : SkipFacts T e.platform s (fun u => u) u0 ((npeCell N.toNpeT (preparedCellV T.toThrowableT (freshCell P1.m.cls N.kN) W.heap.size u0 sen) W.cur).withEntry W.cur) := ⟨{ ci198 := ci198, i198 := i198, fBack := fB }, ⟨hk198, hg198, ha198, hsB⟩, hbk, fun _ _ => rfl⟩
  obtain ⟨vm', X3, st, -⟩ := X.throwsNpeColdBareVAt hexec hg hsize T L Z LZ N LN P1 L1 [PR, PE] hLs hlink1 ⟨hlinkR, hlinkE, trivial⟩ hfound hk hinit hordN hctor hsel0 hselF hcellS hknownS hvU hvSen
    hv0 xC xS xP tkC tkS tkP tkX Y.objLocals hskip (fun _ _ hA hW _ hroom _ hrest => L.nativeOff p htr hA hW hroom hrest) (by simpa using hRframes) hRlocals (by simp) hRcells (by rw [hn]; exact hRslots)
  have hlt : W.heap.size < ((W.pushCell (freshCell P1.m.cls N.kN)).setVm vm').heap.size := by
    show W.heap.size < (W.pushCell (freshCell P1.m.cls N.kN)).heap.size
    rw [State.heap_size_pushCell]; omega
  rw [hfsz] at X3
  obtain ⟨g₁, hfrM⟩ := X3.frames_eq
  have hU : ((((W.pushCell (freshCell P1.m.cls N.kN)).setVm vm').setCell W.heap.size (npeBareV T.toThrowableT N.toNpeT (freshCell P1.m.cls N.kN) W.heap.size u0 sen)).setTop g).pushFrame (.throwing W.heap.size) = (((W.pushCell (freshCell P1.m.cls N.kN)).setVm vm').setCell W.heap.size (npeBareV T.toThrowableT N.toNpeT (freshCell P1.m.cls N.kN) W.heap.size u0 sen)).setFrames (.throwing W.heap.size :: .java g :: below) := by
    rw [State.pushFrame, State.frames_setTop _ hfrM, State.setTop_of_frames _ hfrM, State.setFrames_setFrames]
  refine ⟨_, W.heap.size, _, fun target ht => st.trans (by rw [← hU]; exact ht), X3.forget (fun y hy => ?_), heapAt_setCell_self _ hlt, hfound, rfl⟩
  simp only [List.mem_cons, List.not_mem_nil, or_false] at hy
  have hge : s.heap.size ≤ W.heap.size := X.same.2.1
  rcases hy with rfl | rfl | rfl | rfl | rfl <;> exact hge
/-- the words of a machine's NullPointerException, but the four that speak of the heap -/
def vx_atN (n : Nat) : List Cond := (Bundle.npeArmAtoms n).filter vx_no
/-- the words of a machine's throw with a message, but the four that speak of the heap -/
def vx_atM (X : String) (names : List String) : List Cond := (Bundle.messageArmAtoms X names).filter vx_no
section
variable {p : Program} {l : Launch} {e : Env} {R : Room} {s : State} {m : MethodId} {args : Array Value} {below : List Frame} {meth : Method} {c : Code} {H : Heap} {locs : List Loc} {cells slots : Nat}
/-- a frame seen from a rebased start, seen from the first start again -/
theorem vx_back9 {T S : State} {R' : Room} {k n : Nat} (X : Stand p l e R s m args below meth c T locs cells slots) (Y : Stand p l e R' ((T.setVm s.vm).setFrames (.invoking m args :: below)) m args below meth c T [] 0 0) (Z : Stand p l e R' ((T.setVm s.vm).setFrames (.invoking m args :: below)) m args below meth c S [] k n) :
    Stand p l e R s m args below meth c S locs (cells + k) (slots + n) := by
  have hW0 : s.WarmedH ((T.setVm s.vm).setFrames (.invoking m args :: below)).vm := State.WarmedH.refl s
  refine { admits := X.admits, cas := X.cas, clock := X.clock, frames := X.frames, room := X.room, hears := X.hears, method := X.method, code := X.code, here := Z.here, tail := Z.tail, warmed := State.WarmedH.trans hW0 Z.warmed, limits := Z.limits.trans (Y.limits.symm.trans X.limits), bytes := Z.bytes.trans (Y.bytes.symm.trans X.bytes), same := ?_ }
  obtain ⟨e1, e2⟩ := Z.same
  rw [State.setFrames_setFrames] at e1
  have h2 : (T.setVm s.vm).sameButNew (S.setVm s.vm) [] k n := ⟨e1, e2⟩
  have h3 := X.same.trans h2
  rw [List.append_nil] at h3
  exact h3
/-- from the machine's note that E is thrown here with this text -/
def vx_Note (p : Program) (l : Launch) (e : Env) (R : Room) (s : State) (m : MethodId) (args : Array Value) (below : List Frame) (meth : Method) (c : Code) (H : Heap) (locs : List Loc) (cells slots : Nat) (Q : State → Prop) (g : JFrame) (E text : String) : Prop :=
  ∀ T : State, T.heap = H → Stand p l e R s m args below meth c T locs cells slots → ∃ t, Steps p.tables e below ((T.setTop g).pushFrame (.throwNew E (some text) none)) t ∧ Q t
theorem vx_vm {pc : Nat} {ls : Array Slot} {rest : List Value} {Q : State → Prop} (hexec : p.tables.exec = Jvm.exec) (hl : l.stackTraces = false) {cls text : String} {names : List String} {nb : Nat} {A : Nat → Prop}
    (hcls : Bundle.fit cls = true) (hnames : ∀ n ∈ names, Bundle.fit n = true) (hsoe : (cls == "java/lang/StackOverflowError") = false) (hoom : (cls == "java/lang/OutOfMemoryError") = false)
    (hat : ∀ w ∈ vx_atM cls names, w.before args s = true) (hgood : ∀ w ∈ vx_atM cls names, vx_ot w = true)
    (hU : vx_Zq Bundle.tN "UNASSIGNED_STACK" Bundle.steD A s s.heap) (hN : vx_Zq Bundle.tN "SUPPRESSED_SENTINEL" Bundle.listD A s s.heap) (hS : va_S A s.heap H locs) (hsize : ls.size = c.maxLocals)
    (htext : (text == notModelled) = false) (hnb : (stringBytes (stringToUtf16 text)).size ≤ nb) (hnb1 : nb ≤ 1000)
    (hRframes : names.length + 4 < R.frames) (hRlocals : (rest.map fun v => v.category).sum + 10240 ≤ R.locals) (hshort : 13 * names.length + 55 ≤ 10240) (hRcells : cells + 3 ≤ R.cells) (hRslots : slots + (nb + 10) ≤ R.slots) (hlocks : meth.locks = false)
    (k : ∀ (H1 : Heap) (q9 : Addr) (ce : Cell), H.size ≤ H1.size → (∀ q : Nat, q < H.size → H1[q]? = H[q]?) → va_S A s.heap H1 locs → H1[q9]? = some ce → ce.vm = .none → s.vm.findClass cls = some ce.cls → vx_W p l e R s m args below meth c H1 locs (cells + 3) (slots + (nb + 10)) Q (F0 m pc ls rest) q9) :
    vx_Note p l e R s m args below meth c H locs cells slots Q (F0 m pc ls rest) cls text := by
  intro T hT X
  have htr : e.platform.stackTraces = false := (show e.platform.stackTraces = l.stackTraces by rw [X.admits.platform]).trans hl
  have Y := vx_rebase X (R' := { frames := R.frames, locals := R.locals, cells := 3, slots := nb + 10 }) (Nat.le_refl _) (Nat.le_refl _) hRcells hRslots
  have hhp : ((T.setVm s.vm).setFrames (.invoking m args :: below)).heap = H := hT
  have hW0 : s.WarmedH ((T.setVm s.vm).setFrames (.invoking m args :: below)).vm := State.WarmedH.refl s
  have hat' : ∀ w ∈ vx_atM cls names, w.before args ((T.setVm s.vm).setFrames (.invoking m args :: below)) = true := fun w hw => vx_ot_at hW0 rfl (hgood w hw) (hat w hw)
  have hU' : vx_Zq Bundle.tN "UNASSIGNED_STACK" Bundle.steD A ((T.setVm s.vm).setFrames (.invoking m args :: below)) ((T.setVm s.vm).setFrames (.invoking m args :: below)).heap := by rw [hhp]; exact vx_Zq.moved hW0.alike (hU.kept hS.2.1)
  have hN' : vx_Zq Bundle.tN "SUPPRESSED_SENTINEL" Bundle.listD A ((T.setVm s.vm).setFrames (.invoking m args :: below)) ((T.setVm s.vm).setFrames (.invoking m args :: below)).heap := by rw [hhp]; exact vx_Zq.moved hW0.alike (hN.kept hS.2.1)
  obtain ⟨S, q, ce, st, Z, hce, hcl', hv⟩ := vx_vmAt Y hexec htr (cls := cls) (names := names) (text := text) hcls hnames hsoe hoom (vx_own hat' (vx_isRefq hU'.1) (vx_isRefq hN'.1) hU'.2.word hN'.2.word) (fun x hx => nomatch hx) htext
    (by rw [Launch.admits_arrayLengthLimit X.admits]; omega) (by rw [Launch.admits_maxHeapBytes X.admits]; simp only [componentBytes]; omega)
    (g := F0 m pc ls rest) rfl hsize hRframes (by show 2 * 0 + (rest.map fun v => v.category).sum + 10240 ≤ R.locals; omega) hshort (by show 0 + 3 ≤ 3; omega) (by show 0 + (_ + 4 + 6) ≤ nb + 10; omega) hlocks
  obtain ⟨f1, f2⟩ := vx_frame Z.same
  have f1' : H.size ≤ S.heap.size := by rw [← hT]; exact f1
  have f2' : ∀ q : Nat, q < H.size → S.heap[q]? = H[q]? := fun q hq => by
    rw [← hT]
    exact f2 q (by rw [← hT] at hq; exact hq) (fun z hz => nomatch hz)
  have X5 := vx_back9 X Y Z
  have X6 : Stand p l e R s m args below meth c S locs (cells + 3) (slots + (nb + 10)) := { X5 with same := X5.same.mono (by omega) (by omega) }
  obtain ⟨t, a1, b1⟩ := k S.heap q ce f1' f2' ⟨Nat.le_trans hS.1 f1', fun q h1 h2 => (f2' q (Nat.lt_of_lt_of_le h1 hS.1)).trans (hS.2.1 q h1 h2), hS.2.2⟩ hce hv hcl' S rfl X6
  exact ⟨t, st t a1, b1⟩
/-- from the machine's note that NullPointerException is thrown here -/
def vx_NoteN (p : Program) (l : Launch) (e : Env) (R : Room) (s : State) (m : MethodId) (args : Array Value) (below : List Frame) (meth : Method) (c : Code) (H : Heap) (locs : List Loc) (cells slots : Nat) (Q : State → Prop) (g : JFrame) : Prop :=
  ∀ T : State, T.heap = H → Stand p l e R s m args below meth c T locs cells slots → ∃ t, Steps p.tables e below ((T.setTop g).pushFrame (.throwNew "java/lang/NullPointerException" none none)) t ∧ Q t
theorem vx_npe {pc : Nat} {ls : Array Slot} {rest : List Value} {Q : State → Prop} (hexec : p.tables.exec = Jvm.exec) (hl : l.stackTraces = false) {nb : Nat} {A : Nat → Prop}
    (hat : ∀ w ∈ vx_atN nb, w.before args s = true) (hgood : ∀ w ∈ vx_atN nb, vx_ot w = true)
    (hU : vx_Zq Bundle.tN "UNASSIGNED_STACK" Bundle.steD A s s.heap) (hN : vx_Zq Bundle.tN "SUPPRESSED_SENTINEL" Bundle.listD A s s.heap) (hS : va_S A s.heap H locs) (hsize : ls.size = c.maxLocals)
    (hRframes : 7 < R.frames) (hRlocals : (rest.map fun v => v.category).sum + 10240 ≤ R.locals) (hRcells : cells + 1 ≤ R.cells) (hRslots : slots + nb ≤ R.slots) (hlocks : meth.locks = false)
    (k : ∀ (H1 : Heap) (q9 : Addr) (ce : Cell), H.size ≤ H1.size → (∀ q : Nat, q < H.size → H1[q]? = H[q]?) → va_S A s.heap H1 locs → H1[q9]? = some ce → ce.vm = .none → s.vm.findClass "java/lang/NullPointerException" = some ce.cls → vx_W p l e R s m args below meth c H1 locs (cells + 1) (slots + nb) Q (F0 m pc ls rest) q9) :
    vx_NoteN p l e R s m args below meth c H locs cells slots Q (F0 m pc ls rest) := by
  intro T hT X
  have htr : e.platform.stackTraces = false := (show e.platform.stackTraces = l.stackTraces by rw [X.admits.platform]).trans hl
  have Y := vx_rebase X (R' := { frames := R.frames, locals := R.locals, cells := 1, slots := nb }) (Nat.le_refl _) (Nat.le_refl _) hRcells hRslots
  have hhp : ((T.setVm s.vm).setFrames (.invoking m args :: below)).heap = H := hT
  have hW0 : s.WarmedH ((T.setVm s.vm).setFrames (.invoking m args :: below)).vm := State.WarmedH.refl s
  have hat' : ∀ w ∈ vx_atN nb, w.before args ((T.setVm s.vm).setFrames (.invoking m args :: below)) = true := fun w hw => vx_ot_at hW0 rfl (hgood w hw) (hat w hw)
  have hU' : vx_Zq Bundle.tN "UNASSIGNED_STACK" Bundle.steD A ((T.setVm s.vm).setFrames (.invoking m args :: below)) ((T.setVm s.vm).setFrames (.invoking m args :: below)).heap := by rw [hhp]; exact vx_Zq.moved hW0.alike (hU.kept hS.2.1)
  have hN' : vx_Zq Bundle.tN "SUPPRESSED_SENTINEL" Bundle.listD A ((T.setVm s.vm).setFrames (.invoking m args :: below)) ((T.setVm s.vm).setFrames (.invoking m args :: below)).heap := by rw [hhp]; exact vx_Zq.moved hW0.alike (hN.kept hS.2.1)
  obtain ⟨S, q, ce, st, Z, hce, hcl', hv⟩ := vx_npeAt Y hexec htr (n := nb) (vx_own hat' (vx_isRefq hU'.1) (vx_isRefq hN'.1) hU'.2.word hN'.2.word) (fun x hx => nomatch hx)
    (g := F0 m pc ls rest) rfl hsize hRframes (by show 2 * 0 + (rest.map fun v => v.category).sum + 10240 ≤ R.locals; omega) (by show 0 + 1 ≤ 1; omega) (by show 0 + nb ≤ nb; omega) hlocks
  obtain ⟨f1, f2⟩ := vx_frame Z.same
  have f1' : H.size ≤ S.heap.size := by rw [← hT]; exact f1
  have f2' : ∀ q : Nat, q < H.size → S.heap[q]? = H[q]? := fun q hq => by
    rw [← hT]
    exact f2 q (by rw [← hT] at hq; exact hq) (fun z hz => nomatch hz)
  have X5 := vx_back9 X Y Z
  have X6 : Stand p l e R s m args below meth c S locs (cells + 1) (slots + nb) := { X5 with same := X5.same.mono (by omega) (by omega) }
  obtain ⟨t, a1, b1⟩ := k S.heap q ce f1' f2' ⟨Nat.le_trans hS.1 f1', fun q h1 h2 => (f2' q (Nat.lt_of_lt_of_le h1 hS.1)).trans (hS.2.1 q h1 h2), hS.2.2⟩ hce hv hcl' S rfl X6
  exact ⟨t, st t a1, b1⟩
variable {Q : State → Prop} {cc : ByteArray} {pc : Nat} {ls : Array Slot} {rest : List Value}
theorem vx_idivZ (hexec : p.tables.exec = Jvm.exec) (hb : c.code = cc) {a b : Int32} (h0 : b = 0) (d : decode cc pc = .ok (.idiv, 1)) (k : vx_Note p l e R s m args below meth c H locs cells slots Q (F0 m pc ls rest) "java/lang/ArithmeticException" "/ by zero") :
    W p l e R s m args below meth c H locs cells slots Q (F0 m pc ls (.int b :: .int a :: rest)) := by
  intro T hT X
  obtain ⟨t, st, q⟩ := k T hT X
  exact ⟨t, X.idivZero hexec (g := F0 m pc ls (.int b :: .int a :: rest)) rfl (a := a) (rest := rest) (by rw [h0]) (by rw [hb]; exact d) t st, q⟩
theorem vx_iremZ (hexec : p.tables.exec = Jvm.exec) (hb : c.code = cc) {a b : Int32} (h0 : b = 0) (d : decode cc pc = .ok (.irem, 1)) (k : vx_Note p l e R s m args below meth c H locs cells slots Q (F0 m pc ls rest) "java/lang/ArithmeticException" "/ by zero") :
    W p l e R s m args below meth c H locs cells slots Q (F0 m pc ls (.int b :: .int a :: rest)) := by
  intro T hT X
  obtain ⟨t, st, q⟩ := k T hT X
  exact ⟨t, X.iremZero hexec (g := F0 m pc ls (.int b :: .int a :: rest)) rfl (a := a) (rest := rest) (by rw [h0]) (by rw [hb]; exact d) t st, q⟩
theorem vx_ldivZ (hexec : p.tables.exec = Jvm.exec) (hb : c.code = cc) {a b : Int64} (h0 : b = 0) (d : decode cc pc = .ok (.ldiv, 1)) (k : vx_Note p l e R s m args below meth c H locs cells slots Q (F0 m pc ls rest) "java/lang/ArithmeticException" "/ by zero") :
    W p l e R s m args below meth c H locs cells slots Q (F0 m pc ls (.long b :: .long a :: rest)) := by
  intro T hT X
  obtain ⟨t, st, q⟩ := k T hT X
  exact ⟨t, X.ldivZero hexec (g := F0 m pc ls (.long b :: .long a :: rest)) rfl (a := a) (rest := rest) (by rw [h0]) (by rw [hb]; exact d) t st, q⟩
theorem vx_lremZ (hexec : p.tables.exec = Jvm.exec) (hb : c.code = cc) {a b : Int64} (h0 : b = 0) (d : decode cc pc = .ok (.lrem, 1)) (k : vx_Note p l e R s m args below meth c H locs cells slots Q (F0 m pc ls rest) "java/lang/ArithmeticException" "/ by zero") :
    W p l e R s m args below meth c H locs cells slots Q (F0 m pc ls (.long b :: .long a :: rest)) := by
  intro T hT X
  obtain ⟨t, st, q⟩ := k T hT X
  exact ⟨t, X.lremZero hexec (g := F0 m pc ls (.long b :: .long a :: rest)) rfl (a := a) (rest := rest) (by rw [h0]) (by rw [hb]; exact d) t st, q⟩
theorem vx_ialdZ {D : va_G} {cl : List vw_C} {ws : va_W} {tys : List (ClassId × FieldType)} {a : Nat} (hexec : p.tables.exec = Jvm.exec) (hb : c.code = cc) (hK : va_K D cl tys s) (hP : va_P D cl ws H) (q0 t0 : Nat) {cA : ClassId} {n : Nat} {f : Nat → Int32} (ha : ws[q0]? = some (a, .inl (cA, n, .inl f))) (ht : tys[t0]? = some (cA, .int)) {i : Int32} (hout : ¬ vp_in i n) (hdg : decode cc pc = .ok (.iaload, 1))
    (k : ∀ tx : String, tx = (toString "Index " ++ toString i ++ toString " out of bounds for length " ++ toString n : String) → vx_Note p l e R s m args below meth c H locs cells slots Q (F0 m pc ls rest) "java/lang/ArrayIndexOutOfBoundsException" tx) : W p l e R s m args below meth c H locs cells slots Q (F0 m pc ls (.int i :: .ref a :: rest)) := by
  intro T hT X
  obtain ⟨t, st, q⟩ := k _ rfl T hT X
  refine ⟨t, ?_, q⟩
  have h1 := X.ialoadOut hexec (by rw [hT]; exact hP q0 _ ha) ((hK.2 t0 _ ht).1 n (fun j => .int (f j))) (j := i) (by show (i < 0 ∨ (arrV _ _ _).slots.size ≤ _); rw [arrV_size]; exact Classical.byContradiction hout) (g := F0 m pc ls (.int i :: .ref a :: rest)) rfl (rest := rest) rfl (by rw [hb]; exact hdg) t
  simp only [arrV_size] at h1
  exact h1 st
theorem vx_iastZ {D : va_G} {cl : List vw_C} {ws : va_W} {tys : List (ClassId × FieldType)} {a : Nat} (hexec : p.tables.exec = Jvm.exec) (hb : c.code = cc) (hK : va_K D cl tys s) (hP : va_P D cl ws H) (q0 t0 : Nat) {cA : ClassId} {n : Nat} {f : Nat → Int32} (ha : ws[q0]? = some (a, .inl (cA, n, .inl f))) (ht : tys[t0]? = some (cA, .int)) {i : Int32} {x : Int32} (hout : ¬ vp_in i n) (hdg : decode cc pc = .ok (.iastore, 1))
    (k : ∀ tx : String, tx = (toString "Index " ++ toString i ++ toString " out of bounds for length " ++ toString n : String) → vx_Note p l e R s m args below meth c H locs cells slots Q (F0 m pc ls rest) "java/lang/ArrayIndexOutOfBoundsException" tx) : W p l e R s m args below meth c H locs cells slots Q (F0 m pc ls (.int x :: .int i :: .ref a :: rest)) := by
  intro T hT X
  obtain ⟨t, st, q⟩ := k _ rfl T hT X
  refine ⟨t, ?_, q⟩
  have h1 := X.iastoreOut hexec (by rw [hT]; exact hP q0 _ ha) ((hK.2 t0 _ ht).1 n (fun j => .int (f j))) (j := i) (by show (i < 0 ∨ (arrV _ _ _).slots.size ≤ _); rw [arrV_size]; exact Classical.byContradiction hout) (g := F0 m pc ls (.int x :: .int i :: .ref a :: rest)) rfl (rest := rest) rfl (by rw [hb]; exact hdg) t
  simp only [arrV_size] at h1
  exact h1 st
theorem vx_baldZ {D : va_G} {cl : List vw_C} {ws : va_W} {tys : List (ClassId × FieldType)} {a : Nat} (hexec : p.tables.exec = Jvm.exec) (hb : c.code = cc) (hK : va_K D cl tys s) (hP : va_P D cl ws H) (q0 t0 : Nat) {cA : ClassId} {n : Nat} {f : Nat → Int32} (ha : ws[q0]? = some (a, .inl (cA, n, .inl f))) (ht : tys[t0]? = some (cA, .byte)) {i : Int32} (hout : ¬ vp_in i n) (hdg : decode cc pc = .ok (.baload, 1))
    (k : ∀ tx : String, tx = (toString "Index " ++ toString i ++ toString " out of bounds for length " ++ toString n : String) → vx_Note p l e R s m args below meth c H locs cells slots Q (F0 m pc ls rest) "java/lang/ArrayIndexOutOfBoundsException" tx) : W p l e R s m args below meth c H locs cells slots Q (F0 m pc ls (.int i :: .ref a :: rest)) := by
  intro T hT X
  obtain ⟨t, st, q⟩ := k _ rfl T hT X
  refine ⟨t, ?_, q⟩
  have h1 := X.baloadOut hexec (by rw [hT]; exact hP q0 _ ha) ((hK.2 t0 _ ht).1 n (fun j => .int (f j))) (j := i) (by show (i < 0 ∨ (arrV _ _ _).slots.size ≤ _); rw [arrV_size]; exact Classical.byContradiction hout) (g := F0 m pc ls (.int i :: .ref a :: rest)) rfl (rest := rest) rfl (by rw [hb]; exact hdg) t
  simp only [arrV_size] at h1
  exact h1 st
theorem vx_bastZ {D : va_G} {cl : List vw_C} {ws : va_W} {tys : List (ClassId × FieldType)} {a : Nat} (hexec : p.tables.exec = Jvm.exec) (hb : c.code = cc) (hK : va_K D cl tys s) (hP : va_P D cl ws H) (q0 t0 : Nat) {cA : ClassId} {n : Nat} {f : Nat → Int32} (ha : ws[q0]? = some (a, .inl (cA, n, .inl f))) (ht : tys[t0]? = some (cA, .byte)) {i : Int32} {x : Int32} (hout : ¬ vp_in i n) (hdg : decode cc pc = .ok (.bastore, 1))
    (k : ∀ tx : String, tx = (toString "Index " ++ toString i ++ toString " out of bounds for length " ++ toString n : String) → vx_Note p l e R s m args below meth c H locs cells slots Q (F0 m pc ls rest) "java/lang/ArrayIndexOutOfBoundsException" tx) : W p l e R s m args below meth c H locs cells slots Q (F0 m pc ls (.int x :: .int i :: .ref a :: rest)) := by
  intro T hT X
  obtain ⟨t, st, q⟩ := k _ rfl T hT X
  refine ⟨t, ?_, q⟩
  have h1 := X.bastoreOut hexec (by rw [hT]; exact hP q0 _ ha) ((hK.2 t0 _ ht).1 n (fun j => .int (f j))) (j := i) (by show (i < 0 ∨ (arrV _ _ _).slots.size ≤ _); rw [arrV_size]; exact Classical.byContradiction hout) (g := F0 m pc ls (.int x :: .int i :: .ref a :: rest)) rfl (rest := rest) rfl (by rw [hb]; exact hdg) t
  simp only [arrV_size] at h1
  exact h1 st
theorem vx_zaldZ {D : va_G} {cl : List vw_C} {ws : va_W} {tys : List (ClassId × FieldType)} {a : Nat} (hexec : p.tables.exec = Jvm.exec) (hb : c.code = cc) (hK : va_K D cl tys s) (hP : va_P D cl ws H) (q0 t0 : Nat) {cA : ClassId} {n : Nat} {f : Nat → Int32} (ha : ws[q0]? = some (a, .inl (cA, n, .inl f))) (ht : tys[t0]? = some (cA, .boolean)) {i : Int32} (hout : ¬ vp_in i n) (hdg : decode cc pc = .ok (.baload, 1))
    (k : ∀ tx : String, tx = (toString "Index " ++ toString i ++ toString " out of bounds for length " ++ toString n : String) → vx_Note p l e R s m args below meth c H locs cells slots Q (F0 m pc ls rest) "java/lang/ArrayIndexOutOfBoundsException" tx) : W p l e R s m args below meth c H locs cells slots Q (F0 m pc ls (.int i :: .ref a :: rest)) := by
  intro T hT X
  obtain ⟨t, st, q⟩ := k _ rfl T hT X
  refine ⟨t, ?_, q⟩
  have h1 := X.baloadOut hexec (by rw [hT]; exact hP q0 _ ha) ((hK.2 t0 _ ht).1 n (fun j => .int (f j))) (j := i) (by show (i < 0 ∨ (arrV _ _ _).slots.size ≤ _); rw [arrV_size]; exact Classical.byContradiction hout) (g := F0 m pc ls (.int i :: .ref a :: rest)) rfl (rest := rest) rfl (by rw [hb]; exact hdg) t
  simp only [arrV_size] at h1
  exact h1 st
theorem vx_zastZ {D : va_G} {cl : List vw_C} {ws : va_W} {tys : List (ClassId × FieldType)} {a : Nat} (hexec : p.tables.exec = Jvm.exec) (hb : c.code = cc) (hK : va_K D cl tys s) (hP : va_P D cl ws H) (q0 t0 : Nat) {cA : ClassId} {n : Nat} {f : Nat → Int32} (ha : ws[q0]? = some (a, .inl (cA, n, .inl f))) (ht : tys[t0]? = some (cA, .boolean)) {i : Int32} {x : Int32} (hout : ¬ vp_in i n) (hdg : decode cc pc = .ok (.bastore, 1))
    (k : ∀ tx : String, tx = (toString "Index " ++ toString i ++ toString " out of bounds for length " ++ toString n : String) → vx_Note p l e R s m args below meth c H locs cells slots Q (F0 m pc ls rest) "java/lang/ArrayIndexOutOfBoundsException" tx) : W p l e R s m args below meth c H locs cells slots Q (F0 m pc ls (.int x :: .int i :: .ref a :: rest)) := by
  intro T hT X
  obtain ⟨t, st, q⟩ := k _ rfl T hT X
  refine ⟨t, ?_, q⟩
  have h1 := X.bastoreOut hexec (by rw [hT]; exact hP q0 _ ha) ((hK.2 t0 _ ht).1 n (fun j => .int (f j))) (j := i) (by show (i < 0 ∨ (arrV _ _ _).slots.size ≤ _); rw [arrV_size]; exact Classical.byContradiction hout) (g := F0 m pc ls (.int x :: .int i :: .ref a :: rest)) rfl (rest := rest) rfl (by rw [hb]; exact hdg) t
  simp only [arrV_size] at h1
  exact h1 st
theorem vx_caldZ {D : va_G} {cl : List vw_C} {ws : va_W} {tys : List (ClassId × FieldType)} {a : Nat} (hexec : p.tables.exec = Jvm.exec) (hb : c.code = cc) (hK : va_K D cl tys s) (hP : va_P D cl ws H) (q0 t0 : Nat) {cA : ClassId} {n : Nat} {f : Nat → Int32} (ha : ws[q0]? = some (a, .inl (cA, n, .inl f))) (ht : tys[t0]? = some (cA, .char)) {i : Int32} (hout : ¬ vp_in i n) (hdg : decode cc pc = .ok (.caload, 1))
    (k : ∀ tx : String, tx = (toString "Index " ++ toString i ++ toString " out of bounds for length " ++ toString n : String) → vx_Note p l e R s m args below meth c H locs cells slots Q (F0 m pc ls rest) "java/lang/ArrayIndexOutOfBoundsException" tx) : W p l e R s m args below meth c H locs cells slots Q (F0 m pc ls (.int i :: .ref a :: rest)) := by
  intro T hT X
  obtain ⟨t, st, q⟩ := k _ rfl T hT X
  refine ⟨t, ?_, q⟩
  have h1 := X.caloadOut hexec (by rw [hT]; exact hP q0 _ ha) ((hK.2 t0 _ ht).1 n (fun j => .int (f j))) (j := i) (by show (i < 0 ∨ (arrV _ _ _).slots.size ≤ _); rw [arrV_size]; exact Classical.byContradiction hout) (g := F0 m pc ls (.int i :: .ref a :: rest)) rfl (rest := rest) rfl (by rw [hb]; exact hdg) t
  simp only [arrV_size] at h1
  exact h1 st
theorem vx_castZ {D : va_G} {cl : List vw_C} {ws : va_W} {tys : List (ClassId × FieldType)} {a : Nat} (hexec : p.tables.exec = Jvm.exec) (hb : c.code = cc) (hK : va_K D cl tys s) (hP : va_P D cl ws H) (q0 t0 : Nat) {cA : ClassId} {n : Nat} {f : Nat → Int32} (ha : ws[q0]? = some (a, .inl (cA, n, .inl f))) (ht : tys[t0]? = some (cA, .char)) {i : Int32} {x : Int32} (hout : ¬ vp_in i n) (hdg : decode cc pc = .ok (.castore, 1))
    (k : ∀ tx : String, tx = (toString "Index " ++ toString i ++ toString " out of bounds for length " ++ toString n : String) → vx_Note p l e R s m args below meth c H locs cells slots Q (F0 m pc ls rest) "java/lang/ArrayIndexOutOfBoundsException" tx) : W p l e R s m args below meth c H locs cells slots Q (F0 m pc ls (.int x :: .int i :: .ref a :: rest)) := by
  intro T hT X
  obtain ⟨t, st, q⟩ := k _ rfl T hT X
  refine ⟨t, ?_, q⟩
  have h1 := X.castoreOut hexec (by rw [hT]; exact hP q0 _ ha) ((hK.2 t0 _ ht).1 n (fun j => .int (f j))) (j := i) (by show (i < 0 ∨ (arrV _ _ _).slots.size ≤ _); rw [arrV_size]; exact Classical.byContradiction hout) (g := F0 m pc ls (.int x :: .int i :: .ref a :: rest)) rfl (rest := rest) rfl (by rw [hb]; exact hdg) t
  simp only [arrV_size] at h1
  exact h1 st
theorem vx_saldZ {D : va_G} {cl : List vw_C} {ws : va_W} {tys : List (ClassId × FieldType)} {a : Nat} (hexec : p.tables.exec = Jvm.exec) (hb : c.code = cc) (hK : va_K D cl tys s) (hP : va_P D cl ws H) (q0 t0 : Nat) {cA : ClassId} {n : Nat} {f : Nat → Int32} (ha : ws[q0]? = some (a, .inl (cA, n, .inl f))) (ht : tys[t0]? = some (cA, .short)) {i : Int32} (hout : ¬ vp_in i n) (hdg : decode cc pc = .ok (.saload, 1))
    (k : ∀ tx : String, tx = (toString "Index " ++ toString i ++ toString " out of bounds for length " ++ toString n : String) → vx_Note p l e R s m args below meth c H locs cells slots Q (F0 m pc ls rest) "java/lang/ArrayIndexOutOfBoundsException" tx) : W p l e R s m args below meth c H locs cells slots Q (F0 m pc ls (.int i :: .ref a :: rest)) := by
  intro T hT X
  obtain ⟨t, st, q⟩ := k _ rfl T hT X
  refine ⟨t, ?_, q⟩
  have h1 := X.saloadOut hexec (by rw [hT]; exact hP q0 _ ha) ((hK.2 t0 _ ht).1 n (fun j => .int (f j))) (j := i) (by show (i < 0 ∨ (arrV _ _ _).slots.size ≤ _); rw [arrV_size]; exact Classical.byContradiction hout) (g := F0 m pc ls (.int i :: .ref a :: rest)) rfl (rest := rest) rfl (by rw [hb]; exact hdg) t
  simp only [arrV_size] at h1
  exact h1 st
theorem vx_sastZ {D : va_G} {cl : List vw_C} {ws : va_W} {tys : List (ClassId × FieldType)} {a : Nat} (hexec : p.tables.exec = Jvm.exec) (hb : c.code = cc) (hK : va_K D cl tys s) (hP : va_P D cl ws H) (q0 t0 : Nat) {cA : ClassId} {n : Nat} {f : Nat → Int32} (ha : ws[q0]? = some (a, .inl (cA, n, .inl f))) (ht : tys[t0]? = some (cA, .short)) {i : Int32} {x : Int32} (hout : ¬ vp_in i n) (hdg : decode cc pc = .ok (.sastore, 1))
    (k : ∀ tx : String, tx = (toString "Index " ++ toString i ++ toString " out of bounds for length " ++ toString n : String) → vx_Note p l e R s m args below meth c H locs cells slots Q (F0 m pc ls rest) "java/lang/ArrayIndexOutOfBoundsException" tx) : W p l e R s m args below meth c H locs cells slots Q (F0 m pc ls (.int x :: .int i :: .ref a :: rest)) := by
  intro T hT X
  obtain ⟨t, st, q⟩ := k _ rfl T hT X
  refine ⟨t, ?_, q⟩
  have h1 := X.sastoreOut hexec (by rw [hT]; exact hP q0 _ ha) ((hK.2 t0 _ ht).1 n (fun j => .int (f j))) (j := i) (by show (i < 0 ∨ (arrV _ _ _).slots.size ≤ _); rw [arrV_size]; exact Classical.byContradiction hout) (g := F0 m pc ls (.int x :: .int i :: .ref a :: rest)) rfl (rest := rest) rfl (by rw [hb]; exact hdg) t
  simp only [arrV_size] at h1
  exact h1 st
theorem vx_laldZ {D : va_G} {cl : List vw_C} {ws : va_W} {tys : List (ClassId × FieldType)} {a : Nat} (hexec : p.tables.exec = Jvm.exec) (hb : c.code = cc) (hK : va_K D cl tys s) (hP : va_P D cl ws H) (q0 t0 : Nat) {cA : ClassId} {n : Nat} {f : Nat → Int64} (ha : ws[q0]? = some (a, .inl (cA, n, .inr (.inl f)))) (ht : tys[t0]? = some (cA, .long)) {i : Int32} (hout : ¬ vp_in i n) (hdg : decode cc pc = .ok (.laload, 1))
    (k : ∀ tx : String, tx = (toString "Index " ++ toString i ++ toString " out of bounds for length " ++ toString n : String) → vx_Note p l e R s m args below meth c H locs cells slots Q (F0 m pc ls rest) "java/lang/ArrayIndexOutOfBoundsException" tx) : W p l e R s m args below meth c H locs cells slots Q (F0 m pc ls (.int i :: .ref a :: rest)) := by
  intro T hT X
  obtain ⟨t, st, q⟩ := k _ rfl T hT X
  refine ⟨t, ?_, q⟩
  have h1 := X.laloadOut hexec (by rw [hT]; exact hP q0 _ ha) ((hK.2 t0 _ ht).1 n (fun j => .long (f j))) (j := i) (by show (i < 0 ∨ (arrV _ _ _).slots.size ≤ _); rw [arrV_size]; exact Classical.byContradiction hout) (g := F0 m pc ls (.int i :: .ref a :: rest)) rfl (rest := rest) rfl (by rw [hb]; exact hdg) t
  simp only [arrV_size] at h1
  exact h1 st
theorem vx_lastZ {D : va_G} {cl : List vw_C} {ws : va_W} {tys : List (ClassId × FieldType)} {a : Nat} (hexec : p.tables.exec = Jvm.exec) (hb : c.code = cc) (hK : va_K D cl tys s) (hP : va_P D cl ws H) (q0 t0 : Nat) {cA : ClassId} {n : Nat} {f : Nat → Int64} (ha : ws[q0]? = some (a, .inl (cA, n, .inr (.inl f)))) (ht : tys[t0]? = some (cA, .long)) {i : Int32} {x : Int64} (hout : ¬ vp_in i n) (hdg : decode cc pc = .ok (.lastore, 1))
    (k : ∀ tx : String, tx = (toString "Index " ++ toString i ++ toString " out of bounds for length " ++ toString n : String) → vx_Note p l e R s m args below meth c H locs cells slots Q (F0 m pc ls rest) "java/lang/ArrayIndexOutOfBoundsException" tx) : W p l e R s m args below meth c H locs cells slots Q (F0 m pc ls (.long x :: .int i :: .ref a :: rest)) := by
  intro T hT X
  obtain ⟨t, st, q⟩ := k _ rfl T hT X
  refine ⟨t, ?_, q⟩
  have h1 := X.lastoreOut hexec (by rw [hT]; exact hP q0 _ ha) ((hK.2 t0 _ ht).1 n (fun j => .long (f j))) (j := i) (by show (i < 0 ∨ (arrV _ _ _).slots.size ≤ _); rw [arrV_size]; exact Classical.byContradiction hout) (g := F0 m pc ls (.long x :: .int i :: .ref a :: rest)) rfl (rest := rest) rfl (by rw [hb]; exact hdg) t
  simp only [arrV_size] at h1
  exact h1 st
theorem vx_faldZ {D : va_G} {cl : List vw_C} {ws : va_W} {tys : List (ClassId × FieldType)} {a : Nat} (hexec : p.tables.exec = Jvm.exec) (hb : c.code = cc) (hK : va_K D cl tys s) (hP : va_P D cl ws H) (q0 t0 : Nat) {cA : ClassId} {n : Nat} {f : Nat → UInt32} (ha : ws[q0]? = some (a, .inl (cA, n, .inr (.inr (.inl f))))) (ht : tys[t0]? = some (cA, .float)) {i : Int32} (hout : ¬ vp_in i n) (hdg : decode cc pc = .ok (.faload, 1))
    (k : ∀ tx : String, tx = (toString "Index " ++ toString i ++ toString " out of bounds for length " ++ toString n : String) → vx_Note p l e R s m args below meth c H locs cells slots Q (F0 m pc ls rest) "java/lang/ArrayIndexOutOfBoundsException" tx) : W p l e R s m args below meth c H locs cells slots Q (F0 m pc ls (.int i :: .ref a :: rest)) := by
  intro T hT X
  obtain ⟨t, st, q⟩ := k _ rfl T hT X
  refine ⟨t, ?_, q⟩
  have h1 := X.faloadOut hexec (by rw [hT]; exact hP q0 _ ha) ((hK.2 t0 _ ht).1 n (fun j => .float (f j))) (j := i) (by show (i < 0 ∨ (arrV _ _ _).slots.size ≤ _); rw [arrV_size]; exact Classical.byContradiction hout) (g := F0 m pc ls (.int i :: .ref a :: rest)) rfl (rest := rest) rfl (by rw [hb]; exact hdg) t
  simp only [arrV_size] at h1
  exact h1 st
theorem vx_fastZ {D : va_G} {cl : List vw_C} {ws : va_W} {tys : List (ClassId × FieldType)} {a : Nat} (hexec : p.tables.exec = Jvm.exec) (hb : c.code = cc) (hK : va_K D cl tys s) (hP : va_P D cl ws H) (q0 t0 : Nat) {cA : ClassId} {n : Nat} {f : Nat → UInt32} (ha : ws[q0]? = some (a, .inl (cA, n, .inr (.inr (.inl f))))) (ht : tys[t0]? = some (cA, .float)) {i : Int32} {x : UInt32} (hout : ¬ vp_in i n) (hdg : decode cc pc = .ok (.fastore, 1))
    (k : ∀ tx : String, tx = (toString "Index " ++ toString i ++ toString " out of bounds for length " ++ toString n : String) → vx_Note p l e R s m args below meth c H locs cells slots Q (F0 m pc ls rest) "java/lang/ArrayIndexOutOfBoundsException" tx) : W p l e R s m args below meth c H locs cells slots Q (F0 m pc ls (.float x :: .int i :: .ref a :: rest)) := by
  intro T hT X
  obtain ⟨t, st, q⟩ := k _ rfl T hT X
  refine ⟨t, ?_, q⟩
  have h1 := X.fastoreOut hexec (by rw [hT]; exact hP q0 _ ha) ((hK.2 t0 _ ht).1 n (fun j => .float (f j))) (j := i) (by show (i < 0 ∨ (arrV _ _ _).slots.size ≤ _); rw [arrV_size]; exact Classical.byContradiction hout) (g := F0 m pc ls (.float x :: .int i :: .ref a :: rest)) rfl (rest := rest) rfl (by rw [hb]; exact hdg) t
  simp only [arrV_size] at h1
  exact h1 st
theorem vx_daldZ {D : va_G} {cl : List vw_C} {ws : va_W} {tys : List (ClassId × FieldType)} {a : Nat} (hexec : p.tables.exec = Jvm.exec) (hb : c.code = cc) (hK : va_K D cl tys s) (hP : va_P D cl ws H) (q0 t0 : Nat) {cA : ClassId} {n : Nat} {f : Nat → UInt64} (ha : ws[q0]? = some (a, .inl (cA, n, .inr (.inr (.inr (.inl f)))))) (ht : tys[t0]? = some (cA, .double)) {i : Int32} (hout : ¬ vp_in i n) (hdg : decode cc pc = .ok (.daload, 1))
    (k : ∀ tx : String, tx = (toString "Index " ++ toString i ++ toString " out of bounds for length " ++ toString n : String) → vx_Note p l e R s m args below meth c H locs cells slots Q (F0 m pc ls rest) "java/lang/ArrayIndexOutOfBoundsException" tx) : W p l e R s m args below meth c H locs cells slots Q (F0 m pc ls (.int i :: .ref a :: rest)) := by
  intro T hT X
  obtain ⟨t, st, q⟩ := k _ rfl T hT X
  refine ⟨t, ?_, q⟩
  have h1 := X.daloadOut hexec (by rw [hT]; exact hP q0 _ ha) ((hK.2 t0 _ ht).1 n (fun j => .double (f j))) (j := i) (by show (i < 0 ∨ (arrV _ _ _).slots.size ≤ _); rw [arrV_size]; exact Classical.byContradiction hout) (g := F0 m pc ls (.int i :: .ref a :: rest)) rfl (rest := rest) rfl (by rw [hb]; exact hdg) t
  simp only [arrV_size] at h1
  exact h1 st
theorem vx_dastZ {D : va_G} {cl : List vw_C} {ws : va_W} {tys : List (ClassId × FieldType)} {a : Nat} (hexec : p.tables.exec = Jvm.exec) (hb : c.code = cc) (hK : va_K D cl tys s) (hP : va_P D cl ws H) (q0 t0 : Nat) {cA : ClassId} {n : Nat} {f : Nat → UInt64} (ha : ws[q0]? = some (a, .inl (cA, n, .inr (.inr (.inr (.inl f)))))) (ht : tys[t0]? = some (cA, .double)) {i : Int32} {x : UInt64} (hout : ¬ vp_in i n) (hdg : decode cc pc = .ok (.dastore, 1))
    (k : ∀ tx : String, tx = (toString "Index " ++ toString i ++ toString " out of bounds for length " ++ toString n : String) → vx_Note p l e R s m args below meth c H locs cells slots Q (F0 m pc ls rest) "java/lang/ArrayIndexOutOfBoundsException" tx) : W p l e R s m args below meth c H locs cells slots Q (F0 m pc ls (.double x :: .int i :: .ref a :: rest)) := by
  intro T hT X
  obtain ⟨t, st, q⟩ := k _ rfl T hT X
  refine ⟨t, ?_, q⟩
  have h1 := X.dastoreOut hexec (by rw [hT]; exact hP q0 _ ha) ((hK.2 t0 _ ht).1 n (fun j => .double (f j))) (j := i) (by show (i < 0 ∨ (arrV _ _ _).slots.size ≤ _); rw [arrV_size]; exact Classical.byContradiction hout) (g := F0 m pc ls (.double x :: .int i :: .ref a :: rest)) rfl (rest := rest) rfl (by rw [hb]; exact hdg) t
  simp only [arrV_size] at h1
  exact h1 st
theorem vx_arraylengthN (hexec : p.tables.exec = Jvm.exec) (hb : c.code = cc) (hdg : decode cc pc = .ok (.arraylength, 1)) (k : vx_NoteN p l e R s m args below meth c H locs cells slots Q (F0 m pc ls rest)) : W p l e R s m args below meth c H locs cells slots Q (F0 m pc ls (.null :: rest)) := by
  intro T hT X
  obtain ⟨t, st, q⟩ := k T hT X
  exact ⟨t, X.arraylengthNull hexec (g := F0 m pc ls (.null :: rest)) rfl (rest := rest) rfl (by rw [hb]; exact hdg) t st, q⟩
theorem vx_ialoadN (hexec : p.tables.exec = Jvm.exec) (hb : c.code = cc) {i : Int32} (hdg : decode cc pc = .ok (.iaload, 1)) (k : vx_NoteN p l e R s m args below meth c H locs cells slots Q (F0 m pc ls rest)) : W p l e R s m args below meth c H locs cells slots Q (F0 m pc ls (.int i :: .null :: rest)) := by
  intro T hT X
  obtain ⟨t, st, q⟩ := k T hT X
  exact ⟨t, X.ialoadNull hexec (g := F0 m pc ls (.int i :: .null :: rest)) rfl (rest := rest) rfl (by rw [hb]; exact hdg) t st, q⟩
theorem vx_laloadN (hexec : p.tables.exec = Jvm.exec) (hb : c.code = cc) {i : Int32} (hdg : decode cc pc = .ok (.laload, 1)) (k : vx_NoteN p l e R s m args below meth c H locs cells slots Q (F0 m pc ls rest)) : W p l e R s m args below meth c H locs cells slots Q (F0 m pc ls (.int i :: .null :: rest)) := by
  intro T hT X
  obtain ⟨t, st, q⟩ := k T hT X
  exact ⟨t, X.laloadNull hexec (g := F0 m pc ls (.int i :: .null :: rest)) rfl (rest := rest) rfl (by rw [hb]; exact hdg) t st, q⟩
theorem vx_faloadN (hexec : p.tables.exec = Jvm.exec) (hb : c.code = cc) {i : Int32} (hdg : decode cc pc = .ok (.faload, 1)) (k : vx_NoteN p l e R s m args below meth c H locs cells slots Q (F0 m pc ls rest)) : W p l e R s m args below meth c H locs cells slots Q (F0 m pc ls (.int i :: .null :: rest)) := by
  intro T hT X
  obtain ⟨t, st, q⟩ := k T hT X
  exact ⟨t, X.faloadNull hexec (g := F0 m pc ls (.int i :: .null :: rest)) rfl (rest := rest) rfl (by rw [hb]; exact hdg) t st, q⟩
theorem vx_daloadN (hexec : p.tables.exec = Jvm.exec) (hb : c.code = cc) {i : Int32} (hdg : decode cc pc = .ok (.daload, 1)) (k : vx_NoteN p l e R s m args below meth c H locs cells slots Q (F0 m pc ls rest)) : W p l e R s m args below meth c H locs cells slots Q (F0 m pc ls (.int i :: .null :: rest)) := by
  intro T hT X
  obtain ⟨t, st, q⟩ := k T hT X
  exact ⟨t, X.daloadNull hexec (g := F0 m pc ls (.int i :: .null :: rest)) rfl (rest := rest) rfl (by rw [hb]; exact hdg) t st, q⟩
theorem vx_aaloadN (hexec : p.tables.exec = Jvm.exec) (hb : c.code = cc) {i : Int32} (hdg : decode cc pc = .ok (.aaload, 1)) (k : vx_NoteN p l e R s m args below meth c H locs cells slots Q (F0 m pc ls rest)) : W p l e R s m args below meth c H locs cells slots Q (F0 m pc ls (.int i :: .null :: rest)) := by
  intro T hT X
  obtain ⟨t, st, q⟩ := k T hT X
  exact ⟨t, X.aaloadNull hexec (g := F0 m pc ls (.int i :: .null :: rest)) rfl (rest := rest) rfl (by rw [hb]; exact hdg) t st, q⟩
theorem vx_baloadN (hexec : p.tables.exec = Jvm.exec) (hb : c.code = cc) {i : Int32} (hdg : decode cc pc = .ok (.baload, 1)) (k : vx_NoteN p l e R s m args below meth c H locs cells slots Q (F0 m pc ls rest)) : W p l e R s m args below meth c H locs cells slots Q (F0 m pc ls (.int i :: .null :: rest)) := by
  intro T hT X
  obtain ⟨t, st, q⟩ := k T hT X
  exact ⟨t, X.baloadNull hexec (g := F0 m pc ls (.int i :: .null :: rest)) rfl (rest := rest) rfl (by rw [hb]; exact hdg) t st, q⟩
theorem vx_caloadN (hexec : p.tables.exec = Jvm.exec) (hb : c.code = cc) {i : Int32} (hdg : decode cc pc = .ok (.caload, 1)) (k : vx_NoteN p l e R s m args below meth c H locs cells slots Q (F0 m pc ls rest)) : W p l e R s m args below meth c H locs cells slots Q (F0 m pc ls (.int i :: .null :: rest)) := by
  intro T hT X
  obtain ⟨t, st, q⟩ := k T hT X
  exact ⟨t, X.caloadNull hexec (g := F0 m pc ls (.int i :: .null :: rest)) rfl (rest := rest) rfl (by rw [hb]; exact hdg) t st, q⟩
theorem vx_saloadN (hexec : p.tables.exec = Jvm.exec) (hb : c.code = cc) {i : Int32} (hdg : decode cc pc = .ok (.saload, 1)) (k : vx_NoteN p l e R s m args below meth c H locs cells slots Q (F0 m pc ls rest)) : W p l e R s m args below meth c H locs cells slots Q (F0 m pc ls (.int i :: .null :: rest)) := by
  intro T hT X
  obtain ⟨t, st, q⟩ := k T hT X
  exact ⟨t, X.saloadNull hexec (g := F0 m pc ls (.int i :: .null :: rest)) rfl (rest := rest) rfl (by rw [hb]; exact hdg) t st, q⟩
theorem vx_iastoreN (hexec : p.tables.exec = Jvm.exec) (hb : c.code = cc) {x : Int32} {i : Int32} (hdg : decode cc pc = .ok (.iastore, 1)) (k : vx_NoteN p l e R s m args below meth c H locs cells slots Q (F0 m pc ls rest)) : W p l e R s m args below meth c H locs cells slots Q (F0 m pc ls (.int x :: .int i :: .null :: rest)) := by
  intro T hT X
  obtain ⟨t, st, q⟩ := k T hT X
  exact ⟨t, X.iastoreNull hexec (g := F0 m pc ls (.int x :: .int i :: .null :: rest)) rfl (rest := rest) rfl (by rw [hb]; exact hdg) t st, q⟩
theorem vx_lastoreN (hexec : p.tables.exec = Jvm.exec) (hb : c.code = cc) {x : Int64} {i : Int32} (hdg : decode cc pc = .ok (.lastore, 1)) (k : vx_NoteN p l e R s m args below meth c H locs cells slots Q (F0 m pc ls rest)) : W p l e R s m args below meth c H locs cells slots Q (F0 m pc ls (.long x :: .int i :: .null :: rest)) := by
  intro T hT X
  obtain ⟨t, st, q⟩ := k T hT X
  exact ⟨t, X.lastoreNull hexec (g := F0 m pc ls (.long x :: .int i :: .null :: rest)) rfl (rest := rest) rfl (by rw [hb]; exact hdg) t st, q⟩
theorem vx_fastoreN (hexec : p.tables.exec = Jvm.exec) (hb : c.code = cc) {x : UInt32} {i : Int32} (hdg : decode cc pc = .ok (.fastore, 1)) (k : vx_NoteN p l e R s m args below meth c H locs cells slots Q (F0 m pc ls rest)) : W p l e R s m args below meth c H locs cells slots Q (F0 m pc ls (.float x :: .int i :: .null :: rest)) := by
  intro T hT X
  obtain ⟨t, st, q⟩ := k T hT X
  exact ⟨t, X.fastoreNull hexec (g := F0 m pc ls (.float x :: .int i :: .null :: rest)) rfl (rest := rest) rfl (by rw [hb]; exact hdg) t st, q⟩
theorem vx_dastoreN (hexec : p.tables.exec = Jvm.exec) (hb : c.code = cc) {x : UInt64} {i : Int32} (hdg : decode cc pc = .ok (.dastore, 1)) (k : vx_NoteN p l e R s m args below meth c H locs cells slots Q (F0 m pc ls rest)) : W p l e R s m args below meth c H locs cells slots Q (F0 m pc ls (.double x :: .int i :: .null :: rest)) := by
  intro T hT X
  obtain ⟨t, st, q⟩ := k T hT X
  exact ⟨t, X.dastoreNull hexec (g := F0 m pc ls (.double x :: .int i :: .null :: rest)) rfl (rest := rest) rfl (by rw [hb]; exact hdg) t st, q⟩
theorem vx_bastoreN (hexec : p.tables.exec = Jvm.exec) (hb : c.code = cc) {x : Int32} {i : Int32} (hdg : decode cc pc = .ok (.bastore, 1)) (k : vx_NoteN p l e R s m args below meth c H locs cells slots Q (F0 m pc ls rest)) : W p l e R s m args below meth c H locs cells slots Q (F0 m pc ls (.int x :: .int i :: .null :: rest)) := by
  intro T hT X
  obtain ⟨t, st, q⟩ := k T hT X
  exact ⟨t, X.bastoreNull hexec (g := F0 m pc ls (.int x :: .int i :: .null :: rest)) rfl (rest := rest) rfl (by rw [hb]; exact hdg) t st, q⟩
theorem vx_castoreN (hexec : p.tables.exec = Jvm.exec) (hb : c.code = cc) {x : Int32} {i : Int32} (hdg : decode cc pc = .ok (.castore, 1)) (k : vx_NoteN p l e R s m args below meth c H locs cells slots Q (F0 m pc ls rest)) : W p l e R s m args below meth c H locs cells slots Q (F0 m pc ls (.int x :: .int i :: .null :: rest)) := by
  intro T hT X
  obtain ⟨t, st, q⟩ := k T hT X
  exact ⟨t, X.castoreNull hexec (g := F0 m pc ls (.int x :: .int i :: .null :: rest)) rfl (rest := rest) rfl (by rw [hb]; exact hdg) t st, q⟩
theorem vx_sastoreN (hexec : p.tables.exec = Jvm.exec) (hb : c.code = cc) {x : Int32} {i : Int32} (hdg : decode cc pc = .ok (.sastore, 1)) (k : vx_NoteN p l e R s m args below meth c H locs cells slots Q (F0 m pc ls rest)) : W p l e R s m args below meth c H locs cells slots Q (F0 m pc ls (.int x :: .int i :: .null :: rest)) := by
  intro T hT X
  obtain ⟨t, st, q⟩ := k T hT X
  exact ⟨t, X.sastoreNull hexec (g := F0 m pc ls (.int x :: .int i :: .null :: rest)) rfl (rest := rest) rfl (by rw [hb]; exact hdg) t st, q⟩
theorem vx_invokeN {own C : String} {index maxL : Nat} {y : MethodName} {bytes : ByteArray} {ret : Option FieldType} (hexec : p.tables.exec = Jvm.exec) (hb : c.code = cc) (hown : s.vm.findClass own = some m.cls) (hlink : (Cond.methodLink own index y).before args s = true) (hinst : (Cond.instanceMethod y).before args s = true) (hcode : (Cond.code y bytes maxL ret).before args s = true) (hsel : (Cond.selects C y y).before args s = true)
    (hx : y.cls ≠ "java/lang/invoke/MethodHandle" ∧ y.cls ≠ "java/lang/invoke/VarHandle") {As : List Value} (hlen : (parseMethodDescriptor y.desc).map (fun d => d.parameters.length) = some As.length) (hdg : decode cc pc = .ok (.invokevirtual index, 3))
    (k : vx_NoteN p l e R s m args below meth c H locs cells slots Q (F0 m pc ls rest)) {st0 : List Value} (hst : st0 = As.reverse ++ .null :: rest) : W p l e R s m args below meth c H locs cells slots Q (F0 m pc ls st0) := by
  intro T hT X
  obtain ⟨r0, r, hn, hrm, hstR, hsigR⟩ := va_Decl.of hinst hcode
  obtain ⟨c2, r2, m2, q1, q2, q3, q4, kP, hkP, hkPi⟩ := Cond.selects_spec hsel
  cases hn.symm.trans q3
  have hl9 : As.length = r.sig.parameters.length := by
    rw [hsigR] at hlen
    exact (Option.some.inj hlen).symm
  obtain ⟨vm', X1, st1⟩ := X.invokevirtualNull hexec hown hlink hn hrm hstR hkP hkPi hx (g := F0 m pc ls st0) rfl (argsL := As) (rest := rest) hl9 hst (by rw [hb]; exact hdg)
  obtain ⟨t, st, q⟩ := k (T.setVm vm') hT X1
  exact ⟨t, st1 t st, q⟩
theorem vx_newarrayZ {atype : ArrayType} (hexec : p.tables.exec = Jvm.exec) (hb : c.code = cc) {n : Int32} (h0 : n < 0) (hdg : decode cc pc = .ok (.newarray atype, 2)) (k : ∀ tx : String, tx = toString n → vx_Note p l e R s m args below meth c H locs cells slots Q (F0 m pc ls rest) "java/lang/NegativeArraySizeException" tx) : W p l e R s m args below meth c H locs cells slots Q (F0 m pc ls (.int n :: rest)) := by
  intro T hT X
  obtain ⟨t, st, q⟩ := k _ rfl T hT X
  exact ⟨t, X.newarrayNegative hexec (g := F0 m pc ls (.int n :: rest)) rfl h0 (rest := rest) rfl (by rw [hb]; exact hdg) t st, q⟩
end
end VXM
/-! ===== END ===== -/

/-! ===== BEGIN printed: names, fields, word lists, decode rows ===== -/
def RX0 : String := "TrollBridges$Changes"
def TX0 : u_T := fun k => match k with
  | 0 => ("TrollBridges$Changes", "world", "LTrollBridges$World;", true)
  | _ => ("TrollBridges$Changes", "verdict", "LTrollBridges$Verdict;", true)
def tyX0 : Nat → FieldType := fun k => match k with
  | 0 => .object "TrollBridges$World"
  | _ => .object "TrollBridges$Verdict"
abbrev wsX00 : List Cond := u_ws RX0 TX0 2
theorem nmX0 : ∀ a, a < 2 → ∀ b, b < 2 → a ≠ b → (TX0 a).2.1 ≠ (TX0 b).2.1 := by decide +kernel
theorem tyX0_ok : ∀ k, k < 2 → parseFieldDescriptor (TX0 k).2.2.1 = some (tyX0 k) := by decide +kernel
abbrev cX0_init : ByteArray := prog_2_method_1_code
def yX0_init : MethodName := ⟨RX0, "<init>", "(LTrollBridges$World;)V"⟩
abbrev cX0_addBridge : ByteArray := prog_2_method_2_code
def yX0_addBridge : MethodName := ⟨RX0, "addBridge", "(IIII)LTrollBridges$Verdict;"⟩
abbrev cX0_addTroll : ByteArray := prog_2_method_3_code
def yX0_addTroll : MethodName := ⟨RX0, "addTroll", "()LTrollBridges$Verdict;"⟩
abbrev cX0_addGoat : ByteArray := prog_2_method_4_code
def yX0_addGoat : MethodName := ⟨RX0, "addGoat", "(II)LTrollBridges$Verdict;"⟩
abbrev cX0_postTroll : ByteArray := prog_2_method_5_code
def yX0_postTroll : MethodName := ⟨RX0, "postTroll", "(II)LTrollBridges$Verdict;"⟩
abbrev cX0_leaveBridge : ByteArray := prog_2_method_6_code
def yX0_leaveBridge : MethodName := ⟨RX0, "leaveBridge", "(I)LTrollBridges$Verdict;"⟩
abbrev cX0_giveRiddle : ByteArray := prog_2_method_7_code
def yX0_giveRiddle : MethodName := ⟨RX0, "giveRiddle", "(III)LTrollBridges$Verdict;"⟩
abbrev cX0_layFog : ByteArray := prog_2_method_8_code
def yX0_layFog : MethodName := ⟨RX0, "layFog", "(II)LTrollBridges$Verdict;"⟩
abbrev cX0_changeToll : ByteArray := prog_2_method_9_code
def yX0_changeToll : MethodName := ⟨RX0, "changeToll", "(II)LTrollBridges$Verdict;"⟩
abbrev cX0_crossBridge : ByteArray := prog_2_method_10_code
def yX0_crossBridge : MethodName := ⟨RX0, "crossBridge", "(II)LTrollBridges$Verdict;"⟩
abbrev cX0_payToll : ByteArray := prog_2_method_11_code
def yX0_payToll : MethodName := ⟨RX0, "payToll", "(III)V"⟩
abbrev cX0_disputeToll : ByteArray := prog_2_method_12_code
def yX0_disputeToll : MethodName := ⟨RX0, "disputeToll", "(II)LTrollBridges$Verdict;"⟩
abbrev cX0_settleDispute : ByteArray := prog_2_method_13_code
def yX0_settleDispute : MethodName := ⟨RX0, "settleDispute", "(IZ)LTrollBridges$Verdict;"⟩
abbrev cX0_emptyChest : ByteArray := prog_2_method_14_code
def yX0_emptyChest : MethodName := ⟨RX0, "emptyChest", "(IZ)V"⟩
abbrev cX0_changeStrike : ByteArray := prog_2_method_15_code
def yX0_changeStrike : MethodName := ⟨RX0, "changeStrike", "(IZ)LTrollBridges$Verdict;"⟩
abbrev cX0_passHours : ByteArray := prog_2_method_16_code
def yX0_passHours : MethodName := ⟨RX0, "passHours", "(I)LTrollBridges$Verdict;"⟩
abbrev cX0_carryOut : ByteArray := prog_2_method_17_code
def yX0_carryOut : MethodName := ⟨RX0, "carryOut", "(LTrollBridges$Commands;I)LTrollBridges$Verdict;"⟩
abbrev cX0_addToBridge : ByteArray := prog_2_method_18_code
def yX0_addToBridge : MethodName := ⟨RX0, "addToBridge", "(III)V"⟩
abbrev cX0_addToTroll : ByteArray := prog_2_method_19_code
def yX0_addToTroll : MethodName := ⟨RX0, "addToTroll", "(III)V"⟩
abbrev cX0_addToGoat : ByteArray := prog_2_method_20_code
def yX0_addToGoat : MethodName := ⟨RX0, "addToGoat", "(III)V"⟩
def RX1 : String := "TrollBridges$Commands"
def TX1 : u_T := fun k => match k with
  | 0 => ("TrollBridges$Commands", "text", "LTrollBridges$Line;", true)
  | 1 => ("TrollBridges$Commands", "kinds", "LTrollBridges$Row;", true)
  | 2 => ("TrollBridges$Commands", "numbers", "LTrollBridges$Row;", true)
  | 3 => ("TrollBridges$Commands", "count", "I", false)
  | 4 => ("TrollBridges$Commands", "at", "I", false)
  | _ => ("TrollBridges$Commands", "errorAt", "I", false)
def tyX1 : Nat → FieldType := fun k => match k with
  | 0 => .object "TrollBridges$Line"
  | 1 => .object "TrollBridges$Row"
  | 2 => .object "TrollBridges$Row"
  | 3 => .int
  | 4 => .int
  | _ => .int
abbrev wsX10 : List Cond := u_ws RX1 TX1 6
theorem nmX1 : ∀ a, a < 6 → ∀ b, b < 6 → a ≠ b → (TX1 a).2.1 ≠ (TX1 b).2.1 := by decide +kernel
theorem tyX1_ok : ∀ k, k < 6 → parseFieldDescriptor (TX1 k).2.2.1 = some (tyX1 k) := by decide +kernel
abbrev cX1_init : ByteArray := prog_3_method_1_code
def yX1_init : MethodName := ⟨RX1, "<init>", "(LTrollBridges$Line;)V"⟩
abbrev cX1_count : ByteArray := prog_3_method_2_code
def yX1_count : MethodName := ⟨RX1, "count", "()I"⟩
abbrev cX1_errorAt : ByteArray := prog_3_method_3_code
def yX1_errorAt : MethodName := ⟨RX1, "errorAt", "()I"⟩
abbrev cX1_kindOf : ByteArray := prog_3_method_4_code
def yX1_kindOf : MethodName := ⟨RX1, "kindOf", "(I)I"⟩
abbrev cX1_number : ByteArray := prog_3_method_5_code
def yX1_number : MethodName := ⟨RX1, "number", "(II)I"⟩
abbrev cX1_parse : ByteArray := prog_3_method_6_code
def yX1_parse : MethodName := ⟨RX1, "parse", "()Z"⟩
abbrev cX1_parseCommand : ByteArray := prog_3_method_7_code
def yX1_parseCommand : MethodName := ⟨RX1, "parseCommand", "()Z"⟩
abbrev cX1_matches : ByteArray := prog_3_method_8_code
def yX1_matches : MethodName := ⟨RX1, "matches", "(Ljava/lang/String;)Z"⟩
abbrev cX1_valueAt : ByteArray := prog_3_method_9_code
def yX1_valueAt : MethodName := ⟨RX1, "valueAt", "(II)I"⟩
abbrev cX1_fits : ByteArray := prog_3_method_10_code
def yX1_fits : MethodName := ⟨RX1, "fits", "(CC)Z"⟩
abbrev cX1_isDigit : ByteArray := prog_3_method_11_code
def yX1_isDigit : MethodName := ⟨RX1, "isDigit", "(C)Z"⟩
abbrev cX1_formOf : ByteArray := prog_3_method_12_code
def yX1_formOf : MethodName := ⟨RX1, "formOf", "(I)Ljava/lang/String;"⟩
def RX2 : String := "TrollBridges$History"
def TX2 : u_T := fun k => match k with
  | 0 => ("TrollBridges$History", "worlds", "LTrollBridges$Row;", true)
  | 1 => ("TrollBridges$History", "prepared", "I", false)
  | _ => ("TrollBridges$History", "count", "I", false)
def tyX2 : Nat → FieldType := fun k => match k with
  | 0 => .object "TrollBridges$Row"
  | 1 => .int
  | _ => .int
abbrev wsX20 : List Cond := u_ws RX2 TX2 3
theorem nmX2 : ∀ a, a < 3 → ∀ b, b < 3 → a ≠ b → (TX2 a).2.1 ≠ (TX2 b).2.1 := by decide +kernel
theorem tyX2_ok : ∀ k, k < 3 → parseFieldDescriptor (TX2 k).2.2.1 = some (tyX2 k) := by decide +kernel
abbrev cX2_init : ByteArray := prog_4_method_1_code
def yX2_init : MethodName := ⟨RX2, "<init>", "()V"⟩
abbrev cX2_count : ByteArray := prog_4_method_2_code
def yX2_count : MethodName := ⟨RX2, "count", "()I"⟩
abbrev cX2_prepare : ByteArray := prog_4_method_3_code
def yX2_prepare : MethodName := ⟨RX2, "prepare", "(LTrollBridges$World;)V"⟩
abbrev cX2_takeBack : ByteArray := prog_4_method_4_code
def yX2_takeBack : MethodName := ⟨RX2, "takeBack", "(LTrollBridges$World;)V"⟩
abbrev cX2_keepPrepared : ByteArray := prog_4_method_5_code
def yX2_keepPrepared : MethodName := ⟨RX2, "keepPrepared", "()V"⟩
abbrev cX2_stepBack : ByteArray := prog_4_method_6_code
def yX2_stepBack : MethodName := ⟨RX2, "stepBack", "(LTrollBridges$World;)V"⟩
abbrev cX2_forget : ByteArray := prog_4_method_7_code
def yX2_forget : MethodName := ⟨RX2, "forget", "()V"⟩
def RX3 : String := "TrollBridges$Line"
def TX3 : u_T := fun k => match k with
  | 0 => ("TrollBridges$Line", "signs", "LTrollBridges$Row;", true)
  | 1 => ("TrollBridges$Line", "most", "I", true)
  | _ => ("TrollBridges$Line", "length", "I", false)
def tyX3 : Nat → FieldType := fun k => match k with
  | 0 => .object "TrollBridges$Row"
  | 1 => .int
  | _ => .int
abbrev wsX30 : List Cond := u_ws RX3 TX3 3
theorem nmX3 : ∀ a, a < 3 → ∀ b, b < 3 → a ≠ b → (TX3 a).2.1 ≠ (TX3 b).2.1 := by decide +kernel
theorem tyX3_ok : ∀ k, k < 3 → parseFieldDescriptor (TX3 k).2.2.1 = some (tyX3 k) := by decide +kernel
abbrev cX3_init : ByteArray := prog_5_method_1_code
def yX3_init : MethodName := ⟨RX3, "<init>", "(I)V"⟩
abbrev cX3_length : ByteArray := prog_5_method_2_code
def yX3_length : MethodName := ⟨RX3, "length", "()I"⟩
abbrev cX3_clear : ByteArray := prog_5_method_3_code
def yX3_clear : MethodName := ⟨RX3, "clear", "()V"⟩
abbrev cX3_append : ByteArray := prog_5_method_4_code
def yX3_append : MethodName := ⟨RX3, "append", "(C)Z"⟩
abbrev cX3_appendDigit : ByteArray := prog_5_method_5_code
def yX3_appendDigit : MethodName := ⟨RX3, "appendDigit", "(I)V"⟩
abbrev cX3_signAt : ByteArray := prog_5_method_6_code
def yX3_signAt : MethodName := ⟨RX3, "signAt", "(I)C"⟩
def RX4 : String := "TrollBridges$Refusal"
def TX4 : u_T := fun k => match k with
  | 0 => ("TrollBridges$Refusal", "reason", "I", false)
  | 1 => ("TrollBridges$Refusal", "detail", "I", false)
  | 2 => ("TrollBridges$Refusal", "cause", "I", false)
  | _ => ("TrollBridges$Refusal", "causeDetail", "I", false)
def tyX4 : Nat → FieldType := fun k => match k with
  | 0 => .int
  | 1 => .int
  | 2 => .int
  | _ => .int
abbrev wsX40 : List Cond := u_ws RX4 TX4 4
theorem nmX4 : ∀ a, a < 4 → ∀ b, b < 4 → a ≠ b → (TX4 a).2.1 ≠ (TX4 b).2.1 := by decide +kernel
theorem tyX4_ok : ∀ k, k < 4 → parseFieldDescriptor (TX4 k).2.2.1 = some (tyX4 k) := by decide +kernel
abbrev cX4_init : ByteArray := prog_6_method_1_code
def yX4_init : MethodName := ⟨RX4, "<init>", "()V"⟩
abbrev cX4_keep : ByteArray := prog_6_method_2_code
def yX4_keep : MethodName := ⟨RX4, "keep", "(LTrollBridges$Verdict;)V"⟩
abbrev cX4_keepCaused : ByteArray := prog_6_method_3_code
def yX4_keepCaused : MethodName := ⟨RX4, "keepCaused", "(ILTrollBridges$Verdict;)V"⟩
abbrev cX4_isThere : ByteArray := prog_6_method_4_code
def yX4_isThere : MethodName := ⟨RX4, "isThere", "()Z"⟩
abbrev cX4_hasCause : ByteArray := prog_6_method_5_code
def yX4_hasCause : MethodName := ⟨RX4, "hasCause", "()Z"⟩
abbrev cX4_reason : ByteArray := prog_6_method_6_code
def yX4_reason : MethodName := ⟨RX4, "reason", "()I"⟩
abbrev cX4_detail : ByteArray := prog_6_method_7_code
def yX4_detail : MethodName := ⟨RX4, "detail", "()I"⟩
abbrev cX4_cause : ByteArray := prog_6_method_8_code
def yX4_cause : MethodName := ⟨RX4, "cause", "()I"⟩
abbrev cX4_causeDetail : ByteArray := prog_6_method_9_code
def yX4_causeDetail : MethodName := ⟨RX4, "causeDetail", "()I"⟩
def RX5 : String := "TrollBridges$Row"
def TX5 : u_T := fun k => match k with
  | _ => ("TrollBridges$Row", "numbers", "[I", true)
def tyX5 : Nat → FieldType := fun k => match k with
  | _ => .array .int
abbrev wsX50 : List Cond := u_ws RX5 TX5 1
theorem nmX5 : ∀ a, a < 1 → ∀ b, b < 1 → a ≠ b → (TX5 a).2.1 ≠ (TX5 b).2.1 := by decide +kernel
theorem tyX5_ok : ∀ k, k < 1 → parseFieldDescriptor (TX5 k).2.2.1 = some (tyX5 k) := by decide +kernel
abbrev cX5_init : ByteArray := prog_7_method_1_code
def yX5_init : MethodName := ⟨RX5, "<init>", "(I)V"⟩
abbrev cX5_at : ByteArray := prog_7_method_2_code
def yX5_at : MethodName := ⟨RX5, "at", "(I)I"⟩
abbrev cX5_put : ByteArray := prog_7_method_3_code
def yX5_put : MethodName := ⟨RX5, "put", "(II)V"⟩
abbrev cX5_fill : ByteArray := prog_7_method_4_code
def yX5_fill : MethodName := ⟨RX5, "fill", "(I)V"⟩
abbrev cX5_copy : ByteArray := prog_7_method_5_code
def yX5_copy : MethodName := ⟨RX5, "copy", "(LTrollBridges$Row;III)V"⟩
def RX6 : String := "TrollBridges$Verdict"
def TX6 : u_T := fun k => match k with
  | 0 => ("TrollBridges$Verdict", "kind", "I", false)
  | 1 => ("TrollBridges$Verdict", "number", "I", false)
  | 2 => ("TrollBridges$Verdict", "reason", "I", false)
  | _ => ("TrollBridges$Verdict", "detail", "I", false)
def tyX6 : Nat → FieldType := fun k => match k with
  | 0 => .int
  | 1 => .int
  | 2 => .int
  | _ => .int
abbrev wsX60 : List Cond := u_ws RX6 TX6 4
theorem nmX6 : ∀ a, a < 4 → ∀ b, b < 4 → a ≠ b → (TX6 a).2.1 ≠ (TX6 b).2.1 := by decide +kernel
theorem tyX6_ok : ∀ k, k < 4 → parseFieldDescriptor (TX6 k).2.2.1 = some (tyX6 k) := by decide +kernel
abbrev cX6_init : ByteArray := prog_8_method_1_code
def yX6_init : MethodName := ⟨RX6, "<init>", "()V"⟩
abbrev cX6_done : ByteArray := prog_8_method_2_code
def yX6_done : MethodName := ⟨RX6, "done", "(I)LTrollBridges$Verdict;"⟩
abbrev cX6_noSuch : ByteArray := prog_8_method_3_code
def yX6_noSuch : MethodName := ⟨RX6, "noSuch", "()LTrollBridges$Verdict;"⟩
abbrev cX6_outOfRange : ByteArray := prog_8_method_4_code
def yX6_outOfRange : MethodName := ⟨RX6, "outOfRange", "()LTrollBridges$Verdict;"⟩
abbrev cX6_refused : ByteArray := prog_8_method_5_code
def yX6_refused : MethodName := ⟨RX6, "refused", "(II)LTrollBridges$Verdict;"⟩
def RX7 : String := "TrollBridges$Ways"
def TX7 : u_T := fun k => match k with
  | 0 => ("TrollBridges$Ways", "world", "LTrollBridges$World;", true)
  | 1 => ("TrollBridges$Ways", "lengths", "LTrollBridges$Row;", true)
  | 2 => ("TrollBridges$Ways", "reached", "LTrollBridges$Row;", true)
  | 3 => ("TrollBridges$Ways", "reachedAgain", "LTrollBridges$Row;", true)
  | 4 => ("TrollBridges$Ways", "areLeft", "LTrollBridges$Row;", true)
  | _ => ("TrollBridges$Ways", "hangers", "LTrollBridges$Row;", true)
def tyX7 : Nat → FieldType := fun k => match k with
  | 0 => .object "TrollBridges$World"
  | 1 => .object "TrollBridges$Row"
  | 2 => .object "TrollBridges$Row"
  | 3 => .object "TrollBridges$Row"
  | 4 => .object "TrollBridges$Row"
  | _ => .object "TrollBridges$Row"
abbrev wsX70 : List Cond := u_ws RX7 TX7 6
theorem nmX7 : ∀ a, a < 6 → ∀ b, b < 6 → a ≠ b → (TX7 a).2.1 ≠ (TX7 b).2.1 := by decide +kernel
theorem tyX7_ok : ∀ k, k < 6 → parseFieldDescriptor (TX7 k).2.2.1 = some (tyX7 k) := by decide +kernel
abbrev cX7_init : ByteArray := prog_9_method_1_code
def yX7_init : MethodName := ⟨RX7, "<init>", "(LTrollBridges$World;)V"⟩
abbrev cX7_measure : ByteArray := prog_9_method_2_code
def yX7_measure : MethodName := ⟨RX7, "measure", "(Z)V"⟩
abbrev cX7_landByLand : ByteArray := prog_9_method_3_code
def yX7_landByLand : MethodName := ⟨RX7, "landByLand", "(II)I"⟩
abbrev cX7_bridgeByBridge : ByteArray := prog_9_method_4_code
def yX7_bridgeByBridge : MethodName := ⟨RX7, "bridgeByBridge", "(II)I"⟩
abbrev cX7_areAlike : ByteArray := prog_9_method_5_code
def yX7_areAlike : MethodName := ⟨RX7, "areAlike", "(Z)Z"⟩
abbrev cX7_reachByLands : ByteArray := prog_9_method_6_code
def yX7_reachByLands : MethodName := ⟨RX7, "reachByLands", "(I)V"⟩
abbrev cX7_nearestToLeave : ByteArray := prog_9_method_7_code
def yX7_nearestToLeave : MethodName := ⟨RX7, "nearestToLeave", "()I"⟩
abbrev cX7_reachByBridges : ByteArray := prog_9_method_8_code
def yX7_reachByBridges : MethodName := ⟨RX7, "reachByBridges", "(I)V"⟩
abbrev cX7_shorten : ByteArray := prog_9_method_9_code
def yX7_shorten : MethodName := ⟨RX7, "shorten", "(LTrollBridges$Row;III)Z"⟩
abbrev cX7_hanger : ByteArray := prog_9_method_10_code
def yX7_hanger : MethodName := ⟨RX7, "hanger", "(I)I"⟩
abbrev cX7_leadsFastest : ByteArray := prog_9_method_11_code
def yX7_leadsFastest : MethodName := ⟨RX7, "leadsFastest", "(II)Z"⟩
abbrev cX7_hangAll : ByteArray := prog_9_method_12_code
def yX7_hangAll : MethodName := ⟨RX7, "hangAll", "(I)V"⟩
abbrev cX7_hangerKept : ByteArray := prog_9_method_13_code
def yX7_hangerKept : MethodName := ⟨RX7, "hangerKept", "(I)I"⟩
def RX8 : String := "TrollBridges$World"
def TX8 : u_T := fun k => match k with
  | _ => ("TrollBridges$World", "cells", "LTrollBridges$Row;", true)
def tyX8 : Nat → FieldType := fun k => match k with
  | _ => .object "TrollBridges$Row"
abbrev wsX80 : List Cond := u_ws RX8 TX8 1
theorem nmX8 : ∀ a, a < 1 → ∀ b, b < 1 → a ≠ b → (TX8 a).2.1 ≠ (TX8 b).2.1 := by decide +kernel
theorem tyX8_ok : ∀ k, k < 1 → parseFieldDescriptor (TX8 k).2.2.1 = some (tyX8 k) := by decide +kernel
abbrev cX8_init : ByteArray := prog_10_method_1_code
def yX8_init : MethodName := ⟨RX8, "<init>", "()V"⟩
abbrev cX8_storeIn : ByteArray := prog_10_method_2_code
def yX8_storeIn : MethodName := ⟨RX8, "storeIn", "(LTrollBridges$Row;I)V"⟩
abbrev cX8_loadFrom : ByteArray := prog_10_method_3_code
def yX8_loadFrom : MethodName := ⟨RX8, "loadFrom", "(LTrollBridges$Row;I)V"⟩
abbrev cX8_of : ByteArray := prog_10_method_4_code
def yX8_of : MethodName := ⟨RX8, "of", "(I)I"⟩
abbrev cX8_set : ByteArray := prog_10_method_5_code
def yX8_set : MethodName := ⟨RX8, "set", "(II)V"⟩
abbrev cX8_ofBridge : ByteArray := prog_10_method_6_code
def yX8_ofBridge : MethodName := ⟨RX8, "ofBridge", "(II)I"⟩
abbrev cX8_setBridge : ByteArray := prog_10_method_7_code
def yX8_setBridge : MethodName := ⟨RX8, "setBridge", "(III)V"⟩
abbrev cX8_ofTroll : ByteArray := prog_10_method_8_code
def yX8_ofTroll : MethodName := ⟨RX8, "ofTroll", "(II)I"⟩
abbrev cX8_setTroll : ByteArray := prog_10_method_9_code
def yX8_setTroll : MethodName := ⟨RX8, "setTroll", "(III)V"⟩
abbrev cX8_ofGoat : ByteArray := prog_10_method_10_code
def yX8_ofGoat : MethodName := ⟨RX8, "ofGoat", "(II)I"⟩
abbrev cX8_setGoat : ByteArray := prog_10_method_11_code
def yX8_setGoat : MethodName := ⟨RX8, "setGoat", "(III)V"⟩
abbrev cX8_isBridge : ByteArray := prog_10_method_12_code
def yX8_isBridge : MethodName := ⟨RX8, "isBridge", "(I)Z"⟩
abbrev cX8_isTroll : ByteArray := prog_10_method_13_code
def yX8_isTroll : MethodName := ⟨RX8, "isTroll", "(I)Z"⟩
abbrev cX8_isGoat : ByteArray := prog_10_method_14_code
def yX8_isGoat : MethodName := ⟨RX8, "isGoat", "(I)Z"⟩
abbrev cX8_isCounted : ByteArray := prog_10_method_15_code
def yX8_isCounted : MethodName := ⟨RX8, "isCounted", "(I)Z"⟩
abbrev cX8_isDisputed : ByteArray := prog_10_method_16_code
def yX8_isDisputed : MethodName := ⟨RX8, "isDisputed", "(I)Z"⟩
abbrev cX8_isInFog : ByteArray := prog_10_method_17_code
def yX8_isInFog : MethodName := ⟨RX8, "isInFog", "(I)Z"⟩
abbrev cX8_riddleHours : ByteArray := prog_10_method_18_code
def yX8_riddleHours : MethodName := ⟨RX8, "riddleHours", "(I)I"⟩
abbrev cX8_difficultyNow : ByteArray := prog_10_method_19_code
def yX8_difficultyNow : MethodName := ⟨RX8, "difficultyNow", "(I)I"⟩
abbrev cX8_isGeneralStrike : ByteArray := prog_10_method_20_code
def yX8_isGeneralStrike : MethodName := ⟨RX8, "isGeneralStrike", "()Z"⟩
abbrev cX8_tollDue : ByteArray := prog_10_method_21_code
def yX8_tollDue : MethodName := ⟨RX8, "tollDue", "(I)I"⟩
abbrev cX8_hoursOver : ByteArray := prog_10_method_22_code
def yX8_hoursOver : MethodName := ⟨RX8, "hoursOver", "(I)I"⟩
abbrev cX8_across : ByteArray := prog_10_method_23_code
def yX8_across : MethodName := ⟨RX8, "across", "(II)I"⟩
abbrev cX8_coinsInChest : ByteArray := prog_10_method_24_code
def yX8_coinsInChest : MethodName := ⟨RX8, "coinsInChest", "(I)I"⟩
abbrev cX8_coinsInChestsOf : ByteArray := prog_10_method_25_code
def yX8_coinsInChestsOf : MethodName := ⟨RX8, "coinsInChestsOf", "(I)I"⟩
abbrev cX8_coinsInChests : ByteArray := prog_10_method_26_code
def yX8_coinsInChests : MethodName := ⟨RX8, "coinsInChests", "()I"⟩
abbrev cX8_sumOfTrolls : ByteArray := prog_10_method_27_code
def yX8_sumOfTrolls : MethodName := ⟨RX8, "sumOfTrolls", "(I)I"⟩
abbrev cX8_sumOfGoats : ByteArray := prog_10_method_28_code
def yX8_sumOfGoats : MethodName := ⟨RX8, "sumOfGoats", "(I)I"⟩
abbrev cX8_sumOfTolls : ByteArray := prog_10_method_29_code
def yX8_sumOfTolls : MethodName := ⟨RX8, "sumOfTolls", "(Z)I"⟩
abbrev cX8_countTrollsPosted : ByteArray := prog_10_method_30_code
def yX8_countTrollsPosted : MethodName := ⟨RX8, "countTrollsPosted", "()I"⟩
abbrev cX8_countBridgesCounted : ByteArray := prog_10_method_31_code
def yX8_countBridgesCounted : MethodName := ⟨RX8, "countBridgesCounted", "()I"⟩
abbrev cX8_countDisputes : ByteArray := prog_10_method_32_code
def yX8_countDisputes : MethodName := ⟨RX8, "countDisputes", "()I"⟩
abbrev cX8_countFogs : ByteArray := prog_10_method_33_code
def yX8_countFogs : MethodName := ⟨RX8, "countFogs", "()I"⟩
abbrev cX8_countRiddles : ByteArray := prog_10_method_34_code
def yX8_countRiddles : MethodName := ⟨RX8, "countRiddles", "(I)I"⟩
abbrev cX8_nextEnd : ByteArray := prog_10_method_35_code
def yX8_nextEnd : MethodName := ⟨RX8, "nextEnd", "()I"⟩
abbrev cX8_earlierEnd : ByteArray := prog_10_method_36_code
def yX8_earlierEnd : MethodName := ⟨RX8, "earlierEnd", "(II)I"⟩
abbrev cX8_placeOfTroll : ByteArray := prog_10_method_37_code
def yX8_placeOfTroll : MethodName := ⟨RX8, "placeOfTroll", "(I)I"⟩
abbrev cX8_isRicher : ByteArray := prog_10_method_38_code
def yX8_isRicher : MethodName := ⟨RX8, "isRicher", "(II)Z"⟩
abbrev cX8_crossedAt : ByteArray := prog_10_method_39_code
def yX8_crossedAt : MethodName := ⟨RX8, "crossedAt", "(I)I"⟩
abbrev cX8_placeOfGoat : ByteArray := prog_10_method_40_code
def yX8_placeOfGoat : MethodName := ⟨RX8, "placeOfGoat", "(I)I"⟩
abbrev cX8_isMoreTired : ByteArray := prog_10_method_41_code
def yX8_isMoreTired : MethodName := ⟨RX8, "isMoreTired", "(II)Z"⟩
def RX9 : String := "TrollBridges"
def TX9 : u_T := fun k => match k with
  | 0 => ("TrollBridges", "world", "LTrollBridges$World;", true)
  | 1 => ("TrollBridges", "changes", "LTrollBridges$Changes;", true)
  | 2 => ("TrollBridges", "ways", "LTrollBridges$Ways;", true)
  | 3 => ("TrollBridges", "history", "LTrollBridges$History;", true)
  | 4 => ("TrollBridges", "snapshot", "LTrollBridges$Row;", true)
  | 5 => ("TrollBridges", "hasSnapshot", "Z", false)
  | 6 => ("TrollBridges", "typed", "LTrollBridges$Line;", true)
  | 7 => ("TrollBridges", "commands", "LTrollBridges$Commands;", true)
  | 8 => ("TrollBridges", "line", "LTrollBridges$Line;", true)
  | 9 => ("TrollBridges", "latest", "LTrollBridges$Refusal;", true)
  | _ => ("TrollBridges", "malformedAt", "I", false)
def tyX9 : Nat → FieldType := fun k => match k with
  | 0 => .object "TrollBridges$World"
  | 1 => .object "TrollBridges$Changes"
  | 2 => .object "TrollBridges$Ways"
  | 3 => .object "TrollBridges$History"
  | 4 => .object "TrollBridges$Row"
  | 5 => .boolean
  | 6 => .object "TrollBridges$Line"
  | 7 => .object "TrollBridges$Commands"
  | 8 => .object "TrollBridges$Line"
  | 9 => .object "TrollBridges$Refusal"
  | _ => .int
abbrev wsX90 : List Cond := u_ws RX9 TX9 11
theorem nmX9 : ∀ a, a < 11 → ∀ b, b < 11 → a ≠ b → (TX9 a).2.1 ≠ (TX9 b).2.1 := by decide +kernel
theorem tyX9_ok : ∀ k, k < 11 → parseFieldDescriptor (TX9 k).2.2.1 = some (tyX9 k) := by decide +kernel
abbrev cX9_init : ByteArray := prog_1_method_1_code
def yX9_init : MethodName := ⟨RX9, "<init>", "()V"⟩
abbrev cX9_bridge : ByteArray := prog_1_method_2_code
def yX9_bridge : MethodName := ⟨RX9, "bridge", "(IIII)I"⟩
abbrev cX9_troll : ByteArray := prog_1_method_3_code
def yX9_troll : MethodName := ⟨RX9, "troll", "()I"⟩
abbrev cX9_goat : ByteArray := prog_1_method_4_code
def yX9_goat : MethodName := ⟨RX9, "goat", "(II)I"⟩
abbrev cX9_post : ByteArray := prog_1_method_5_code
def yX9_post : MethodName := ⟨RX9, "post", "(II)I"⟩
abbrev cX9_leave : ByteArray := prog_1_method_6_code
def yX9_leave : MethodName := ⟨RX9, "leave", "(I)I"⟩
abbrev cX9_riddle : ByteArray := prog_1_method_7_code
def yX9_riddle : MethodName := ⟨RX9, "riddle", "(III)I"⟩
abbrev cX9_fog : ByteArray := prog_1_method_8_code
def yX9_fog : MethodName := ⟨RX9, "fog", "(II)I"⟩
abbrev cX9_price : ByteArray := prog_1_method_9_code
def yX9_price : MethodName := ⟨RX9, "price", "(II)I"⟩
abbrev cX9_cross : ByteArray := prog_1_method_10_code
def yX9_cross : MethodName := ⟨RX9, "cross", "(II)I"⟩
abbrev cX9_dispute : ByteArray := prog_1_method_11_code
def yX9_dispute : MethodName := ⟨RX9, "dispute", "(II)I"⟩
abbrev cX9_settle : ByteArray := prog_1_method_12_code
def yX9_settle : MethodName := ⟨RX9, "settle", "(IZ)I"⟩
abbrev cX9_strike : ByteArray := prog_1_method_13_code
def yX9_strike : MethodName := ⟨RX9, "strike", "(IZ)I"⟩
abbrev cX9_pass : ByteArray := prog_1_method_14_code
def yX9_pass : MethodName := ⟨RX9, "pass", "(I)I"⟩
abbrev cX9_bridgeOf : ByteArray := prog_1_method_15_code
def yX9_bridgeOf : MethodName := ⟨RX9, "bridgeOf", "(II)I"⟩
abbrev cX9_trollOf : ByteArray := prog_1_method_16_code
def yX9_trollOf : MethodName := ⟨RX9, "trollOf", "(II)I"⟩
abbrev cX9_goatOf : ByteArray := prog_1_method_17_code
def yX9_goatOf : MethodName := ⟨RX9, "goatOf", "(II)I"⟩
abbrev cX9_due : ByteArray := prog_1_method_18_code
def yX9_due : MethodName := ⟨RX9, "due", "(I)I"⟩
abbrev cX9_takes : ByteArray := prog_1_method_19_code
def yX9_takes : MethodName := ⟨RX9, "takes", "(I)I"⟩
abbrev cX9_cheapest : ByteArray := prog_1_method_20_code
def yX9_cheapest : MethodName := ⟨RX9, "cheapest", "(II)I"⟩
abbrev cX9_cheapestAgain : ByteArray := prog_1_method_21_code
def yX9_cheapestAgain : MethodName := ⟨RX9, "cheapestAgain", "(II)I"⟩
abbrev cX9_fastest : ByteArray := prog_1_method_22_code
def yX9_fastest : MethodName := ⟨RX9, "fastest", "(II)I"⟩
abbrev cX9_fastestAgain : ByteArray := prog_1_method_23_code
def yX9_fastestAgain : MethodName := ⟨RX9, "fastestAgain", "(II)I"⟩
abbrev cX9_hangs : ByteArray := prog_1_method_24_code
def yX9_hangs : MethodName := ⟨RX9, "hangs", "(II)I"⟩
abbrev cX9_sum : ByteArray := prog_1_method_25_code
def yX9_sum : MethodName := ⟨RX9, "sum", "(Z)I"⟩
abbrev cX9_counted : ByteArray := prog_1_method_26_code
def yX9_counted : MethodName := ⟨RX9, "counted", "()I"⟩
abbrev cX9_countedAgain : ByteArray := prog_1_method_27_code
def yX9_countedAgain : MethodName := ⟨RX9, "countedAgain", "()I"⟩
abbrev cX9_isGeneral : ByteArray := prog_1_method_28_code
def yX9_isGeneral : MethodName := ⟨RX9, "isGeneral", "()Z"⟩
abbrev cX9_richest : ByteArray := prog_1_method_29_code
def yX9_richest : MethodName := ⟨RX9, "richest", "(I)I"⟩
abbrev cX9_tired : ByteArray := prog_1_method_30_code
def yX9_tired : MethodName := ⟨RX9, "tired", "(I)I"⟩
abbrev cX9_next : ByteArray := prog_1_method_31_code
def yX9_next : MethodName := ⟨RX9, "next", "()I"⟩
abbrev cX9_isWell : ByteArray := prog_1_method_32_code
def yX9_isWell : MethodName := ⟨RX9, "isWell", "()Z"⟩
abbrev cX9_type : ByteArray := prog_1_method_33_code
def yX9_type : MethodName := ⟨RX9, "type", "(C)I"⟩
abbrev cX9_read : ByteArray := prog_1_method_34_code
def yX9_read : MethodName := ⟨RX9, "read", "()I"⟩
abbrev cX9_errorPosition : ByteArray := prog_1_method_35_code
def yX9_errorPosition : MethodName := ⟨RX9, "errorPosition", "()I"⟩
abbrev cX9_refusal : ByteArray := prog_1_method_36_code
def yX9_refusal : MethodName := ⟨RX9, "refusal", "(ZZ)I"⟩
abbrev cX9_show : ByteArray := prog_1_method_37_code
def yX9_show : MethodName := ⟨RX9, "show", "(I)I"⟩
abbrev cX9_tell : ByteArray := prog_1_method_38_code
def yX9_tell : MethodName := ⟨RX9, "tell", "(I)I"⟩
abbrev cX9_written : ByteArray := prog_1_method_39_code
def yX9_written : MethodName := ⟨RX9, "written", "(I)C"⟩
abbrev cX9_account : ByteArray := prog_1_method_40_code
def yX9_account : MethodName := ⟨RX9, "account", "(I)I"⟩
abbrev cX9_meanToll : ByteArray := prog_1_method_41_code
def yX9_meanToll : MethodName := ⟨RX9, "meanToll", "()D"⟩
abbrev cX9_countedShare : ByteArray := prog_1_method_42_code
def yX9_countedShare : MethodName := ⟨RX9, "countedShare", "()F"⟩
abbrev cX9_undo : ByteArray := prog_1_method_43_code
def yX9_undo : MethodName := ⟨RX9, "undo", "()I"⟩
abbrev cX9_save : ByteArray := prog_1_method_44_code
def yX9_save : MethodName := ⟨RX9, "save", "()I"⟩
abbrev cX9_restore : ByteArray := prog_1_method_45_code
def yX9_restore : MethodName := ⟨RX9, "restore", "()I"⟩
abbrev cX9_conclude : ByteArray := prog_1_method_46_code
def yX9_conclude : MethodName := ⟨RX9, "conclude", "(LTrollBridges$Verdict;)I"⟩
abbrev cX9_needBridge : ByteArray := prog_1_method_47_code
def yX9_needBridge : MethodName := ⟨RX9, "needBridge", "(I)V"⟩
abbrev cX9_needLand : ByteArray := prog_1_method_48_code
def yX9_needLand : MethodName := ⟨RX9, "needLand", "(I)V"⟩
abbrev cX9_needWay : ByteArray := prog_1_method_49_code
def yX9_needWay : MethodName := ⟨RX9, "needWay", "(I)I"⟩
abbrev cX9_isLand : ByteArray := prog_1_method_50_code
def yX9_isLand : MethodName := ⟨RX9, "isLand", "(I)Z"⟩
abbrev cX9_isWithin : ByteArray := prog_1_method_51_code
def yX9_isWithin : MethodName := ⟨RX9, "isWithin", "(III)Z"⟩
abbrev cX9_writeHanging : ByteArray := prog_1_method_52_code
def yX9_writeHanging : MethodName := ⟨RX9, "writeHanging", "(LTrollBridges$Line;LTrollBridges$Ways;II)V"⟩
def RX10 : String := "TrollBridgesModel"
def TX10 : u_T := fun k => match k with
  | 0 => ("TrollBridgesModel", "s", "[I", true)
  | 1 => ("TrollBridgesModel", "was", "[I", true)
  | 2 => ("TrollBridgesModel", "saved", "[I", true)
  | 3 => ("TrollBridgesModel", "past", "[I", true)
  | 4 => ("TrollBridgesModel", "least", "[I", true)
  | 5 => ("TrollBridgesModel", "changes", "I", false)
  | 6 => ("TrollBridgesModel", "thrown", "I", false)
  | 7 => ("TrollBridgesModel", "reason", "I", false)
  | 8 => ("TrollBridgesModel", "detail", "I", false)
  | 9 => ("TrollBridgesModel", "behind", "I", false)
  | 10 => ("TrollBridgesModel", "behindDetail", "I", false)
  | 11 => ("TrollBridgesModel", "errorAt", "I", false)
  | 12 => ("TrollBridgesModel", "isSaved", "Z", false)
  | 13 => ("TrollBridgesModel", "line", "[I", true)
  | 14 => ("TrollBridgesModel", "lined", "I", false)
  | 15 => ("TrollBridgesModel", "tape", "[I", true)
  | 16 => ("TrollBridgesModel", "commands", "[I", true)
  | 17 => ("TrollBridgesModel", "taped", "I", false)
  | 18 => ("TrollBridgesModel", "here", "I", false)
  | 19 => ("TrollBridgesModel", "commandMany", "I", false)
  | _ => ("TrollBridgesModel", "word", "I", false)
def tyX10 : Nat → FieldType := fun k => match k with
  | 0 => .array .int
  | 1 => .array .int
  | 2 => .array .int
  | 3 => .array .int
  | 4 => .array .int
  | 5 => .int
  | 6 => .int
  | 7 => .int
  | 8 => .int
  | 9 => .int
  | 10 => .int
  | 11 => .int
  | 12 => .boolean
  | 13 => .array .int
  | 14 => .int
  | 15 => .array .int
  | 16 => .array .int
  | 17 => .int
  | 18 => .int
  | 19 => .int
  | _ => .int
abbrev wsX100 : List Cond := u_ws RX10 TX10 21
theorem nmX10 : ∀ a, a < 21 → ∀ b, b < 21 → a ≠ b → (TX10 a).2.1 ≠ (TX10 b).2.1 := by decide +kernel
theorem tyX10_ok : ∀ k, k < 21 → parseFieldDescriptor (TX10 k).2.2.1 = some (tyX10 k) := by decide +kernel
abbrev cX10_init : ByteArray := prog_12_method_1_code
def yX10_init : MethodName := ⟨RX10, "<init>", "()V"⟩
abbrev cX10_thrown : ByteArray := prog_12_method_2_code
def yX10_thrown : MethodName := ⟨RX10, "thrown", "()I"⟩
abbrev cX10_isIn : ByteArray := prog_12_method_3_code
def yX10_isIn : MethodName := ⟨RX10, "isIn", "(III)Z"⟩
abbrev cX10_greater : ByteArray := prog_12_method_4_code
def yX10_greater : MethodName := ⟨RX10, "greater", "(II)I"⟩
abbrev cX10_lesser : ByteArray := prog_12_method_5_code
def yX10_lesser : MethodName := ⟨RX10, "lesser", "(II)I"⟩
abbrev cX10_copies : ByteArray := prog_12_method_6_code
def yX10_copies : MethodName := ⟨RX10, "copies", "([II[II)V"⟩
abbrev cX10_keeps : ByteArray := prog_12_method_7_code
def yX10_keeps : MethodName := ⟨RX10, "keeps", "()V"⟩
abbrev cX10_changed : ByteArray := prog_12_method_8_code
def yX10_changed : MethodName := ⟨RX10, "changed", "()V"⟩
abbrev cX10_ends : ByteArray := prog_12_method_9_code
def yX10_ends : MethodName := ⟨RX10, "ends", "(II)I"⟩
abbrev cX10_isThrown : ByteArray := prog_12_method_10_code
def yX10_isThrown : MethodName := ⟨RX10, "isThrown", "(ZI)Z"⟩
abbrev cX10_isRefused : ByteArray := prog_12_method_11_code
def yX10_isRefused : MethodName := ⟨RX10, "isRefused", "(ZII)Z"⟩
abbrev cX10_of : ByteArray := prog_12_method_12_code
def yX10_of : MethodName := ⟨RX10, "of", "(II)I"⟩
abbrev cX10_sets : ByteArray := prog_12_method_13_code
def yX10_sets : MethodName := ⟨RX10, "sets", "(III)V"⟩
abbrev cX10_ofTroll : ByteArray := prog_12_method_14_code
def yX10_ofTroll : MethodName := ⟨RX10, "ofTroll", "(II)I"⟩
abbrev cX10_setsTroll : ByteArray := prog_12_method_15_code
def yX10_setsTroll : MethodName := ⟨RX10, "setsTroll", "(III)V"⟩
abbrev cX10_ofGoat : ByteArray := prog_12_method_16_code
def yX10_ofGoat : MethodName := ⟨RX10, "ofGoat", "(II)I"⟩
abbrev cX10_setsGoat : ByteArray := prog_12_method_17_code
def yX10_setsGoat : MethodName := ⟨RX10, "setsGoat", "(III)V"⟩
abbrev cX10_isLand : ByteArray := prog_12_method_18_code
def yX10_isLand : MethodName := ⟨RX10, "isLand", "(I)Z"⟩
abbrev cX10_isBridge : ByteArray := prog_12_method_19_code
def yX10_isBridge : MethodName := ⟨RX10, "isBridge", "(I)Z"⟩
abbrev cX10_isTroll : ByteArray := prog_12_method_20_code
def yX10_isTroll : MethodName := ⟨RX10, "isTroll", "(I)Z"⟩
abbrev cX10_isGoat : ByteArray := prog_12_method_21_code
def yX10_isGoat : MethodName := ⟨RX10, "isGoat", "(I)Z"⟩
abbrev cX10_trollAt : ByteArray := prog_12_method_22_code
def yX10_trollAt : MethodName := ⟨RX10, "trollAt", "(I)I"⟩
abbrev cX10_holds : ByteArray := prog_12_method_23_code
def yX10_holds : MethodName := ⟨RX10, "holds", "(I)Z"⟩
abbrev cX10_isInFog : ByteArray := prog_12_method_24_code
def yX10_isInFog : MethodName := ⟨RX10, "isInFog", "(I)Z"⟩
abbrev cX10_strikers : ByteArray := prog_12_method_25_code
def yX10_strikers : MethodName := ⟨RX10, "strikers", "()I"⟩
abbrev cX10_isGeneralNow : ByteArray := prog_12_method_26_code
def yX10_isGeneralNow : MethodName := ⟨RX10, "isGeneralNow", "()Z"⟩
abbrev cX10_dueAt : ByteArray := prog_12_method_27_code
def yX10_dueAt : MethodName := ⟨RX10, "dueAt", "(I)I"⟩
abbrev cX10_takesAt : ByteArray := prog_12_method_28_code
def yX10_takesAt : MethodName := ⟨RX10, "takesAt", "(I)I"⟩
abbrev cX10_builds : ByteArray := prog_12_method_29_code
def yX10_builds : MethodName := ⟨RX10, "builds", "(IIII)I"⟩
abbrev cX10_bridge : ByteArray := prog_12_method_30_code
def yX10_bridge : MethodName := ⟨RX10, "bridge", "(IIII)I"⟩
abbrev cX10_trolls : ByteArray := prog_12_method_31_code
def yX10_trolls : MethodName := ⟨RX10, "trolls", "()I"⟩
abbrev cX10_troll : ByteArray := prog_12_method_32_code
def yX10_troll : MethodName := ⟨RX10, "troll", "()I"⟩
abbrev cX10_goats : ByteArray := prog_12_method_33_code
def yX10_goats : MethodName := ⟨RX10, "goats", "(II)I"⟩
abbrev cX10_goat : ByteArray := prog_12_method_34_code
def yX10_goat : MethodName := ⟨RX10, "goat", "(II)I"⟩
abbrev cX10_isDisputed : ByteArray := prog_12_method_35_code
def yX10_isDisputed : MethodName := ⟨RX10, "isDisputed", "(I)Z"⟩
abbrev cX10_posts : ByteArray := prog_12_method_36_code
def yX10_posts : MethodName := ⟨RX10, "posts", "(II)I"⟩
abbrev cX10_post : ByteArray := prog_12_method_37_code
def yX10_post : MethodName := ⟨RX10, "post", "(II)I"⟩
abbrev cX10_leaves : ByteArray := prog_12_method_38_code
def yX10_leaves : MethodName := ⟨RX10, "leaves", "(I)I"⟩
abbrev cX10_leave : ByteArray := prog_12_method_39_code
def yX10_leave : MethodName := ⟨RX10, "leave", "(I)I"⟩
abbrev cX10_riddles : ByteArray := prog_12_method_40_code
def yX10_riddles : MethodName := ⟨RX10, "riddles", "(III)I"⟩
abbrev cX10_riddle : ByteArray := prog_12_method_41_code
def yX10_riddle : MethodName := ⟨RX10, "riddle", "(III)I"⟩
abbrev cX10_fogs : ByteArray := prog_12_method_42_code
def yX10_fogs : MethodName := ⟨RX10, "fogs", "(II)I"⟩
abbrev cX10_fog : ByteArray := prog_12_method_43_code
def yX10_fog : MethodName := ⟨RX10, "fog", "(II)I"⟩
abbrev cX10_prices : ByteArray := prog_12_method_44_code
def yX10_prices : MethodName := ⟨RX10, "prices", "(II)I"⟩
abbrev cX10_price : ByteArray := prog_12_method_45_code
def yX10_price : MethodName := ⟨RX10, "price", "(II)I"⟩
abbrev cX10_pays : ByteArray := prog_12_method_46_code
def yX10_pays : MethodName := ⟨RX10, "pays", "(III)V"⟩
abbrev cX10_crosses : ByteArray := prog_12_method_47_code
def yX10_crosses : MethodName := ⟨RX10, "crosses", "(II)I"⟩
abbrev cX10_cross : ByteArray := prog_12_method_48_code
def yX10_cross : MethodName := ⟨RX10, "cross", "(II)I"⟩
abbrev cX10_disputes : ByteArray := prog_12_method_49_code
def yX10_disputes : MethodName := ⟨RX10, "disputes", "()I"⟩
abbrev cX10_disputesAt : ByteArray := prog_12_method_50_code
def yX10_disputesAt : MethodName := ⟨RX10, "disputesAt", "(II)I"⟩
abbrev cX10_dispute : ByteArray := prog_12_method_51_code
def yX10_dispute : MethodName := ⟨RX10, "dispute", "(II)I"⟩
abbrev cX10_chest : ByteArray := prog_12_method_52_code
def yX10_chest : MethodName := ⟨RX10, "chest", "(I)I"⟩
abbrev cX10_settles : ByteArray := prog_12_method_53_code
def yX10_settles : MethodName := ⟨RX10, "settles", "(II)I"⟩
abbrev cX10_settle : ByteArray := prog_12_method_54_code
def yX10_settle : MethodName := ⟨RX10, "settle", "(IZ)I"⟩
abbrev cX10_strikes : ByteArray := prog_12_method_55_code
def yX10_strikes : MethodName := ⟨RX10, "strikes", "(II)I"⟩
abbrev cX10_strike : ByteArray := prog_12_method_56_code
def yX10_strike : MethodName := ⟨RX10, "strike", "(IZ)I"⟩
abbrev cX10_holding : ByteArray := prog_12_method_57_code
def yX10_holding : MethodName := ⟨RX10, "holding", "()I"⟩
abbrev cX10_passes : ByteArray := prog_12_method_58_code
def yX10_passes : MethodName := ⟨RX10, "passes", "(I)I"⟩
abbrev cX10_pass : ByteArray := prog_12_method_59_code
def yX10_pass : MethodName := ⟨RX10, "pass", "(I)I"⟩
abbrev cX10_bridgeOf : ByteArray := prog_12_method_60_code
def yX10_bridgeOf : MethodName := ⟨RX10, "bridgeOf", "(II)I"⟩
abbrev cX10_trollOf : ByteArray := prog_12_method_61_code
def yX10_trollOf : MethodName := ⟨RX10, "trollOf", "(II)I"⟩
abbrev cX10_inChests : ByteArray := prog_12_method_62_code
def yX10_inChests : MethodName := ⟨RX10, "inChests", "(I)I"⟩
abbrev cX10_goatOf : ByteArray := prog_12_method_63_code
def yX10_goatOf : MethodName := ⟨RX10, "goatOf", "(II)I"⟩
abbrev cX10_due : ByteArray := prog_12_method_64_code
def yX10_due : MethodName := ⟨RX10, "due", "(I)I"⟩
abbrev cX10_takes : ByteArray := prog_12_method_65_code
def yX10_takes : MethodName := ⟨RX10, "takes", "(I)I"⟩
abbrev cX10_isLower : ByteArray := prog_12_method_66_code
def yX10_isLower : MethodName := ⟨RX10, "isLower", "(III)Z"⟩
abbrev cX10_goesFrom : ByteArray := prog_12_method_67_code
def yX10_goesFrom : MethodName := ⟨RX10, "goesFrom", "(IZ)V"⟩
abbrev cX10_way : ByteArray := prog_12_method_68_code
def yX10_way : MethodName := ⟨RX10, "way", "(IIZ)I"⟩
abbrev cX10_cheapest : ByteArray := prog_12_method_69_code
def yX10_cheapest : MethodName := ⟨RX10, "cheapest", "(II)I"⟩
abbrev cX10_cheapestAgain : ByteArray := prog_12_method_70_code
def yX10_cheapestAgain : MethodName := ⟨RX10, "cheapestAgain", "(II)I"⟩
abbrev cX10_fastest : ByteArray := prog_12_method_71_code
def yX10_fastest : MethodName := ⟨RX10, "fastest", "(II)I"⟩
abbrev cX10_fastestAgain : ByteArray := prog_12_method_72_code
def yX10_fastestAgain : MethodName := ⟨RX10, "fastestAgain", "(II)I"⟩
abbrev cX10_hangsOn : ByteArray := prog_12_method_73_code
def yX10_hangsOn : MethodName := ⟨RX10, "hangsOn", "(I)I"⟩
abbrev cX10_hangs : ByteArray := prog_12_method_74_code
def yX10_hangs : MethodName := ⟨RX10, "hangs", "(II)I"⟩
abbrev cX10_sum : ByteArray := prog_12_method_75_code
def yX10_sum : MethodName := ⟨RX10, "sum", "(Z)I"⟩
abbrev cX10_counted : ByteArray := prog_12_method_76_code
def yX10_counted : MethodName := ⟨RX10, "counted", "()I"⟩
abbrev cX10_countedAgain : ByteArray := prog_12_method_77_code
def yX10_countedAgain : MethodName := ⟨RX10, "countedAgain", "()I"⟩
abbrev cX10_isGeneral : ByteArray := prog_12_method_78_code
def yX10_isGeneral : MethodName := ⟨RX10, "isGeneral", "()Z"⟩
abbrev cX10_crossedOf : ByteArray := prog_12_method_79_code
def yX10_crossedOf : MethodName := ⟨RX10, "crossedOf", "(I)I"⟩
abbrev cX10_isAhead : ByteArray := prog_12_method_80_code
def yX10_isAhead : MethodName := ⟨RX10, "isAhead", "(ZII)Z"⟩
abbrev cX10_ranked : ByteArray := prog_12_method_81_code
def yX10_ranked : MethodName := ⟨RX10, "ranked", "(ZI)I"⟩
abbrev cX10_richest : ByteArray := prog_12_method_82_code
def yX10_richest : MethodName := ⟨RX10, "richest", "(I)I"⟩
abbrev cX10_tired : ByteArray := prog_12_method_83_code
def yX10_tired : MethodName := ⟨RX10, "tired", "(I)I"⟩
abbrev cX10_next : ByteArray := prog_12_method_84_code
def yX10_next : MethodName := ⟨RX10, "next", "()I"⟩
abbrev cX10_coinsOfGoats : ByteArray := prog_12_method_85_code
def yX10_coinsOfGoats : MethodName := ⟨RX10, "coinsOfGoats", "()I"⟩
abbrev cX10_coinsOfTrolls : ByteArray := prog_12_method_86_code
def yX10_coinsOfTrolls : MethodName := ⟨RX10, "coinsOfTrolls", "()I"⟩
abbrev cX10_chests : ByteArray := prog_12_method_87_code
def yX10_chests : MethodName := ⟨RX10, "chests", "()I"⟩
abbrev cX10_isWell : ByteArray := prog_12_method_88_code
def yX10_isWell : MethodName := ⟨RX10, "isWell", "()Z"⟩
abbrev cX10_inFog : ByteArray := prog_12_method_89_code
def yX10_inFog : MethodName := ⟨RX10, "inFog", "()I"⟩
abbrev cX10_account : ByteArray := prog_12_method_90_code
def yX10_account : MethodName := ⟨RX10, "account", "(I)I"⟩
abbrev cX10_meanToll : ByteArray := prog_12_method_91_code
def yX10_meanToll : MethodName := ⟨RX10, "meanToll", "()D"⟩
abbrev cX10_countedShare : ByteArray := prog_12_method_92_code
def yX10_countedShare : MethodName := ⟨RX10, "countedShare", "()F"⟩
abbrev cX10_puts : ByteArray := prog_12_method_93_code
def yX10_puts : MethodName := ⟨RX10, "puts", "(I)V"⟩
abbrev cX10_hanging : ByteArray := prog_12_method_94_code
def yX10_hanging : MethodName := ⟨RX10, "hanging", "(II)V"⟩
abbrev cX10_show : ByteArray := prog_12_method_95_code
def yX10_show : MethodName := ⟨RX10, "show", "(I)I"⟩
abbrev cX10_tell : ByteArray := prog_12_method_96_code
def yX10_tell : MethodName := ⟨RX10, "tell", "(I)I"⟩
abbrev cX10_written : ByteArray := prog_12_method_97_code
def yX10_written : MethodName := ⟨RX10, "written", "(I)C"⟩
abbrev cX10_type : ByteArray := prog_12_method_98_code
def yX10_type : MethodName := ⟨RX10, "type", "(C)I"⟩
abbrev cX10_sign : ByteArray := prog_12_method_99_code
def yX10_sign : MethodName := ⟨RX10, "sign", "()I"⟩
abbrev cX10_isSign : ByteArray := prog_12_method_100_code
def yX10_isSign : MethodName := ⟨RX10, "isSign", "(I)Z"⟩
abbrev cX10_wordOf : ByteArray := prog_12_method_101_code
def yX10_wordOf : MethodName := ⟨RX10, "wordOf", "(I)Ljava/lang/String;"⟩
abbrev cX10_alikeHere : ByteArray := prog_12_method_102_code
def yX10_alikeHere : MethodName := ⟨RX10, "alikeHere", "(Ljava/lang/String;)I"⟩
abbrev cX10_isWord : ByteArray := prog_12_method_103_code
def yX10_isWord : MethodName := ⟨RX10, "isWord", "()Z"⟩
abbrev cX10_isNumber : ByteArray := prog_12_method_104_code
def yX10_isNumber : MethodName := ⟨RX10, "isNumber", "(II)Z"⟩
abbrev cX10_isNext : ByteArray := prog_12_method_105_code
def yX10_isNext : MethodName := ⟨RX10, "isNext", "(II)Z"⟩
abbrev cX10_isForTroll : ByteArray := prog_12_method_106_code
def yX10_isForTroll : MethodName := ⟨RX10, "isForTroll", "(I)Z"⟩
abbrev cX10_readsCommand : ByteArray := prog_12_method_107_code
def yX10_readsCommand : MethodName := ⟨RX10, "readsCommand", "()Z"⟩
abbrev cX10_isText : ByteArray := prog_12_method_108_code
def yX10_isText : MethodName := ⟨RX10, "isText", "()Z"⟩
abbrev cX10_does : ByteArray := prog_12_method_109_code
def yX10_does : MethodName := ⟨RX10, "does", "(I)I"⟩
abbrev cX10_isBehind : ByteArray := prog_12_method_110_code
def yX10_isBehind : MethodName := ⟨RX10, "isBehind", "(ZI)V"⟩
abbrev cX10_read : ByteArray := prog_12_method_111_code
def yX10_read : MethodName := ⟨RX10, "read", "()I"⟩
abbrev cX10_errorPosition : ByteArray := prog_12_method_112_code
def yX10_errorPosition : MethodName := ⟨RX10, "errorPosition", "()I"⟩
abbrev cX10_refusal : ByteArray := prog_12_method_113_code
def yX10_refusal : MethodName := ⟨RX10, "refusal", "(ZZ)I"⟩
abbrev cX10_undo : ByteArray := prog_12_method_114_code
def yX10_undo : MethodName := ⟨RX10, "undo", "()I"⟩
abbrev cX10_save : ByteArray := prog_12_method_115_code
def yX10_save : MethodName := ⟨RX10, "save", "()I"⟩
abbrev cX10_restore : ByteArray := prog_12_method_116_code
def yX10_restore : MethodName := ⟨RX10, "restore", "()I"⟩
def RJx145de : String := "java/io/Serializable"
def TJx145de : u_T := fun k => match k with
  | _ => ("", "", "", false)
def tyJx145de : Nat → FieldType := fun k => match k with
  | _ => .int
abbrev wsJx145de0 : List Cond := u_ws RJx145de TJx145de 0
theorem nmJx145de : ∀ a, a < 0 → ∀ b, b < 0 → a ≠ b → (TJx145de a).2.1 ≠ (TJx145de b).2.1 := by decide +kernel
theorem tyJx145de_ok : ∀ k, k < 0 → parseFieldDescriptor (TJx145de k).2.2.1 = some (tyJx145de k) := by decide +kernel
def RJx00060 : String := "java/lang/ArrayIndexOutOfBoundsException"
def TJx00060 : u_T := fun k => match k with
  | 0 => ("java/lang/Throwable", "backtrace", "Ljava/lang/Object;", false)
  | 1 => ("java/lang/Throwable", "detailMessage", "Ljava/lang/String;", false)
  | 2 => ("java/lang/Throwable", "cause", "Ljava/lang/Throwable;", false)
  | 3 => ("java/lang/Throwable", "stackTrace", "[Ljava/lang/StackTraceElement;", false)
  | 4 => ("java/lang/Throwable", "depth", "I", false)
  | _ => ("java/lang/Throwable", "suppressedExceptions", "Ljava/util/List;", false)
def tyJx00060 : Nat → FieldType := fun k => match k with
  | 0 => .object "java/lang/Object"
  | 1 => .object "java/lang/String"
  | 2 => .object "java/lang/Throwable"
  | 3 => .array (.object "java/lang/StackTraceElement")
  | 4 => .int
  | _ => .object "java/util/List"
abbrev wsJx000600 : List Cond := u_ws RJx00060 TJx00060 6
theorem nmJx00060 : ∀ a, a < 6 → ∀ b, b < 6 → a ≠ b → (TJx00060 a).2.1 ≠ (TJx00060 b).2.1 := by decide +kernel
theorem tyJx00060_ok : ∀ k, k < 6 → parseFieldDescriptor (TJx00060 k).2.2.1 = some (tyJx00060 k) := by decide +kernel
abbrev cJx00060_init_a7421 : ByteArray := prog_15_method_2_code
def yJx00060_init_a7421 : MethodName := ⟨RJx00060, "<init>", "(Ljava/lang/String;)V"⟩
def RJx9f9b0 : String := "java/lang/CharSequence"
def TJx9f9b0 : u_T := fun k => match k with
  | _ => ("", "", "", false)
def tyJx9f9b0 : Nat → FieldType := fun k => match k with
  | _ => .int
abbrev wsJx9f9b00 : List Cond := u_ws RJx9f9b0 TJx9f9b0 0
theorem nmJx9f9b0 : ∀ a, a < 0 → ∀ b, b < 0 → a ≠ b → (TJx9f9b0 a).2.1 ≠ (TJx9f9b0 b).2.1 := by decide +kernel
theorem tyJx9f9b0_ok : ∀ k, k < 0 → parseFieldDescriptor (TJx9f9b0 k).2.2.1 = some (tyJx9f9b0 k) := by decide +kernel
def RJxb160c : String := "java/lang/Comparable"
def TJxb160c : u_T := fun k => match k with
  | _ => ("", "", "", false)
def tyJxb160c : Nat → FieldType := fun k => match k with
  | _ => .int
abbrev wsJxb160c0 : List Cond := u_ws RJxb160c TJxb160c 0
theorem nmJxb160c : ∀ a, a < 0 → ∀ b, b < 0 → a ≠ b → (TJxb160c a).2.1 ≠ (TJxb160c b).2.1 := by decide +kernel
theorem tyJxb160c_ok : ∀ k, k < 0 → parseFieldDescriptor (TJxb160c k).2.2.1 = some (tyJxb160c k) := by decide +kernel
def RJ9 : String := "java/lang/Math"
def TJ9 : u_T := fun k => match k with
  | _ => ("", "", "", false)
def tyJ9 : Nat → FieldType := fun k => match k with
  | _ => .int
abbrev wsJ90 : List Cond := u_ws RJ9 TJ9 0
theorem nmJ9 : ∀ a, a < 0 → ∀ b, b < 0 → a ≠ b → (TJ9 a).2.1 ≠ (TJ9 b).2.1 := by decide +kernel
theorem tyJ9_ok : ∀ k, k < 0 → parseFieldDescriptor (TJ9 k).2.2.1 = some (tyJ9 k) := by decide +kernel
abbrev cJ9_max_7cf53 : ByteArray := prog_22_method_65_code
def yJ9_max_7cf53 : MethodName := ⟨RJ9, "max", "(II)I"⟩
abbrev cJ9_min_7cf53 : ByteArray := prog_22_method_69_code
def yJ9_min_7cf53 : MethodName := ⟨RJ9, "min", "(II)I"⟩
def RJ0 : String := "java/lang/String"
def TJ0 : u_T := fun k => match k with
  | 0 => ("java/lang/String", "value", "[B", true)
  | _ => ("java/lang/String", "coder", "B", true)
def tyJ0 : Nat → FieldType := fun k => match k with
  | 0 => .array .byte
  | _ => .byte
abbrev wsJ00 : List Cond := u_ws RJ0 TJ0 2
theorem nmJ0 : ∀ a, a < 2 → ∀ b, b < 2 → a ≠ b → (TJ0 a).2.1 ≠ (TJ0 b).2.1 := by decide +kernel
theorem tyJ0_ok : ∀ k, k < 2 → parseFieldDescriptor (TJ0 k).2.2.1 = some (tyJ0 k) := by decide +kernel
abbrev cJ0_length_8abf5 : ByteArray := prog_24_method_54_code
def yJ0_length_8abf5 : MethodName := ⟨RJ0, "length", "()I"⟩
abbrev cJ0_charAt_5068e : ByteArray := prog_24_method_56_code
def yJ0_charAt_5068e : MethodName := ⟨RJ0, "charAt", "(I)C"⟩
abbrev cJ0_coder_7d493 : ByteArray := prog_24_method_152_code
def yJ0_coder_7d493 : MethodName := ⟨RJ0, "coder", "()B"⟩
abbrev cJ0_isLatin1_aae02 : ByteArray := prog_24_method_154_code
def yJ0_isLatin1_aae02 : MethodName := ⟨RJ0, "isLatin1", "()Z"⟩
abbrev cJ0_checkIndex_df160 : ByteArray := prog_24_method_155_code
def yJ0_checkIndex_df160 : MethodName := ⟨RJ0, "checkIndex", "(II)V"⟩
def RJ1 : String := "java/lang/StringLatin1"
def TJ1 : u_T := fun k => match k with
  | _ => ("", "", "", false)
def tyJ1 : Nat → FieldType := fun k => match k with
  | _ => .int
abbrev wsJ10 : List Cond := u_ws RJ1 TJ1 0
theorem nmJ1 : ∀ a, a < 0 → ∀ b, b < 0 → a ≠ b → (TJ1 a).2.1 ≠ (TJ1 b).2.1 := by decide +kernel
theorem tyJ1_ok : ∀ k, k < 0 → parseFieldDescriptor (TJ1 k).2.2.1 = some (tyJ1 k) := by decide +kernel
abbrev cJ1_charAt_3b067 : ByteArray := prog_25_method_2_code
def yJ1_charAt_3b067 : MethodName := ⟨RJ1, "charAt", "([BI)C"⟩
def RJ2 : String := "java/lang/StringUTF16"
def TJ2 : u_T := fun k => match k with
  | _ => ("", "", "", false)
def tyJ2 : Nat → FieldType := fun k => match k with
  | _ => .int
abbrev wsJ20 : List Cond := u_ws RJ2 TJ2 0
theorem nmJ2 : ∀ a, a < 0 → ∀ b, b < 0 → a ≠ b → (TJ2 a).2.1 ≠ (TJ2 b).2.1 := by decide +kernel
theorem tyJ2_ok : ∀ k, k < 0 → parseFieldDescriptor (TJ2 k).2.2.1 = some (tyJ2 k) := by decide +kernel
abbrev cJ2_getChar_3b067 : ByteArray := prog_26_method_5_code
def yJ2_getChar_3b067 : MethodName := ⟨RJ2, "getChar", "([BI)C"⟩
abbrev cJ2_length_9d52b : ByteArray := prog_26_method_6_code
def yJ2_length_9d52b : MethodName := ⟨RJ2, "length", "([B)I"⟩
abbrev cJ2_charAt_3b067 : ByteArray := prog_26_method_83_code
def yJ2_charAt_3b067 : MethodName := ⟨RJ2, "charAt", "([BI)C"⟩
abbrev cJ2_checkIndex_2214a : ByteArray := prog_26_method_91_code
def yJ2_checkIndex_2214a : MethodName := ⟨RJ2, "checkIndex", "(I[B)V"⟩
def RJ10 : String := "java/lang/System"
def TJ10 : u_T := fun k => match k with
  | _ => ("", "", "", false)
def tyJ10 : Nat → FieldType := fun k => match k with
  | _ => .int
abbrev wsJ100 : List Cond := u_ws RJ10 TJ10 0
theorem nmJ10 : ∀ a, a < 0 → ∀ b, b < 0 → a ≠ b → (TJ10 a).2.1 ≠ (TJ10 b).2.1 := by decide +kernel
theorem tyJ10_ok : ∀ k, k < 0 → parseFieldDescriptor (TJ10 k).2.2.1 = some (tyJ10 k) := by decide +kernel
def RJxfd54e : String := "java/lang/constant/Constable"
def TJxfd54e : u_T := fun k => match k with
  | _ => ("", "", "", false)
def tyJxfd54e : Nat → FieldType := fun k => match k with
  | _ => .int
abbrev wsJxfd54e0 : List Cond := u_ws RJxfd54e TJxfd54e 0
theorem nmJxfd54e : ∀ a, a < 0 → ∀ b, b < 0 → a ≠ b → (TJxfd54e a).2.1 ≠ (TJxfd54e b).2.1 := by decide +kernel
theorem tyJxfd54e_ok : ∀ k, k < 0 → parseFieldDescriptor (TJxfd54e k).2.2.1 = some (tyJxfd54e k) := by decide +kernel
def RJx3cf43 : String := "java/lang/constant/ConstantDesc"
def TJx3cf43 : u_T := fun k => match k with
  | _ => ("", "", "", false)
def tyJx3cf43 : Nat → FieldType := fun k => match k with
  | _ => .int
abbrev wsJx3cf430 : List Cond := u_ws RJx3cf43 TJx3cf43 0
theorem nmJx3cf43 : ∀ a, a < 0 → ∀ b, b < 0 → a ≠ b → (TJx3cf43 a).2.1 ≠ (TJx3cf43 b).2.1 := by decide +kernel
theorem tyJx3cf43_ok : ∀ k, k < 0 → parseFieldDescriptor (TJx3cf43 k).2.2.1 = some (tyJx3cf43 k) := by decide +kernel
def RJ3 : String := "jdk/internal/util/Preconditions"
def TJ3 : u_T := fun k => match k with
  | _ => ("", "", "", false)
def tyJ3 : Nat → FieldType := fun k => match k with
  | _ => .int
abbrev wsJ30 : List Cond := u_ws RJ3 TJ3 0
theorem nmJ3 : ∀ a, a < 0 → ∀ b, b < 0 → a ≠ b → (TJ3 a).2.1 ≠ (TJ3 b).2.1 := by decide +kernel
theorem tyJ3_ok : ∀ k, k < 0 → parseFieldDescriptor (TJ3 k).2.2.1 = some (tyJ3 k) := by decide +kernel
abbrev cJ3_checkIndex_8e157 : ByteArray := prog_33_method_11_code
def yJ3_checkIndex_8e157 : MethodName := ⟨RJ3, "checkIndex", "(IILjava/util/function/BiFunction;)I"⟩
def RL : String := "TrollBridgesLaw"
abbrev cL_bridge : ByteArray := method_3_code
def yL_bridge : MethodName := ⟨RL, "bridge", "(LTrollBridges;IIII[J)I"⟩
abbrev cL_troll : ByteArray := method_4_code
def yL_troll : MethodName := ⟨RL, "troll", "(LTrollBridges;[J)I"⟩
abbrev cL_goat : ByteArray := method_5_code
def yL_goat : MethodName := ⟨RL, "goat", "(LTrollBridges;II[J)I"⟩
abbrev cL_post : ByteArray := method_6_code
def yL_post : MethodName := ⟨RL, "post", "(LTrollBridges;II[J)I"⟩
abbrev cL_leave : ByteArray := method_7_code
def yL_leave : MethodName := ⟨RL, "leave", "(LTrollBridges;I[J)I"⟩
abbrev cL_riddle : ByteArray := method_8_code
def yL_riddle : MethodName := ⟨RL, "riddle", "(LTrollBridges;III[J)I"⟩
abbrev cL_fog : ByteArray := method_9_code
def yL_fog : MethodName := ⟨RL, "fog", "(LTrollBridges;II[J)I"⟩
abbrev cL_price : ByteArray := method_10_code
def yL_price : MethodName := ⟨RL, "price", "(LTrollBridges;II[J)I"⟩
abbrev cL_cross : ByteArray := method_11_code
def yL_cross : MethodName := ⟨RL, "cross", "(LTrollBridges;II[J)I"⟩
abbrev cL_dispute : ByteArray := method_12_code
def yL_dispute : MethodName := ⟨RL, "dispute", "(LTrollBridges;II[J)I"⟩
abbrev cL_settle : ByteArray := method_13_code
def yL_settle : MethodName := ⟨RL, "settle", "(LTrollBridges;IZ[J)I"⟩
abbrev cL_strike : ByteArray := method_14_code
def yL_strike : MethodName := ⟨RL, "strike", "(LTrollBridges;IZ[J)I"⟩
abbrev cL_pass : ByteArray := method_15_code
def yL_pass : MethodName := ⟨RL, "pass", "(LTrollBridges;I[J)I"⟩
abbrev cL_bridgeOf : ByteArray := method_16_code
def yL_bridgeOf : MethodName := ⟨RL, "bridgeOf", "(LTrollBridges;II[J)I"⟩
abbrev cL_trollOf : ByteArray := method_17_code
def yL_trollOf : MethodName := ⟨RL, "trollOf", "(LTrollBridges;II[J)I"⟩
abbrev cL_goatOf : ByteArray := method_18_code
def yL_goatOf : MethodName := ⟨RL, "goatOf", "(LTrollBridges;II[J)I"⟩
abbrev cL_due : ByteArray := method_19_code
def yL_due : MethodName := ⟨RL, "due", "(LTrollBridges;I[J)I"⟩
abbrev cL_takes : ByteArray := method_20_code
def yL_takes : MethodName := ⟨RL, "takes", "(LTrollBridges;I[J)I"⟩
abbrev cL_cheapest : ByteArray := method_21_code
def yL_cheapest : MethodName := ⟨RL, "cheapest", "(LTrollBridges;II[J)I"⟩
abbrev cL_cheapestAgain : ByteArray := method_22_code
def yL_cheapestAgain : MethodName := ⟨RL, "cheapestAgain", "(LTrollBridges;II[J)I"⟩
abbrev cL_fastest : ByteArray := method_23_code
def yL_fastest : MethodName := ⟨RL, "fastest", "(LTrollBridges;II[J)I"⟩
abbrev cL_fastestAgain : ByteArray := method_24_code
def yL_fastestAgain : MethodName := ⟨RL, "fastestAgain", "(LTrollBridges;II[J)I"⟩
abbrev cL_hangs : ByteArray := method_25_code
def yL_hangs : MethodName := ⟨RL, "hangs", "(LTrollBridges;II[J)I"⟩
abbrev cL_richest : ByteArray := method_26_code
def yL_richest : MethodName := ⟨RL, "richest", "(LTrollBridges;I[J)I"⟩
abbrev cL_tired : ByteArray := method_27_code
def yL_tired : MethodName := ⟨RL, "tired", "(LTrollBridges;I[J)I"⟩
abbrev cL_next : ByteArray := method_28_code
def yL_next : MethodName := ⟨RL, "next", "(LTrollBridges;[J)I"⟩
abbrev cL_type : ByteArray := method_29_code
def yL_type : MethodName := ⟨RL, "type", "(LTrollBridges;C[J)I"⟩
abbrev cL_read : ByteArray := method_30_code
def yL_read : MethodName := ⟨RL, "read", "(LTrollBridges;[J)I"⟩
abbrev cL_errorPosition : ByteArray := method_31_code
def yL_errorPosition : MethodName := ⟨RL, "errorPosition", "(LTrollBridges;[J)I"⟩
abbrev cL_refusal : ByteArray := method_32_code
def yL_refusal : MethodName := ⟨RL, "refusal", "(LTrollBridges;ZZ[J)I"⟩
abbrev cL_show : ByteArray := method_33_code
def yL_show : MethodName := ⟨RL, "show", "(LTrollBridges;I[J)I"⟩
abbrev cL_tell : ByteArray := method_34_code
def yL_tell : MethodName := ⟨RL, "tell", "(LTrollBridges;I[J)I"⟩
abbrev cL_written : ByteArray := method_35_code
def yL_written : MethodName := ⟨RL, "written", "(LTrollBridges;I[J)I"⟩
abbrev cL_account : ByteArray := method_36_code
def yL_account : MethodName := ⟨RL, "account", "(LTrollBridges;I[J)I"⟩
abbrev cL_meanToll : ByteArray := method_37_code
def yL_meanToll : MethodName := ⟨RL, "meanToll", "(LTrollBridges;[D)I"⟩
abbrev cL_countedShare : ByteArray := method_38_code
def yL_countedShare : MethodName := ⟨RL, "countedShare", "(LTrollBridges;[D)I"⟩
abbrev cL_undo : ByteArray := method_39_code
def yL_undo : MethodName := ⟨RL, "undo", "(LTrollBridges;[J)I"⟩
abbrev cL_restore : ByteArray := method_40_code
def yL_restore : MethodName := ⟨RL, "restore", "(LTrollBridges;[J)I"⟩
abbrev cL_law : ByteArray := code
def yL_law : MethodName := ⟨RL, "law", "([I)Z"⟩
def wsL_law0_r1 : List Cond := [Cond.classLink RL 8 RX9, Cond.instantiable RX9 11, Cond.initialized RX9, Cond.classLink RL 147 RX10, Cond.instantiable RX10 21, Cond.initialized RX10, Cond.arrayClass .long, Cond.arrayClass .double, Cond.methodLink RL 146 yX9_init, Cond.instanceMethod yX9_init, Cond.code yX9_init cX9_init 1 none, Cond.methodLink RX9 1 objectInit, Cond.instanceMethod objectInit, Cond.code objectInit ⟨#[0xb1]⟩ 1 none, Cond.classLink RX9 7 RX8, Cond.instantiable RX8 1, Cond.initialized RX8, Cond.fieldLink RX9 10 "TrollBridges" "world" "LTrollBridges$World;", Cond.classLink RX9 16 RX0, Cond.instantiable RX0 2, Cond.initialized RX0, Cond.fieldLink RX9 21 "TrollBridges" "changes" "LTrollBridges$Changes;", Cond.classLink RX9 25 RX7, Cond.instantiable RX7 6]
def wsL_law0_r2 : List Cond := [Cond.initialized RX7, Cond.fieldLink RX9 28 "TrollBridges" "ways" "LTrollBridges$Ways;", Cond.classLink RX9 32 RX2, Cond.instantiable RX2 3, Cond.initialized RX2, Cond.fieldLink RX9 35 "TrollBridges" "history" "LTrollBridges$History;", Cond.classLink RX9 39 RX5, Cond.instantiable RX5 1, Cond.initialized RX5, Cond.fieldLink RX9 44 "TrollBridges" "snapshot" "LTrollBridges$Row;", Cond.fieldLink RX9 48 "TrollBridges" "hasSnapshot" "Z", Cond.classLink RX9 52 RX3, Cond.instantiable RX3 3, Cond.initialized RX3, Cond.fieldLink RX9 55 "TrollBridges" "typed" "LTrollBridges$Line;", Cond.classLink RX9 59 RX1, Cond.instantiable RX1 6, Cond.initialized RX1, Cond.fieldLink RX9 64 "TrollBridges" "commands" "LTrollBridges$Commands;", Cond.fieldLink RX9 68 "TrollBridges" "line" "LTrollBridges$Line;", Cond.classLink RX9 71 RX4, Cond.instantiable RX4 4, Cond.initialized RX4, Cond.fieldLink RX9 74 "TrollBridges" "latest" "LTrollBridges$Refusal;"]
def wsL_law0_r3 : List Cond := [Cond.fieldLink RX9 78 "TrollBridges" "malformedAt" "I", Cond.instanceMethod yX8_init, Cond.code yX8_init cX8_init 1 none, Cond.methodLink RX8 5 objectInit, Cond.classLink RX8 11 RX5, Cond.fieldLink RX8 16 "TrollBridges$World" "cells" "LTrollBridges$Row;", Cond.methodLink RX8 13 yX5_init, Cond.instanceMethod yX5_init, Cond.code yX5_init cX5_init 2 none, Cond.methodLink RX5 1 objectInit, Cond.methodLink RX5 7 Lib.Math.max.name, Cond.static Lib.Math.max.name, Cond.initialized "java/lang/Math", Cond.code Lib.Math.max.name Lib.Math.max.code 2 (some .int), Cond.arrayClass .int, Cond.fieldLink RX5 13 "TrollBridges$Row" "numbers" "[I", Cond.methodLink RX9 18 yX0_init, Cond.instanceMethod yX0_init, Cond.code yX0_init cX0_init 2 none, Cond.methodLink RX0 3 objectInit, Cond.classLink RX0 9 RX6, Cond.instantiable RX6 4, Cond.initialized RX6, Cond.fieldLink RX0 12 "TrollBridges$Changes" "verdict" "LTrollBridges$Verdict;"]
def wsL_law0_r4 : List Cond := [Cond.fieldLink RX0 18 "TrollBridges$Changes" "world" "LTrollBridges$World;", Cond.instanceMethod yX6_init, Cond.code yX6_init cX6_init 1 none, Cond.methodLink RX6 1 objectInit, Cond.fieldLink RX6 9 "TrollBridges$Verdict" "kind" "I", Cond.fieldLink RX6 13 "TrollBridges$Verdict" "number" "I", Cond.fieldLink RX6 16 "TrollBridges$Verdict" "reason" "I", Cond.fieldLink RX6 19 "TrollBridges$Verdict" "detail" "I", Cond.methodLink RX9 27 yX7_init, Cond.instanceMethod yX7_init, Cond.code yX7_init cX7_init 2 none, Cond.methodLink RX7 3 objectInit, Cond.classLink RX7 9 RX5, Cond.fieldLink RX7 14 "TrollBridges$Ways" "lengths" "LTrollBridges$Row;", Cond.fieldLink RX7 20 "TrollBridges$Ways" "reached" "LTrollBridges$Row;", Cond.fieldLink RX7 23 "TrollBridges$Ways" "reachedAgain" "LTrollBridges$Row;", Cond.fieldLink RX7 26 "TrollBridges$Ways" "areLeft" "LTrollBridges$Row;", Cond.fieldLink RX7 29 "TrollBridges$Ways" "hangers" "LTrollBridges$Row;", Cond.fieldLink RX7 32 "TrollBridges$Ways" "world" "LTrollBridges$World;", Cond.methodLink RX7 11 yX5_init, Cond.instanceMethod yX2_init, Cond.code yX2_init cX2_init 1 none, Cond.methodLink RX2 1 objectInit, Cond.classLink RX2 7 RX5]
def wsL_law0_r5 : List Cond := [Cond.fieldLink RX2 16 "TrollBridges$History" "worlds" "LTrollBridges$Row;", Cond.fieldLink RX2 20 "TrollBridges$History" "prepared" "I", Cond.fieldLink RX2 24 "TrollBridges$History" "count" "I", Cond.methodLink RX2 13 yX5_init, Cond.methodLink RX9 41 yX5_init, Cond.methodLink RX9 54 yX3_init, Cond.instanceMethod yX3_init, Cond.code yX3_init cX3_init 2 none, Cond.methodLink RX3 1 objectInit, Cond.fieldLink RX3 7 "TrollBridges$Line" "length" "I", Cond.fieldLink RX3 13 "TrollBridges$Line" "most" "I", Cond.classLink RX3 16 RX5, Cond.fieldLink RX3 21 "TrollBridges$Line" "signs" "LTrollBridges$Row;", Cond.methodLink RX3 18 yX5_init, Cond.methodLink RX9 61 yX1_init, Cond.instanceMethod yX1_init, Cond.code yX1_init cX1_init 2 none, Cond.methodLink RX1 1 objectInit, Cond.classLink RX1 7 RX5, Cond.fieldLink RX1 14 "TrollBridges$Commands" "kinds" "LTrollBridges$Row;", Cond.fieldLink RX1 18 "TrollBridges$Commands" "numbers" "LTrollBridges$Row;", Cond.fieldLink RX1 21 "TrollBridges$Commands" "count" "I", Cond.fieldLink RX1 25 "TrollBridges$Commands" "at" "I", Cond.fieldLink RX1 28 "TrollBridges$Commands" "errorAt" "I"]
def wsL_law0_r6 : List Cond := [Cond.fieldLink RX1 31 "TrollBridges$Commands" "text" "LTrollBridges$Line;", Cond.methodLink RX1 11 yX5_init, Cond.instanceMethod yX4_init, Cond.code yX4_init cX4_init 1 none, Cond.methodLink RX4 1 objectInit, Cond.fieldLink RX4 7 "TrollBridges$Refusal" "reason" "I", Cond.fieldLink RX4 13 "TrollBridges$Refusal" "detail" "I", Cond.fieldLink RX4 16 "TrollBridges$Refusal" "cause" "I", Cond.fieldLink RX4 19 "TrollBridges$Refusal" "causeDetail" "I", Cond.methodLink RL 149 yX10_init, Cond.instanceMethod yX10_init, Cond.code yX10_init cX10_init 1 none, Cond.methodLink RX10 3 objectInit, Cond.fieldLink RX10 9 "TrollBridgesModel" "s" "[I", Cond.fieldLink RX10 13 "TrollBridgesModel" "was" "[I", Cond.fieldLink RX10 16 "TrollBridgesModel" "saved" "[I", Cond.fieldLink RX10 19 "TrollBridgesModel" "past" "[I", Cond.fieldLink RX10 22 "TrollBridgesModel" "least" "[I", Cond.fieldLink RX10 25 "TrollBridgesModel" "errorAt" "I", Cond.fieldLink RX10 29 "TrollBridgesModel" "line" "[I", Cond.fieldLink RX10 32 "TrollBridgesModel" "tape" "[I", Cond.fieldLink RX10 35 "TrollBridgesModel" "commands" "[I", Cond.methodLink RL 150 yL_bridge, Cond.static yL_bridge]
def wsL_law0_r7 : List Cond := [Cond.initialized RL, Cond.codeWith yL_bridge cL_bridge 7 (some .int) [(0, 14, 17, 13), (0, 14, 21, 15), (0, 14, 25, 17)], Cond.classLink RL 13 "java/lang/IndexOutOfBoundsException", Cond.classLink RL 15 "java/lang/IllegalArgumentException", Cond.classLink RL 17 "java/lang/UnsupportedOperationException", Cond.methodLink RL 7 yX9_bridge, Cond.instanceMethod yX9_bridge, Cond.selects RX9 yX9_bridge yX9_bridge, Cond.code yX9_bridge cX9_bridge 5 (some .int), Cond.methodLink RX9 82 yX2_prepare, Cond.instanceMethod yX2_prepare, Cond.selects RX2 yX2_prepare yX2_prepare, Cond.code yX2_prepare cX2_prepare 2 none, Cond.methodLink RX2 27 yX8_storeIn, Cond.instanceMethod yX8_storeIn, Cond.selects RX8 yX8_storeIn yX8_storeIn, Cond.code yX8_storeIn cX8_storeIn 3 none, Cond.methodLink RX8 20 yX5_copy, Cond.instanceMethod yX5_copy, Cond.selects RX5 yX5_copy yX5_copy, Cond.code yX5_copy cX5_copy 7 none, Cond.methodLink RX5 19 arraycopyName, Cond.native arraycopyName, Cond.static arraycopyName]
def wsL_law0_r8 : List Cond := [Cond.initialized "java/lang/System", Cond.methodLink RX9 85 yX0_addBridge, Cond.instanceMethod yX0_addBridge, Cond.selects RX0 yX0_addBridge yX0_addBridge, Cond.code yX0_addBridge cX0_addBridge 6 (some (.object "TrollBridges$Verdict")), Cond.static yX9_isLand, Cond.code yX9_isLand cX9_isLand 1 (some .boolean), Cond.methodLink RX9 413 yX9_isWithin, Cond.static yX9_isWithin, Cond.code yX9_isWithin cX9_isWithin 3 (some .boolean), Cond.methodLink RX0 26 yX6_noSuch, Cond.instanceMethod yX6_noSuch, Cond.selects RX6 yX6_noSuch yX6_noSuch, Cond.code yX6_noSuch cX6_noSuch 1 (some (.object "TrollBridges$Verdict")), Cond.methodLink RX0 34 yX6_outOfRange, Cond.instanceMethod yX6_outOfRange, Cond.selects RX6 yX6_outOfRange yX6_outOfRange, Cond.code yX6_outOfRange cX6_outOfRange 1 (some (.object "TrollBridges$Verdict")), Cond.methodLink RX0 39 yX6_refused, Cond.instanceMethod yX6_refused, Cond.selects RX6 yX6_refused yX6_refused, Cond.code yX6_refused cX6_refused 3 (some (.object "TrollBridges$Verdict")), Cond.methodLink RX0 45 yX8_of, Cond.instanceMethod yX8_of]
def wsL_law0_r9 : List Cond := [Cond.selects RX8 yX8_of yX8_of, Cond.code yX8_of cX8_of 2 (some .int), Cond.methodLink RX8 24 yX5_at, Cond.instanceMethod yX5_at, Cond.selects RX5 yX5_at yX5_at, Cond.code yX5_at cX5_at 2 (some .int), Cond.methodLink RX0 49 yX8_set, Cond.instanceMethod yX8_set, Cond.selects RX8 yX8_set yX8_set, Cond.code yX8_set cX8_set 3 none, Cond.methodLink RX8 28 yX5_put, Cond.instanceMethod yX5_put, Cond.selects RX5 yX5_put yX5_put, Cond.code yX5_put cX5_put 3 none, Cond.methodLink RX0 53 yX8_setBridge, Cond.instanceMethod yX8_setBridge, Cond.selects RX8 yX8_setBridge yX8_setBridge, Cond.code yX8_setBridge cX8_setBridge 4 none, Cond.methodLink RX0 57 yX6_done, Cond.instanceMethod yX6_done, Cond.selects RX6 yX6_done yX6_done, Cond.code yX6_done cX6_done 2 (some (.object "TrollBridges$Verdict")), Cond.methodLink RX9 89 yX9_conclude, Cond.instanceMethod yX9_conclude]
def wsL_law0_r10 : List Cond := [Cond.selects RX9 yX9_conclude yX9_conclude, Cond.code yX9_conclude cX9_conclude 2 (some .int), Cond.classLink RX9 159 "java/lang/IndexOutOfBoundsException", Cond.initialized "java/lang/IndexOutOfBoundsException", Cond.classLink RX9 149 "java/lang/IllegalArgumentException", Cond.initialized "java/lang/IllegalArgumentException", Cond.classLink RX9 302 "java/lang/UnsupportedOperationException", Cond.initialized "java/lang/UnsupportedOperationException", Cond.methodLink RX9 392 yX4_keep, Cond.instanceMethod yX4_keep, Cond.selects RX4 yX4_keep yX4_keep, Cond.code yX4_keep cX4_keep 2 none, Cond.methodLink RX9 307 yX2_keepPrepared, Cond.instanceMethod yX2_keepPrepared, Cond.selects RX2 yX2_keepPrepared yX2_keepPrepared, Cond.code yX2_keepPrepared cX2_keepPrepared 1 none, Cond.methodLink RX2 34 Lib.Math.min.name, Cond.static Lib.Math.min.name, Cond.code Lib.Math.min.name Lib.Math.min.code 2 (some .int), Cond.methodLink RL 155 yX10_bridge, Cond.instanceMethod yX10_bridge, Cond.selects RX10 yX10_bridge yX10_bridge, Cond.code yX10_bridge cX10_bridge 5 (some .int), Cond.methodLink RX10 108 yX10_keeps]
def wsL_law0_r11 : List Cond := [Cond.instanceMethod yX10_keeps, Cond.selects RX10 yX10_keeps yX10_keeps, Cond.code yX10_keeps cX10_keeps 1 none, Cond.fieldLink RX10 38 "TrollBridgesModel" "thrown" "I", Cond.methodLink RX10 41 yX10_copies, Cond.static yX10_copies, Cond.code yX10_copies cX10_copies 5 none, Cond.methodLink RX10 111 yX10_builds, Cond.instanceMethod yX10_builds, Cond.selects RX10 yX10_builds yX10_builds, Cond.code yX10_builds cX10_builds 7 (some .int), Cond.methodLink RX10 93 yX10_isLand, Cond.static yX10_isLand, Cond.code yX10_isLand cX10_isLand 1 (some .boolean), Cond.methodLink RX10 60 yX10_isIn, Cond.static yX10_isIn, Cond.code yX10_isIn cX10_isIn 3 (some .boolean), Cond.methodLink RX10 96 yX10_isThrown, Cond.instanceMethod yX10_isThrown, Cond.selects RX10 yX10_isThrown yX10_isThrown, Cond.code yX10_isThrown cX10_isThrown 3 (some .boolean), Cond.methodLink RX10 100 yX10_isRefused, Cond.instanceMethod yX10_isRefused, Cond.selects RX10 yX10_isRefused yX10_isRefused]
def wsL_law0_r12 : List Cond := [Cond.code yX10_isRefused cX10_isRefused 4 (some .boolean), Cond.fieldLink RX10 51 "TrollBridgesModel" "reason" "I", Cond.fieldLink RX10 54 "TrollBridgesModel" "detail" "I", Cond.fieldLink RX10 57 "TrollBridgesModel" "behind" "I", Cond.methodLink RX10 104 yX10_sets, Cond.instanceMethod yX10_sets, Cond.selects RX10 yX10_sets yX10_sets, Cond.code yX10_sets cX10_sets 4 none, Cond.methodLink RX10 115 yX10_ends, Cond.instanceMethod yX10_ends, Cond.selects RX10 yX10_ends yX10_ends, Cond.code yX10_ends cX10_ends 3 (some .int), Cond.methodLink RX10 48 yX10_changed, Cond.instanceMethod yX10_changed, Cond.selects RX10 yX10_changed yX10_changed, Cond.code yX10_changed cX10_changed 2 none, Cond.fieldLink RX10 45 "TrollBridgesModel" "changes" "I", Cond.methodLink RL 156 yX10_thrown, Cond.instanceMethod yX10_thrown, Cond.selects RX10 yX10_thrown yX10_thrown, Cond.code yX10_thrown cX10_thrown 1 (some .int), Cond.methodLink RL 159 yL_troll, Cond.static yL_troll, Cond.codeWith yL_troll cL_troll 3 (some .int) [(0, 8, 11, 17)]]
def wsL_law0_r13 : List Cond := [Cond.methodLink RL 19 yX9_troll, Cond.instanceMethod yX9_troll, Cond.selects RX9 yX9_troll yX9_troll, Cond.code yX9_troll cX9_troll 1 (some .int), Cond.methodLink RX9 93 yX0_addTroll, Cond.instanceMethod yX0_addTroll, Cond.selects RX0 yX0_addTroll yX0_addTroll, Cond.code yX0_addTroll cX0_addTroll 2 (some (.object "TrollBridges$Verdict")), Cond.methodLink RX0 61 yX8_setTroll, Cond.instanceMethod yX8_setTroll, Cond.selects RX8 yX8_setTroll yX8_setTroll, Cond.code yX8_setTroll cX8_setTroll 4 none, Cond.methodLink RL 162 yX10_troll, Cond.instanceMethod yX10_troll, Cond.selects RX10 yX10_troll yX10_troll, Cond.code yX10_troll cX10_troll 1 (some .int), Cond.methodLink RX10 121 yX10_trolls, Cond.instanceMethod yX10_trolls, Cond.selects RX10 yX10_trolls yX10_trolls, Cond.code yX10_trolls cX10_trolls 1 (some .int), Cond.methodLink RX10 118 yX10_setsTroll, Cond.instanceMethod yX10_setsTroll, Cond.selects RX10 yX10_setsTroll yX10_setsTroll, Cond.code yX10_setsTroll cX10_setsTroll 4 none]
def wsL_law0_r14 : List Cond := [Cond.methodLink RL 163 yL_goat, Cond.static yL_goat, Cond.codeWith yL_goat cL_goat 5 (some .int) [(0, 10, 13, 13), (0, 10, 17, 15), (0, 10, 21, 17)], Cond.methodLink RL 23 yX9_goat, Cond.instanceMethod yX9_goat, Cond.selects RX9 yX9_goat yX9_goat, Cond.code yX9_goat cX9_goat 3 (some .int), Cond.methodLink RX9 97 yX0_addGoat, Cond.instanceMethod yX0_addGoat, Cond.selects RX0 yX0_addGoat yX0_addGoat, Cond.code yX0_addGoat cX0_addGoat 4 (some (.object "TrollBridges$Verdict")), Cond.methodLink RX0 64 yX8_setGoat, Cond.instanceMethod yX8_setGoat, Cond.selects RX8 yX8_setGoat yX8_setGoat, Cond.code yX8_setGoat cX8_setGoat 4 none, Cond.methodLink RL 166 yX10_goat, Cond.instanceMethod yX10_goat, Cond.selects RX10 yX10_goat yX10_goat, Cond.code yX10_goat cX10_goat 3 (some .int), Cond.methodLink RX10 127 yX10_goats, Cond.instanceMethod yX10_goats, Cond.selects RX10 yX10_goats yX10_goats, Cond.code yX10_goats cX10_goats 4 (some .int), Cond.methodLink RX10 124 yX10_setsGoat]
def wsL_law0_r15 : List Cond := [Cond.instanceMethod yX10_setsGoat, Cond.selects RX10 yX10_setsGoat yX10_setsGoat, Cond.code yX10_setsGoat cX10_setsGoat 4 none, Cond.methodLink RL 167 yL_post, Cond.static yL_post, Cond.codeWith yL_post cL_post 5 (some .int) [(0, 10, 13, 13), (0, 10, 17, 17)], Cond.methodLink RL 27 yX9_post, Cond.instanceMethod yX9_post, Cond.selects RX9 yX9_post yX9_post, Cond.code yX9_post cX9_post 3 (some .int), Cond.methodLink RX9 101 yX0_postTroll, Cond.instanceMethod yX0_postTroll, Cond.selects RX0 yX0_postTroll yX0_postTroll, Cond.code yX0_postTroll cX0_postTroll 4 (some (.object "TrollBridges$Verdict")), Cond.methodLink RX0 67 yX8_isTroll, Cond.instanceMethod yX8_isTroll, Cond.selects RX8 yX8_isTroll yX8_isTroll, Cond.code yX8_isTroll cX8_isTroll 2 (some .boolean), Cond.methodLink RX8 32 yX8_of, Cond.methodLink RX0 70 yX8_isBridge, Cond.instanceMethod yX8_isBridge, Cond.selects RX8 yX8_isBridge yX8_isBridge, Cond.code yX8_isBridge cX8_isBridge 2 (some .boolean), Cond.methodLink RX0 73 yX8_ofTroll]
def wsL_law0_r16 : List Cond := [Cond.instanceMethod yX8_ofTroll, Cond.selects RX8 yX8_ofTroll yX8_ofTroll, Cond.code yX8_ofTroll cX8_ofTroll 3 (some .int), Cond.methodLink RX0 77 yX8_isDisputed, Cond.instanceMethod yX8_isDisputed, Cond.selects RX8 yX8_isDisputed yX8_isDisputed, Cond.code yX8_isDisputed cX8_isDisputed 2 (some .boolean), Cond.methodLink RX8 35 yX8_ofBridge, Cond.instanceMethod yX8_ofBridge, Cond.selects RX8 yX8_ofBridge yX8_ofBridge, Cond.code yX8_ofBridge cX8_ofBridge 3 (some .int), Cond.methodLink RX0 80 yX8_ofBridge, Cond.methodLink RX0 83 yX8_isCounted, Cond.instanceMethod yX8_isCounted, Cond.selects RX8 yX8_isCounted yX8_isCounted, Cond.code yX8_isCounted cX8_isCounted 2 (some .boolean), Cond.methodLink RL 169 yX10_post, Cond.instanceMethod yX10_post, Cond.selects RX10 yX10_post yX10_post, Cond.code yX10_post cX10_post 3 (some .int), Cond.methodLink RX10 139 yX10_posts, Cond.instanceMethod yX10_posts, Cond.selects RX10 yX10_posts yX10_posts, Cond.code yX10_posts cX10_posts 5 (some .int)]
def wsL_law0_r17 : List Cond := [Cond.methodLink RX10 130 yX10_isTroll, Cond.instanceMethod yX10_isTroll, Cond.selects RX10 yX10_isTroll yX10_isTroll, Cond.code yX10_isTroll cX10_isTroll 2 (some .boolean), Cond.methodLink RX10 133 yX10_isBridge, Cond.instanceMethod yX10_isBridge, Cond.selects RX10 yX10_isBridge yX10_isBridge, Cond.code yX10_isBridge cX10_isBridge 2 (some .boolean), Cond.methodLink RX10 64 yX10_ofTroll, Cond.instanceMethod yX10_ofTroll, Cond.selects RX10 yX10_ofTroll yX10_ofTroll, Cond.code yX10_ofTroll cX10_ofTroll 3 (some .int), Cond.methodLink RX10 136 yX10_isDisputed, Cond.instanceMethod yX10_isDisputed, Cond.selects RX10 yX10_isDisputed yX10_isDisputed, Cond.code yX10_isDisputed cX10_isDisputed 2 (some .boolean), Cond.methodLink RX10 68 yX10_of, Cond.instanceMethod yX10_of, Cond.selects RX10 yX10_of yX10_of, Cond.code yX10_of cX10_of 3 (some .int), Cond.methodLink RX10 78 yX10_trollAt, Cond.instanceMethod yX10_trollAt, Cond.selects RX10 yX10_trollAt yX10_trollAt, Cond.code yX10_trollAt cX10_trollAt 3 (some .int)]
def wsL_law0_r18 : List Cond := [Cond.methodLink RL 170 yL_leave, Cond.static yL_leave, Cond.codeWith yL_leave cL_leave 4 (some .int) [(0, 9, 12, 13), (0, 9, 15, 17)], Cond.methodLink RL 30 yX9_leave, Cond.instanceMethod yX9_leave, Cond.selects RX9 yX9_leave yX9_leave, Cond.code yX9_leave cX9_leave 2 (some .int), Cond.methodLink RX9 104 yX0_leaveBridge, Cond.instanceMethod yX0_leaveBridge, Cond.selects RX0 yX0_leaveBridge yX0_leaveBridge, Cond.code yX0_leaveBridge cX0_leaveBridge 3 (some (.object "TrollBridges$Verdict")), Cond.methodLink RL 173 yX10_leave, Cond.instanceMethod yX10_leave, Cond.selects RX10 yX10_leave yX10_leave, Cond.code yX10_leave cX10_leave 2 (some .int), Cond.methodLink RX10 142 yX10_leaves, Cond.instanceMethod yX10_leaves, Cond.selects RX10 yX10_leaves yX10_leaves, Cond.code yX10_leaves cX10_leaves 3 (some .int), Cond.methodLink RL 174 yL_riddle, Cond.static yL_riddle, Cond.codeWith yL_riddle cL_riddle 6 (some .int) [(0, 12, 15, 13), (0, 12, 19, 15), (0, 12, 23, 17)], Cond.methodLink RL 34 yX9_riddle, Cond.instanceMethod yX9_riddle]
def wsL_law0_r19 : List Cond := [Cond.selects RX9 yX9_riddle yX9_riddle, Cond.code yX9_riddle cX9_riddle 4 (some .int), Cond.methodLink RX9 108 yX0_giveRiddle, Cond.instanceMethod yX0_giveRiddle, Cond.selects RX0 yX0_giveRiddle yX0_giveRiddle, Cond.code yX0_giveRiddle cX0_giveRiddle 6 (some (.object "TrollBridges$Verdict")), Cond.methodLink RX0 86 yX8_riddleHours, Cond.instanceMethod yX8_riddleHours, Cond.selects RX8 yX8_riddleHours yX8_riddleHours, Cond.code yX8_riddleHours cX8_riddleHours 2 (some .int), Cond.methodLink RX8 39 Lib.Math.max.name, Cond.methodLink RL 177 yX10_riddle, Cond.instanceMethod yX10_riddle, Cond.selects RX10 yX10_riddle yX10_riddle, Cond.code yX10_riddle cX10_riddle 4 (some .int), Cond.methodLink RX10 145 yX10_riddles, Cond.instanceMethod yX10_riddles, Cond.selects RX10 yX10_riddles yX10_riddles, Cond.code yX10_riddles cX10_riddles 4 (some .int), Cond.methodLink RX10 90 yX10_holds, Cond.instanceMethod yX10_holds, Cond.selects RX10 yX10_holds yX10_holds, Cond.code yX10_holds cX10_holds 2 (some .boolean), Cond.methodLink RL 178 yL_fog]
def wsL_law0_r20 : List Cond := [Cond.static yL_fog, Cond.codeWith yL_fog cL_fog 5 (some .int) [(0, 10, 13, 13), (0, 10, 17, 15), (0, 10, 21, 17)], Cond.methodLink RL 38 yX9_fog, Cond.instanceMethod yX9_fog, Cond.selects RX9 yX9_fog yX9_fog, Cond.code yX9_fog cX9_fog 3 (some .int), Cond.methodLink RX9 112 yX0_layFog, Cond.instanceMethod yX0_layFog, Cond.selects RX0 yX0_layFog yX0_layFog, Cond.code yX0_layFog cX0_layFog 5 (some (.object "TrollBridges$Verdict")), Cond.methodLink RX0 89 yX8_isInFog, Cond.instanceMethod yX8_isInFog, Cond.selects RX8 yX8_isInFog yX8_isInFog, Cond.code yX8_isInFog cX8_isInFog 2 (some .boolean), Cond.methodLink RL 180 yX10_fog, Cond.instanceMethod yX10_fog, Cond.selects RX10 yX10_fog yX10_fog, Cond.code yX10_fog cX10_fog 3 (some .int), Cond.methodLink RX10 149 yX10_fogs, Cond.instanceMethod yX10_fogs, Cond.selects RX10 yX10_fogs yX10_fogs, Cond.code yX10_fogs cX10_fogs 3 (some .int), Cond.methodLink RX10 86 yX10_isInFog, Cond.instanceMethod yX10_isInFog]
def wsL_law0_r21 : List Cond := [Cond.selects RX10 yX10_isInFog yX10_isInFog, Cond.code yX10_isInFog cX10_isInFog 2 (some .boolean), Cond.methodLink RL 181 yL_price, Cond.static yL_price, Cond.codeWith yL_price cL_price 5 (some .int) [(0, 10, 13, 13), (0, 10, 17, 15), (0, 10, 21, 17)], Cond.methodLink RL 41 yX9_price, Cond.instanceMethod yX9_price, Cond.selects RX9 yX9_price yX9_price, Cond.code yX9_price cX9_price 3 (some .int), Cond.methodLink RX9 115 yX0_changeToll, Cond.instanceMethod yX0_changeToll, Cond.selects RX0 yX0_changeToll yX0_changeToll, Cond.code yX0_changeToll cX0_changeToll 4 (some (.object "TrollBridges$Verdict")), Cond.methodLink RL 183 yX10_price, Cond.instanceMethod yX10_price, Cond.selects RX10 yX10_price yX10_price, Cond.code yX10_price cX10_price 3 (some .int), Cond.methodLink RX10 152 yX10_prices, Cond.instanceMethod yX10_prices, Cond.selects RX10 yX10_prices yX10_prices, Cond.code yX10_prices cX10_prices 4 (some .int), Cond.methodLink RL 184 yL_cross, Cond.static yL_cross, Cond.codeWith yL_cross cL_cross 5 (some .int) [(0, 10, 13, 13), (0, 10, 17, 17)]]
def wsL_law0_r22 : List Cond := [Cond.methodLink RL 44 yX9_cross, Cond.instanceMethod yX9_cross, Cond.selects RX9 yX9_cross yX9_cross, Cond.code yX9_cross cX9_cross 3 (some .int), Cond.methodLink RX9 118 yX0_crossBridge, Cond.instanceMethod yX0_crossBridge, Cond.selects RX0 yX0_crossBridge yX0_crossBridge, Cond.code yX0_crossBridge cX0_crossBridge 8 (some (.object "TrollBridges$Verdict")), Cond.methodLink RX0 92 yX8_isGoat, Cond.instanceMethod yX8_isGoat, Cond.selects RX8 yX8_isGoat yX8_isGoat, Cond.code yX8_isGoat cX8_isGoat 2 (some .boolean), Cond.methodLink RX0 95 yX8_ofGoat, Cond.instanceMethod yX8_ofGoat, Cond.selects RX8 yX8_ofGoat yX8_ofGoat, Cond.code yX8_ofGoat cX8_ofGoat 3 (some .int), Cond.methodLink RX0 98 yX8_across, Cond.instanceMethod yX8_across, Cond.selects RX8 yX8_across yX8_across, Cond.code yX8_across cX8_across 3 (some .int), Cond.methodLink RX0 101 yX8_tollDue, Cond.instanceMethod yX8_tollDue, Cond.selects RX8 yX8_tollDue yX8_tollDue, Cond.code yX8_tollDue cX8_tollDue 2 (some .int)]
def wsL_law0_r23 : List Cond := [Cond.methodLink RX8 53 yX8_isCounted, Cond.methodLink RX8 57 yX8_isGeneralStrike, Cond.instanceMethod yX8_isGeneralStrike, Cond.selects RX8 yX8_isGeneralStrike yX8_isGeneralStrike, Cond.code yX8_isGeneralStrike cX8_isGeneralStrike 2 (some .boolean), Cond.methodLink RX8 50 yX8_sumOfGoats, Cond.instanceMethod yX8_sumOfGoats, Cond.selects RX8 yX8_sumOfGoats yX8_sumOfGoats, Cond.code yX8_sumOfGoats cX8_sumOfGoats 4 (some .int), Cond.methodLink RX0 104 yX0_payToll, Cond.instanceMethod yX0_payToll, Cond.selects RX0 yX0_payToll yX0_payToll, Cond.code yX0_payToll cX0_payToll 4 none, Cond.methodLink RX0 110 yX0_addToGoat, Cond.instanceMethod yX0_addToGoat, Cond.selects RX0 yX0_addToGoat yX0_addToGoat, Cond.code yX0_addToGoat cX0_addToGoat 4 none, Cond.methodLink RX0 113 yX0_addToBridge, Cond.instanceMethod yX0_addToBridge, Cond.selects RX0 yX0_addToBridge yX0_addToBridge, Cond.code yX0_addToBridge cX0_addToBridge 4 none, Cond.methodLink RX0 116 yX0_addToTroll, Cond.instanceMethod yX0_addToTroll, Cond.selects RX0 yX0_addToTroll yX0_addToTroll]
def wsL_law0_r24 : List Cond := [Cond.code yX0_addToTroll cX0_addToTroll 4 none, Cond.methodLink RX0 107 yX8_hoursOver, Cond.instanceMethod yX8_hoursOver, Cond.selects RX8 yX8_hoursOver yX8_hoursOver, Cond.code yX8_hoursOver cX8_hoursOver 4 (some .int), Cond.methodLink RX8 61 yX8_isInFog, Cond.methodLink RX8 64 yX8_difficultyNow, Cond.instanceMethod yX8_difficultyNow, Cond.selects RX8 yX8_difficultyNow yX8_difficultyNow, Cond.code yX8_difficultyNow cX8_difficultyNow 2 (some .int), Cond.methodLink RX8 44 yX8_riddleHours, Cond.methodLink RX8 47 yX8_ofTroll, Cond.methodLink RL 186 yX10_cross, Cond.instanceMethod yX10_cross, Cond.selects RX10 yX10_cross yX10_cross, Cond.code yX10_cross cX10_cross 3 (some .int), Cond.methodLink RX10 167 yX10_crosses, Cond.instanceMethod yX10_crosses, Cond.selects RX10 yX10_crosses yX10_crosses, Cond.code yX10_crosses cX10_crosses 6 (some .int), Cond.methodLink RX10 155 yX10_isGoat, Cond.instanceMethod yX10_isGoat, Cond.selects RX10 yX10_isGoat yX10_isGoat, Cond.code yX10_isGoat cX10_isGoat 2 (some .boolean)]
def wsL_law0_r25 : List Cond := [Cond.methodLink RX10 71 yX10_ofGoat, Cond.instanceMethod yX10_ofGoat, Cond.selects RX10 yX10_ofGoat yX10_ofGoat, Cond.code yX10_ofGoat cX10_ofGoat 3 (some .int), Cond.methodLink RX10 158 yX10_dueAt, Cond.instanceMethod yX10_dueAt, Cond.selects RX10 yX10_dueAt yX10_dueAt, Cond.code yX10_dueAt cX10_dueAt 2 (some .int), Cond.methodLink RX10 82 yX10_isGeneralNow, Cond.instanceMethod yX10_isGeneralNow, Cond.selects RX10 yX10_isGeneralNow yX10_isGeneralNow, Cond.code yX10_isGeneralNow cX10_isGeneralNow 1 (some .boolean), Cond.methodLink RX10 74 yX10_strikers, Cond.instanceMethod yX10_strikers, Cond.selects RX10 yX10_strikers yX10_strikers, Cond.code yX10_strikers cX10_strikers 3 (some .int), Cond.methodLink RX10 161 yX10_takesAt, Cond.instanceMethod yX10_takesAt, Cond.selects RX10 yX10_takesAt yX10_takesAt, Cond.code yX10_takesAt cX10_takesAt 4 (some .int), Cond.methodLink RX10 164 yX10_pays, Cond.instanceMethod yX10_pays, Cond.selects RX10 yX10_pays yX10_pays, Cond.code yX10_pays cX10_pays 5 none]
def wsL_law0_r26 : List Cond := [Cond.methodLink RL 187 yL_dispute, Cond.static yL_dispute, Cond.codeWith yL_dispute cL_dispute 5 (some .int) [(0, 10, 13, 13), (0, 10, 17, 17)], Cond.methodLink RL 47 yX9_dispute, Cond.instanceMethod yX9_dispute, Cond.selects RX9 yX9_dispute yX9_dispute, Cond.code yX9_dispute cX9_dispute 3 (some .int), Cond.methodLink RX9 121 yX0_disputeToll, Cond.instanceMethod yX0_disputeToll, Cond.selects RX0 yX0_disputeToll yX0_disputeToll, Cond.code yX0_disputeToll cX0_disputeToll 3 (some (.object "TrollBridges$Verdict")), Cond.methodLink RX0 119 yX8_countDisputes, Cond.instanceMethod yX8_countDisputes, Cond.selects RX8 yX8_countDisputes yX8_countDisputes, Cond.code yX8_countDisputes cX8_countDisputes 3 (some .int), Cond.methodLink RX8 70 yX8_isDisputed, Cond.methodLink RL 189 yX10_dispute, Cond.instanceMethod yX10_dispute, Cond.selects RX10 yX10_dispute yX10_dispute, Cond.code yX10_dispute cX10_dispute 3 (some .int), Cond.methodLink RX10 173 yX10_disputesAt, Cond.instanceMethod yX10_disputesAt, Cond.selects RX10 yX10_disputesAt yX10_disputesAt, Cond.code yX10_disputesAt cX10_disputesAt 3 (some .int)]
def wsL_law0_r27 : List Cond := [Cond.methodLink RX10 170 yX10_disputes, Cond.instanceMethod yX10_disputes, Cond.selects RX10 yX10_disputes yX10_disputes, Cond.code yX10_disputes cX10_disputes 3 (some .int), Cond.methodLink RL 190 yL_settle, Cond.static yL_settle, Cond.codeWith yL_settle cL_settle 5 (some .int) [(0, 10, 13, 13), (0, 10, 17, 17)], Cond.methodLink RL 50 yX9_settle, Cond.instanceMethod yX9_settle, Cond.selects RX9 yX9_settle yX9_settle, Cond.code yX9_settle cX9_settle 3 (some .int), Cond.methodLink RX9 124 yX0_settleDispute, Cond.instanceMethod yX0_settleDispute, Cond.selects RX0 yX0_settleDispute yX0_settleDispute, Cond.code yX0_settleDispute cX0_settleDispute 4 (some (.object "TrollBridges$Verdict")), Cond.methodLink RX0 123 yX8_coinsInChest, Cond.instanceMethod yX8_coinsInChest, Cond.selects RX8 yX8_coinsInChest yX8_coinsInChest, Cond.code yX8_coinsInChest cX8_coinsInChest 4 (some .int), Cond.methodLink RX0 126 yX0_emptyChest, Cond.instanceMethod yX0_emptyChest, Cond.selects RX0 yX0_emptyChest yX0_emptyChest, Cond.code yX0_emptyChest cX0_emptyChest 4 none, Cond.methodLink RL 193 yX10_settle]
def wsL_law0_r28 : List Cond := [Cond.instanceMethod yX10_settle, Cond.selects RX10 yX10_settle yX10_settle, Cond.code yX10_settle cX10_settle 3 (some .int), Cond.methodLink RX10 179 yX10_settles, Cond.instanceMethod yX10_settles, Cond.selects RX10 yX10_settles yX10_settles, Cond.code yX10_settles cX10_settles 5 (some .int), Cond.methodLink RX10 176 yX10_chest, Cond.instanceMethod yX10_chest, Cond.selects RX10 yX10_chest yX10_chest, Cond.code yX10_chest cX10_chest 4 (some .int), Cond.methodLink RL 194 yL_strike, Cond.static yL_strike, Cond.codeWith yL_strike cL_strike 5 (some .int) [(0, 10, 13, 13), (0, 10, 17, 17)], Cond.methodLink RL 54 yX9_strike, Cond.instanceMethod yX9_strike, Cond.selects RX9 yX9_strike yX9_strike, Cond.code yX9_strike cX9_strike 3 (some .int), Cond.methodLink RX9 128 yX0_changeStrike, Cond.instanceMethod yX0_changeStrike, Cond.selects RX0 yX0_changeStrike yX0_changeStrike, Cond.code yX0_changeStrike cX0_changeStrike 4 (some (.object "TrollBridges$Verdict")), Cond.methodLink RX0 130 yX8_sumOfGoats, Cond.methodLink RL 196 yX10_strike]
def wsL_law0_r29 : List Cond := [Cond.instanceMethod yX10_strike, Cond.selects RX10 yX10_strike yX10_strike, Cond.code yX10_strike cX10_strike 3 (some .int), Cond.methodLink RX10 182 yX10_strikes, Cond.instanceMethod yX10_strikes, Cond.selects RX10 yX10_strikes yX10_strikes, Cond.code yX10_strikes cX10_strikes 3 (some .int), Cond.methodLink RL 197 yL_pass, Cond.static yL_pass, Cond.codeWith yL_pass cL_pass 4 (some .int) [(0, 9, 12, 15)], Cond.methodLink RL 57 yX9_pass, Cond.instanceMethod yX9_pass, Cond.selects RX9 yX9_pass yX9_pass, Cond.code yX9_pass cX9_pass 2 (some .int), Cond.methodLink RX9 131 yX0_passHours, Cond.instanceMethod yX0_passHours, Cond.selects RX0 yX0_passHours yX0_passHours, Cond.code yX0_passHours cX0_passHours 3 (some (.object "TrollBridges$Verdict")), Cond.methodLink RX0 133 yX8_countRiddles, Cond.instanceMethod yX8_countRiddles, Cond.selects RX8 yX8_countRiddles yX8_countRiddles, Cond.code yX8_countRiddles cX8_countRiddles 4 (some .int), Cond.methodLink RL 199 yX10_pass, Cond.instanceMethod yX10_pass]
def wsL_law0_r30 : List Cond := [Cond.selects RX10 yX10_pass yX10_pass, Cond.code yX10_pass cX10_pass 2 (some .int), Cond.methodLink RX10 188 yX10_passes, Cond.instanceMethod yX10_passes, Cond.selects RX10 yX10_passes yX10_passes, Cond.code yX10_passes cX10_passes 3 (some .int), Cond.methodLink RX10 185 yX10_holding, Cond.instanceMethod yX10_holding, Cond.selects RX10 yX10_holding yX10_holding, Cond.code yX10_holding cX10_holding 3 (some .int), Cond.methodLink RL 200 yL_bridgeOf, Cond.static yL_bridgeOf, Cond.codeWith yL_bridgeOf cL_bridgeOf 5 (some .int) [(0, 10, 13, 13), (0, 10, 17, 15)], Cond.methodLink RL 60 yX9_bridgeOf, Cond.instanceMethod yX9_bridgeOf, Cond.selects RX9 yX9_bridgeOf yX9_bridgeOf, Cond.code yX9_bridgeOf cX9_bridgeOf 3 (some .int), Cond.methodLink RX9 134 yX9_needBridge, Cond.instanceMethod yX9_needBridge, Cond.selects RX9 yX9_needBridge yX9_needBridge, Cond.code yX9_needBridge cX9_needBridge 2 none, Cond.methodLink RX9 401 yX8_isBridge, Cond.methodLink RX9 137 yX8_ofBridge, Cond.methodLink RX9 141 yX8_isInFog]
def wsL_law0_r31 : List Cond := [Cond.methodLink RX9 145 yX8_coinsInChest, Cond.methodLink RL 202 yX10_bridgeOf, Cond.instanceMethod yX10_bridgeOf, Cond.selects RX10 yX10_bridgeOf yX10_bridgeOf, Cond.code yX10_bridgeOf cX10_bridgeOf 3 (some .int), Cond.methodLink RL 203 yL_trollOf, Cond.static yL_trollOf, Cond.codeWith yL_trollOf cL_trollOf 5 (some .int) [(0, 10, 13, 13), (0, 10, 17, 15)], Cond.methodLink RL 63 yX9_trollOf, Cond.instanceMethod yX9_trollOf, Cond.selects RX9 yX9_trollOf yX9_trollOf, Cond.code yX9_trollOf cX9_trollOf 3 (some .int), Cond.methodLink RX9 156 yX8_isTroll, Cond.methodLink RX9 164 yX8_ofTroll, Cond.methodLink RX9 167 yX8_difficultyNow, Cond.methodLink RX9 170 yX8_riddleHours, Cond.methodLink RL 205 yX10_trollOf, Cond.instanceMethod yX10_trollOf, Cond.selects RX10 yX10_trollOf yX10_trollOf, Cond.code yX10_trollOf cX10_trollOf 3 (some .int), Cond.methodLink RL 206 yL_goatOf, Cond.static yL_goatOf, Cond.codeWith yL_goatOf cL_goatOf 5 (some .int) [(0, 10, 13, 13), (0, 10, 17, 15)], Cond.methodLink RL 66 yX9_goatOf]
def wsL_law0_r32 : List Cond := [Cond.instanceMethod yX9_goatOf, Cond.selects RX9 yX9_goatOf yX9_goatOf, Cond.code yX9_goatOf cX9_goatOf 3 (some .int), Cond.methodLink RX9 175 yX8_isGoat, Cond.methodLink RX9 180 yX8_ofGoat, Cond.methodLink RX9 183 yX8_coinsInChestsOf, Cond.instanceMethod yX8_coinsInChestsOf, Cond.selects RX8 yX8_coinsInChestsOf yX8_coinsInChestsOf, Cond.code yX8_coinsInChestsOf cX8_coinsInChestsOf 4 (some .int), Cond.methodLink RL 208 yX10_goatOf, Cond.instanceMethod yX10_goatOf, Cond.selects RX10 yX10_goatOf yX10_goatOf, Cond.code yX10_goatOf cX10_goatOf 3 (some .int), Cond.methodLink RX10 191 yX10_inChests, Cond.instanceMethod yX10_inChests, Cond.selects RX10 yX10_inChests yX10_inChests, Cond.code yX10_inChests cX10_inChests 4 (some .int), Cond.methodLink RL 209 yL_due, Cond.static yL_due, Cond.codeWith yL_due cL_due 4 (some .int) [(0, 9, 12, 13)], Cond.methodLink RL 69 yX9_due, Cond.instanceMethod yX9_due, Cond.selects RX9 yX9_due yX9_due, Cond.code yX9_due cX9_due 2 (some .int)]
def wsL_law0_r33 : List Cond := [Cond.methodLink RX9 188 yX8_tollDue, Cond.methodLink RL 211 yX10_due, Cond.instanceMethod yX10_due, Cond.selects RX10 yX10_due yX10_due, Cond.code yX10_due cX10_due 2 (some .int), Cond.methodLink RL 212 yL_takes, Cond.static yL_takes, Cond.codeWith yL_takes cL_takes 4 (some .int) [(0, 9, 12, 13)], Cond.methodLink RL 72 yX9_takes, Cond.instanceMethod yX9_takes, Cond.selects RX9 yX9_takes yX9_takes, Cond.code yX9_takes cX9_takes 2 (some .int), Cond.methodLink RX9 191 yX8_hoursOver, Cond.methodLink RL 214 yX10_takes, Cond.instanceMethod yX10_takes, Cond.selects RX10 yX10_takes yX10_takes, Cond.code yX10_takes cX10_takes 2 (some .int), Cond.methodLink RL 215 yL_cheapest, Cond.static yL_cheapest, Cond.codeWith yL_cheapest cL_cheapest 5 (some .int) [(0, 10, 13, 13), (0, 10, 17, 78)], Cond.classLink RL 78 "java/util/NoSuchElementException", Cond.methodLink RL 75 yX9_cheapest, Cond.instanceMethod yX9_cheapest, Cond.selects RX9 yX9_cheapest yX9_cheapest]
def wsL_law0_r34 : List Cond := [Cond.code yX9_cheapest cX9_cheapest 3 (some .int), Cond.methodLink RX9 194 yX9_needLand, Cond.static yX9_needLand, Cond.code yX9_needLand cX9_needLand 1 none, Cond.methodLink RX9 406 yX9_isLand, Cond.methodLink RX9 197 yX7_measure, Cond.instanceMethod yX7_measure, Cond.selects RX7 yX7_measure yX7_measure, Cond.code yX7_measure cX7_measure 3 none, Cond.methodLink RX7 38 yX8_of, Cond.methodLink RX7 42 yX8_hoursOver, Cond.methodLink RX7 45 yX8_tollDue, Cond.methodLink RX7 48 yX5_put, Cond.methodLink RX9 201 yX7_landByLand, Cond.instanceMethod yX7_landByLand, Cond.selects RX7 yX7_landByLand yX7_landByLand, Cond.code yX7_landByLand cX7_landByLand 3 (some .int), Cond.methodLink RX7 52 yX7_reachByLands, Cond.instanceMethod yX7_reachByLands, Cond.selects RX7 yX7_reachByLands yX7_reachByLands, Cond.code yX7_reachByLands cX7_reachByLands 5 none, Cond.methodLink RX7 65 yX5_fill, Cond.instanceMethod yX5_fill, Cond.selects RX5 yX5_fill yX5_fill]
def wsL_law0_r35 : List Cond := [Cond.code yX5_fill cX5_fill 3 none, Cond.methodLink RX7 68 yX7_nearestToLeave, Cond.instanceMethod yX7_nearestToLeave, Cond.selects RX7 yX7_nearestToLeave yX7_nearestToLeave, Cond.code yX7_nearestToLeave cX7_nearestToLeave 4 (some .int), Cond.methodLink RX7 55 yX5_at, Cond.methodLink RX7 72 yX8_across, Cond.methodLink RX7 76 yX7_shorten, Cond.static yX7_shorten, Cond.code yX7_shorten cX7_shorten 5 (some .boolean), Cond.methodLink RX9 204 yX9_needWay, Cond.static yX9_needWay, Cond.code yX9_needWay cX9_needWay 1 (some .int), Cond.classLink RX9 234 "java/util/NoSuchElementException", Cond.initialized "java/util/NoSuchElementException", Cond.methodLink RL 217 yX10_cheapest, Cond.instanceMethod yX10_cheapest, Cond.selects RX10 yX10_cheapest yX10_cheapest, Cond.code yX10_cheapest cX10_cheapest 3 (some .int), Cond.methodLink RX10 201 yX10_way, Cond.instanceMethod yX10_way, Cond.selects RX10 yX10_way yX10_way, Cond.code yX10_way cX10_way 4 (some .int), Cond.methodLink RX10 197 yX10_goesFrom]
def wsL_law0_r36 : List Cond := [Cond.instanceMethod yX10_goesFrom, Cond.selects RX10 yX10_goesFrom yX10_goesFrom, Cond.code yX10_goesFrom cX10_goesFrom 8 none, Cond.methodLink RX10 194 yX10_isLower, Cond.instanceMethod yX10_isLower, Cond.selects RX10 yX10_isLower yX10_isLower, Cond.code yX10_isLower cX10_isLower 5 (some .boolean), Cond.methodLink RL 218 yL_cheapestAgain, Cond.static yL_cheapestAgain, Cond.codeWith yL_cheapestAgain cL_cheapestAgain 5 (some .int) [(0, 10, 13, 13), (0, 10, 17, 78)], Cond.methodLink RL 80 yX9_cheapestAgain, Cond.instanceMethod yX9_cheapestAgain, Cond.selects RX9 yX9_cheapestAgain yX9_cheapestAgain, Cond.code yX9_cheapestAgain cX9_cheapestAgain 3 (some .int), Cond.methodLink RX9 207 yX7_bridgeByBridge, Cond.instanceMethod yX7_bridgeByBridge, Cond.selects RX7 yX7_bridgeByBridge yX7_bridgeByBridge, Cond.code yX7_bridgeByBridge cX7_bridgeByBridge 3 (some .int), Cond.methodLink RX7 58 yX7_reachByBridges, Cond.instanceMethod yX7_reachByBridges, Cond.selects RX7 yX7_reachByBridges yX7_reachByBridges, Cond.code yX7_reachByBridges cX7_reachByBridges 9 none, Cond.methodLink RX7 80 yX8_ofBridge, Cond.methodLink RL 220 yX10_cheapestAgain]
def wsL_law0_r37 : List Cond := [Cond.instanceMethod yX10_cheapestAgain, Cond.selects RX10 yX10_cheapestAgain yX10_cheapestAgain, Cond.code yX10_cheapestAgain cX10_cheapestAgain 3 (some .int), Cond.methodLink RL 221 yL_fastest, Cond.static yL_fastest, Cond.codeWith yL_fastest cL_fastest 5 (some .int) [(0, 10, 13, 13), (0, 10, 17, 78)], Cond.methodLink RL 83 yX9_fastest, Cond.instanceMethod yX9_fastest, Cond.selects RX9 yX9_fastest yX9_fastest, Cond.code yX9_fastest cX9_fastest 3 (some .int), Cond.methodLink RL 223 yX10_fastest, Cond.instanceMethod yX10_fastest, Cond.selects RX10 yX10_fastest yX10_fastest, Cond.code yX10_fastest cX10_fastest 3 (some .int), Cond.methodLink RL 224 yL_fastestAgain, Cond.static yL_fastestAgain, Cond.codeWith yL_fastestAgain cL_fastestAgain 5 (some .int) [(0, 10, 13, 13), (0, 10, 17, 78)], Cond.methodLink RL 86 yX9_fastestAgain, Cond.instanceMethod yX9_fastestAgain, Cond.selects RX9 yX9_fastestAgain yX9_fastestAgain, Cond.code yX9_fastestAgain cX9_fastestAgain 3 (some .int), Cond.methodLink RL 226 yX10_fastestAgain, Cond.instanceMethod yX10_fastestAgain, Cond.selects RX10 yX10_fastestAgain yX10_fastestAgain]
def wsL_law0_r38 : List Cond := [Cond.code yX10_fastestAgain cX10_fastestAgain 3 (some .int), Cond.methodLink RL 227 yL_hangs, Cond.static yL_hangs, Cond.codeWith yL_hangs cL_hangs 5 (some .int) [(0, 10, 13, 13), (0, 10, 17, 78)], Cond.methodLink RL 89 yX9_hangs, Cond.instanceMethod yX9_hangs, Cond.selects RX9 yX9_hangs yX9_hangs, Cond.code yX9_hangs cX9_hangs 3 (some .int), Cond.methodLink RX9 210 yX7_hanger, Cond.instanceMethod yX7_hanger, Cond.selects RX7 yX7_hanger yX7_hanger, Cond.code yX7_hanger cX7_hanger 3 (some .int), Cond.methodLink RX7 83 yX7_leadsFastest, Cond.instanceMethod yX7_leadsFastest, Cond.selects RX7 yX7_leadsFastest yX7_leadsFastest, Cond.code yX7_leadsFastest cX7_leadsFastest 5 (some .boolean), Cond.methodLink RL 229 yX10_hangs, Cond.instanceMethod yX10_hangs, Cond.selects RX10 yX10_hangs yX10_hangs, Cond.code yX10_hangs cX10_hangs 3 (some .int), Cond.methodLink RX10 208 yX10_hangsOn, Cond.instanceMethod yX10_hangsOn, Cond.selects RX10 yX10_hangsOn yX10_hangsOn, Cond.code yX10_hangsOn cX10_hangsOn 6 (some .int)]
def wsL_law0_r39 : List Cond := [Cond.methodLink RX10 205 yX10_lesser, Cond.static yX10_lesser, Cond.code yX10_lesser cX10_lesser 2 (some .int), Cond.methodLink RL 230 yX9_sum, Cond.instanceMethod yX9_sum, Cond.selects RX9 yX9_sum yX9_sum, Cond.code yX9_sum cX9_sum 2 (some .int), Cond.methodLink RX9 213 yX8_sumOfTolls, Cond.instanceMethod yX8_sumOfTolls, Cond.selects RX8 yX8_sumOfTolls yX8_sumOfTolls, Cond.code yX8_sumOfTolls cX8_sumOfTolls 4 (some .int), Cond.methodLink RL 234 yX10_sum, Cond.instanceMethod yX10_sum, Cond.selects RX10 yX10_sum yX10_sum, Cond.code yX10_sum cX10_sum 4 (some .int), Cond.methodLink RL 235 yX9_counted, Cond.instanceMethod yX9_counted, Cond.selects RX9 yX9_counted yX9_counted, Cond.code yX9_counted cX9_counted 1 (some .int), Cond.methodLink RX9 217 yX8_countTrollsPosted, Cond.instanceMethod yX8_countTrollsPosted, Cond.selects RX8 yX8_countTrollsPosted yX8_countTrollsPosted, Cond.code yX8_countTrollsPosted cX8_countTrollsPosted 3 (some .int), Cond.methodLink RL 238 yX10_counted]
def wsL_law0_r40 : List Cond := [Cond.instanceMethod yX10_counted, Cond.selects RX10 yX10_counted yX10_counted, Cond.code yX10_counted cX10_counted 3 (some .int), Cond.methodLink RL 239 yX9_countedAgain, Cond.instanceMethod yX9_countedAgain, Cond.selects RX9 yX9_countedAgain yX9_countedAgain, Cond.code yX9_countedAgain cX9_countedAgain 1 (some .int), Cond.methodLink RX9 221 yX8_countBridgesCounted, Cond.instanceMethod yX8_countBridgesCounted, Cond.selects RX8 yX8_countBridgesCounted yX8_countBridgesCounted, Cond.code yX8_countBridgesCounted cX8_countBridgesCounted 3 (some .int), Cond.methodLink RL 242 yX10_countedAgain, Cond.instanceMethod yX10_countedAgain, Cond.selects RX10 yX10_countedAgain yX10_countedAgain, Cond.code yX10_countedAgain cX10_countedAgain 1 (some .int), Cond.methodLink RX10 211 yX10_counted, Cond.methodLink RL 243 yX9_isGeneral, Cond.instanceMethod yX9_isGeneral, Cond.selects RX9 yX9_isGeneral yX9_isGeneral, Cond.code yX9_isGeneral cX9_isGeneral 1 (some .boolean), Cond.methodLink RX9 224 yX8_isGeneralStrike, Cond.methodLink RL 247 yX10_isGeneral, Cond.instanceMethod yX10_isGeneral, Cond.selects RX10 yX10_isGeneral yX10_isGeneral]
def wsL_law0_r41 : List Cond := [Cond.code yX10_isGeneral cX10_isGeneral 1 (some .boolean), Cond.methodLink RL 248 yL_richest, Cond.static yL_richest, Cond.codeWith yL_richest cL_richest 4 (some .int) [(0, 9, 12, 78)], Cond.methodLink RL 92 yX9_richest, Cond.instanceMethod yX9_richest, Cond.selects RX9 yX9_richest yX9_richest, Cond.code yX9_richest cX9_richest 3 (some .int), Cond.methodLink RX9 228 yX8_of, Cond.methodLink RX9 231 yX8_placeOfTroll, Cond.instanceMethod yX8_placeOfTroll, Cond.selects RX8 yX8_placeOfTroll yX8_placeOfTroll, Cond.code yX8_placeOfTroll cX8_placeOfTroll 4 (some .int), Cond.methodLink RX8 80 yX8_isRicher, Cond.instanceMethod yX8_isRicher, Cond.selects RX8 yX8_isRicher yX8_isRicher, Cond.code yX8_isRicher cX8_isRicher 5 (some .boolean), Cond.methodLink RX8 84 yX8_crossedAt, Cond.instanceMethod yX8_crossedAt, Cond.selects RX8 yX8_crossedAt yX8_crossedAt, Cond.code yX8_crossedAt cX8_crossedAt 3 (some .int), Cond.methodLink RL 250 yX10_richest, Cond.instanceMethod yX10_richest, Cond.selects RX10 yX10_richest yX10_richest]
def wsL_law0_r42 : List Cond := [Cond.code yX10_richest cX10_richest 2 (some .int), Cond.methodLink RX10 220 yX10_ranked, Cond.instanceMethod yX10_ranked, Cond.selects RX10 yX10_ranked yX10_ranked, Cond.code yX10_ranked cX10_ranked 7 (some .int), Cond.methodLink RX10 217 yX10_isAhead, Cond.instanceMethod yX10_isAhead, Cond.selects RX10 yX10_isAhead yX10_isAhead, Cond.code yX10_isAhead cX10_isAhead 6 (some .boolean), Cond.methodLink RX10 214 yX10_crossedOf, Cond.instanceMethod yX10_crossedOf, Cond.selects RX10 yX10_crossedOf yX10_crossedOf, Cond.code yX10_crossedOf cX10_crossedOf 2 (some .int), Cond.methodLink RL 251 yL_tired, Cond.static yL_tired, Cond.codeWith yL_tired cL_tired 4 (some .int) [(0, 9, 12, 78)], Cond.methodLink RL 95 yX9_tired, Cond.instanceMethod yX9_tired, Cond.selects RX9 yX9_tired yX9_tired, Cond.code yX9_tired cX9_tired 3 (some .int), Cond.methodLink RX9 239 yX8_placeOfGoat, Cond.instanceMethod yX8_placeOfGoat, Cond.selects RX8 yX8_placeOfGoat yX8_placeOfGoat, Cond.code yX8_placeOfGoat cX8_placeOfGoat 4 (some .int)]
def wsL_law0_r43 : List Cond := [Cond.methodLink RX8 87 yX8_isMoreTired, Cond.instanceMethod yX8_isMoreTired, Cond.selects RX8 yX8_isMoreTired yX8_isMoreTired, Cond.code yX8_isMoreTired cX8_isMoreTired 5 (some .boolean), Cond.methodLink RX8 90 yX8_ofGoat, Cond.methodLink RL 253 yX10_tired, Cond.instanceMethod yX10_tired, Cond.selects RX10 yX10_tired yX10_tired, Cond.code yX10_tired cX10_tired 2 (some .int), Cond.methodLink RL 254 yL_next, Cond.static yL_next, Cond.codeWith yL_next cL_next 3 (some .int) [(0, 8, 11, 78)], Cond.methodLink RL 98 yX9_next, Cond.instanceMethod yX9_next, Cond.selects RX9 yX9_next yX9_next, Cond.code yX9_next cX9_next 2 (some .int), Cond.methodLink RX9 242 yX8_nextEnd, Cond.instanceMethod yX8_nextEnd, Cond.selects RX8 yX8_nextEnd yX8_nextEnd, Cond.code yX8_nextEnd cX8_nextEnd 3 (some .int), Cond.methodLink RX8 77 yX8_earlierEnd, Cond.instanceMethod yX8_earlierEnd, Cond.selects RX8 yX8_earlierEnd yX8_earlierEnd, Cond.code yX8_earlierEnd cX8_earlierEnd 4 (some .int)]
def wsL_law0_r44 : List Cond := [Cond.methodLink RL 256 yX10_next, Cond.instanceMethod yX10_next, Cond.selects RX10 yX10_next yX10_next, Cond.code yX10_next cX10_next 3 (some .int), Cond.constant RX10 224 (99980001), Cond.methodLink RL 257 yX9_isWell, Cond.instanceMethod yX9_isWell, Cond.selects RX9 yX9_isWell yX9_isWell, Cond.code yX9_isWell cX9_isWell 2 (some .boolean), Cond.methodLink RX9 247 yX8_sumOfGoats, Cond.methodLink RX9 250 yX8_sumOfTrolls, Cond.instanceMethod yX8_sumOfTrolls, Cond.selects RX8 yX8_sumOfTrolls yX8_sumOfTrolls, Cond.code yX8_sumOfTrolls cX8_sumOfTrolls 4 (some .int), Cond.methodLink RX9 253 yX8_coinsInChests, Cond.instanceMethod yX8_coinsInChests, Cond.selects RX8 yX8_coinsInChests yX8_coinsInChests, Cond.code yX8_coinsInChests cX8_coinsInChests 3 (some .int), Cond.methodLink RX8 67 yX8_coinsInChest, Cond.methodLink RX9 256 yX7_areAlike, Cond.instanceMethod yX7_areAlike, Cond.selects RX7 yX7_areAlike yX7_areAlike, Cond.code yX7_areAlike cX7_areAlike 4 (some .boolean), Cond.methodLink RX7 61 yX7_measure]
def wsL_law0_r45 : List Cond := [Cond.methodLink RL 260 yX10_isWell, Cond.instanceMethod yX10_isWell, Cond.selects RX10 yX10_isWell yX10_isWell, Cond.code yX10_isWell cX10_isWell 1 (some .boolean), Cond.methodLink RX10 225 yX10_coinsOfGoats, Cond.instanceMethod yX10_coinsOfGoats, Cond.selects RX10 yX10_coinsOfGoats yX10_coinsOfGoats, Cond.code yX10_coinsOfGoats cX10_coinsOfGoats 3 (some .int), Cond.methodLink RX10 228 yX10_coinsOfTrolls, Cond.instanceMethod yX10_coinsOfTrolls, Cond.selects RX10 yX10_coinsOfTrolls yX10_coinsOfTrolls, Cond.code yX10_coinsOfTrolls cX10_coinsOfTrolls 3 (some .int), Cond.methodLink RX10 231 yX10_chests, Cond.instanceMethod yX10_chests, Cond.selects RX10 yX10_chests yX10_chests, Cond.code yX10_chests cX10_chests 3 (some .int), Cond.methodLink RL 261 yL_type, Cond.static yL_type, Cond.codeWith yL_type cL_type 4 (some .int) [(0, 9, 12, 105)], Cond.classLink RL 105 "java/lang/IllegalStateException", Cond.methodLink RL 101 yX9_type, Cond.instanceMethod yX9_type, Cond.selects RX9 yX9_type yX9_type, Cond.code yX9_type cX9_type 2 (some .int)]
def wsL_law0_r46 : List Cond := [Cond.classLink RX9 264 "java/lang/IllegalStateException", Cond.initialized "java/lang/IllegalStateException", Cond.methodLink RX9 260 yX3_append, Cond.instanceMethod yX3_append, Cond.selects RX3 yX3_append yX3_append, Cond.code yX3_append cX3_append 2 (some .boolean), Cond.methodLink RX3 25 yX5_put, Cond.methodLink RX9 269 yX3_length, Cond.instanceMethod yX3_length, Cond.selects RX3 yX3_length yX3_length, Cond.code yX3_length cX3_length 1 (some .int), Cond.methodLink RL 264 yX10_type, Cond.instanceMethod yX10_type, Cond.selects RX10 yX10_type yX10_type, Cond.code yX10_type cX10_type 2 (some .int), Cond.fieldLink RX10 237 "TrollBridgesModel" "taped" "I", Cond.methodLink RL 265 yL_read, Cond.static yL_read, Cond.codeWith yL_read cL_read 3 (some .int) [(0, 8, 11, 15), (0, 8, 14, 17)], Cond.methodLink RL 107 yX9_read, Cond.instanceMethod yX9_read, Cond.selects RX9 yX9_read yX9_read, Cond.code yX9_read cX9_read 4 (some .int), Cond.methodLink RX9 272 yX1_parse]
def wsL_law0_r47 : List Cond := [Cond.instanceMethod yX1_parse, Cond.selects RX1 yX1_parse yX1_parse, Cond.code yX1_parse cX1_parse 1 (some .boolean), Cond.methodLink RX1 38 yX1_parseCommand, Cond.instanceMethod yX1_parseCommand, Cond.selects RX1 yX1_parseCommand yX1_parseCommand, Cond.code yX1_parseCommand cX1_parseCommand 2 (some .boolean), Cond.methodLink RX1 52 yX1_formOf, Cond.static yX1_formOf, Cond.code yX1_formOf cX1_formOf 1 (some (.object "java/lang/String")), Cond.methodLink RX1 56 yX1_matches, Cond.instanceMethod yX1_matches, Cond.selects RX1 yX1_matches yX1_matches, Cond.code yX1_matches cX1_matches 7 (some .boolean), Cond.methodLink RX1 74 Lib.Math.max.name, Cond.methodLink RX1 64 yJ0_length_8abf5, Cond.instanceMethod yJ0_length_8abf5, Cond.selects RJ0 yJ0_length_8abf5 yJ0_length_8abf5, Cond.initialized RJ0, Cond.code yJ0_length_8abf5 cJ0_length_8abf5 1 (some .int), Cond.fieldLink RJ0 9 "java/lang/String" "value" "[B", Cond.methodLink RJ0 335 yJ0_coder_7d493, Cond.instanceMethod yJ0_coder_7d493, Cond.selects RJ0 yJ0_coder_7d493 yJ0_coder_7d493]
def wsL_law0_r48 : List Cond := [Cond.code yJ0_coder_7d493 cJ0_coder_7d493 1 (some .byte), Cond.fieldLink RJ0 38 "java/lang/String" "COMPACT_STRINGS" "Z", Cond.fieldLink RJ0 15 "java/lang/String" "coder" "B", Cond.methodLink RX1 67 yJ0_charAt_5068e, Cond.instanceMethod yJ0_charAt_5068e, Cond.selects RJ0 yJ0_charAt_5068e yJ0_charAt_5068e, Cond.code yJ0_charAt_5068e cJ0_charAt_5068e 2 (some .char), Cond.methodLink RJ0 492 yJ0_isLatin1_aae02, Cond.instanceMethod yJ0_isLatin1_aae02, Cond.selects RJ0 yJ0_isLatin1_aae02 yJ0_isLatin1_aae02, Cond.code yJ0_isLatin1_aae02 cJ0_isLatin1_aae02 1 (some .boolean), Cond.methodLink RJ0 495 yJ1_charAt_3b067, Cond.static yJ1_charAt_3b067, Cond.initialized RJ1, Cond.code yJ1_charAt_3b067 cJ1_charAt_3b067 2 (some .char), Cond.methodLink RJ1 9 yJ0_checkIndex_df160, Cond.static yJ0_checkIndex_df160, Cond.code yJ0_checkIndex_df160 cJ0_checkIndex_df160 2 none, Cond.fieldLink RJ0 1053 "jdk/internal/util/Preconditions" "SIOOBE_FORMATTER" "Ljava/util/function/BiFunction;", Cond.methodLink RJ0 1059 yJ3_checkIndex_8e157, Cond.static yJ3_checkIndex_8e157, Cond.initialized RJ3, Cond.code yJ3_checkIndex_8e157 cJ3_checkIndex_8e157 3 (some .int), Cond.methodLink RJ0 498 yJ2_charAt_3b067]
def wsL_law0_r49 : List Cond := [Cond.static yJ2_charAt_3b067, Cond.initialized RJ2, Cond.code yJ2_charAt_3b067 cJ2_charAt_3b067 2 (some .char), Cond.methodLink RJ2 67 yJ2_checkIndex_2214a, Cond.static yJ2_checkIndex_2214a, Cond.code yJ2_checkIndex_2214a cJ2_checkIndex_2214a 2 none, Cond.methodLink RJ2 48 yJ2_length_9d52b, Cond.static yJ2_length_9d52b, Cond.code yJ2_length_9d52b cJ2_length_9d52b 1 (some .int), Cond.methodLink RJ2 414 yJ0_checkIndex_df160, Cond.methodLink RJ2 71 yJ2_getChar_3b067, Cond.static yJ2_getChar_3b067, Cond.code yJ2_getChar_3b067 cJ2_getChar_3b067 2 (some .char), Cond.fieldLink RJ2 44 "java/lang/StringUTF16" "$assertionsDisabled" "Z", Cond.fieldLink RJ2 59 "java/lang/StringUTF16" "HI_BYTE_SHIFT" "I", Cond.fieldLink RJ2 63 "java/lang/StringUTF16" "LO_BYTE_SHIFT" "I", Cond.methodLink RX1 48 yX3_signAt, Cond.instanceMethod yX3_signAt, Cond.selects RX3 yX3_signAt yX3_signAt, Cond.code yX3_signAt cX3_signAt 2 (some .char), Cond.methodLink RX3 33 yX5_at, Cond.methodLink RX1 70 yX1_fits, Cond.static yX1_fits, Cond.code yX1_fits cX1_fits 2 (some .boolean)]
def wsL_law0_r50 : List Cond := [Cond.methodLink RX1 80 yX1_isDigit, Cond.static yX1_isDigit, Cond.code yX1_isDigit cX1_isDigit 1 (some .boolean), Cond.methodLink RX1 84 yX1_valueAt, Cond.instanceMethod yX1_valueAt, Cond.selects RX1 yX1_valueAt yX1_valueAt, Cond.code yX1_valueAt cX1_valueAt 4 (some .int), Cond.methodLink RX1 60 yX5_put, Cond.methodLink RX1 42 yX3_length, Cond.methodLink RX9 275 yX3_clear, Cond.instanceMethod yX3_clear, Cond.selects RX3 yX3_clear yX3_clear, Cond.code yX3_clear cX3_clear 1 none, Cond.methodLink RX9 278 yX1_errorAt, Cond.instanceMethod yX1_errorAt, Cond.selects RX1 yX1_errorAt yX1_errorAt, Cond.code yX1_errorAt cX1_errorAt 1 (some .int), Cond.methodLink RX9 283 yX1_count, Cond.instanceMethod yX1_count, Cond.selects RX1 yX1_count yX1_count, Cond.code yX1_count cX1_count 1 (some .int), Cond.methodLink RX9 286 yX0_carryOut, Cond.instanceMethod yX0_carryOut, Cond.selects RX0 yX0_carryOut yX0_carryOut]
def wsL_law0_r51 : List Cond := [Cond.code yX0_carryOut cX0_carryOut 6 (some (.object "TrollBridges$Verdict")), Cond.methodLink RX0 136 yX1_number, Cond.instanceMethod yX1_number, Cond.selects RX1 yX1_number yX1_number, Cond.code yX1_number cX1_number 3 (some .int), Cond.methodLink RX1 35 yX5_at, Cond.methodLink RX0 141 yX1_kindOf, Cond.instanceMethod yX1_kindOf, Cond.selects RX1 yX1_kindOf yX1_kindOf, Cond.code yX1_kindOf cX1_kindOf 2 (some .int), Cond.methodLink RX0 144 yX0_addBridge, Cond.methodLink RX0 148 yX0_addTroll, Cond.methodLink RX0 151 yX0_addGoat, Cond.methodLink RX0 154 yX0_postTroll, Cond.methodLink RX0 157 yX0_crossBridge, Cond.methodLink RX0 160 yX0_disputeToll, Cond.methodLink RX0 163 yX0_leaveBridge, Cond.methodLink RX0 166 yX0_changeStrike, Cond.methodLink RX0 170 yX0_giveRiddle, Cond.methodLink RX0 174 yX0_layFog, Cond.methodLink RX0 177 yX0_settleDispute, Cond.methodLink RX0 180 yX0_passHours, Cond.methodLink RX9 295 yX2_takeBack, Cond.instanceMethod yX2_takeBack]
def wsL_law0_r52 : List Cond := [Cond.selects RX2 yX2_takeBack yX2_takeBack, Cond.code yX2_takeBack cX2_takeBack 2 none, Cond.methodLink RX2 31 yX8_loadFrom, Cond.instanceMethod yX8_loadFrom, Cond.selects RX8 yX8_loadFrom yX8_loadFrom, Cond.code yX8_loadFrom cX8_loadFrom 3 none, Cond.methodLink RX9 298 yX4_keepCaused, Cond.instanceMethod yX4_keepCaused, Cond.selects RX4 yX4_keepCaused yX4_keepCaused, Cond.code yX4_keepCaused cX4_keepCaused 4 none, Cond.methodLink RL 267 yX10_read, Cond.instanceMethod yX10_read, Cond.selects RX10 yX10_read yX10_read, Cond.code yX10_read cX10_read 4 (some .int), Cond.fieldLink RX10 255 "TrollBridgesModel" "here" "I", Cond.fieldLink RX10 320 "TrollBridgesModel" "commandMany" "I", Cond.methodLink RX10 335 yX10_isText, Cond.instanceMethod yX10_isText, Cond.selects RX10 yX10_isText yX10_isText, Cond.code yX10_isText cX10_isText 2 (some .boolean), Cond.methodLink RX10 329 yX10_readsCommand, Cond.instanceMethod yX10_readsCommand, Cond.selects RX10 yX10_readsCommand yX10_readsCommand, Cond.code yX10_readsCommand cX10_readsCommand 3 (some .boolean)]
def wsL_law0_r53 : List Cond := [Cond.fieldLink RX10 304 "TrollBridgesModel" "word" "I", Cond.methodLink RX10 317 yX10_isWord, Cond.instanceMethod yX10_isWord, Cond.selects RX10 yX10_isWord yX10_isWord, Cond.code yX10_isWord cX10_isWord 4 (some .boolean), Cond.methodLink RX10 296 yX10_wordOf, Cond.static yX10_wordOf, Cond.code yX10_wordOf cX10_wordOf 1 (some (.object "java/lang/String")), Cond.methodLink RX10 300 yX10_alikeHere, Cond.instanceMethod yX10_alikeHere, Cond.selects RX10 yX10_alikeHere yX10_alikeHere, Cond.code yX10_alikeHere cX10_alikeHere 3 (some .int), Cond.methodLink RX10 287 yJ0_length_8abf5, Cond.methodLink RX10 292 yJ0_charAt_5068e, Cond.methodLink RX10 307 yX10_greater, Cond.static yX10_greater, Cond.code yX10_greater cX10_greater 2 (some .int), Cond.methodLink RX10 313 yX10_isNumber, Cond.instanceMethod yX10_isNumber, Cond.selects RX10 yX10_isNumber yX10_isNumber, Cond.code yX10_isNumber cX10_isNumber 5 (some .boolean), Cond.methodLink RX10 258 yX10_sign, Cond.instanceMethod yX10_sign, Cond.selects RX10 yX10_sign yX10_sign]
def wsL_law0_r54 : List Cond := [Cond.code yX10_sign cX10_sign 1 (some .int), Cond.methodLink RX10 323 yX10_isNext, Cond.instanceMethod yX10_isNext, Cond.selects RX10 yX10_isNext yX10_isNext, Cond.code yX10_isNext cX10_isNext 3 (some .boolean), Cond.methodLink RX10 310 yX10_isSign, Cond.instanceMethod yX10_isSign, Cond.selects RX10 yX10_isSign yX10_isSign, Cond.code yX10_isSign cX10_isSign 3 (some .boolean), Cond.methodLink RX10 326 yX10_isForTroll, Cond.instanceMethod yX10_isForTroll, Cond.selects RX10 yX10_isForTroll yX10_isForTroll, Cond.code yX10_isForTroll cX10_isForTroll 2 (some .boolean), Cond.methodLink RX10 338 yX10_does, Cond.instanceMethod yX10_does, Cond.selects RX10 yX10_does yX10_does, Cond.code yX10_does cX10_does 5 (some .int), Cond.methodLink RX10 341 yX10_isBehind, Cond.instanceMethod yX10_isBehind, Cond.selects RX10 yX10_isBehind yX10_isBehind, Cond.code yX10_isBehind cX10_isBehind 3 none, Cond.fieldLink RX10 332 "TrollBridgesModel" "behindDetail" "I", Cond.methodLink RL 268 yL_errorPosition, Cond.static yL_errorPosition]
def wsL_law0_r55 : List Cond := [Cond.codeWith yL_errorPosition cL_errorPosition 3 (some .int) [(0, 8, 11, 78)], Cond.methodLink RL 110 yX9_errorPosition, Cond.instanceMethod yX9_errorPosition, Cond.selects RX9 yX9_errorPosition yX9_errorPosition, Cond.code yX9_errorPosition cX9_errorPosition 1 (some .int), Cond.methodLink RL 270 yX10_errorPosition, Cond.instanceMethod yX10_errorPosition, Cond.selects RX10 yX10_errorPosition yX10_errorPosition, Cond.code yX10_errorPosition cX10_errorPosition 1 (some .int), Cond.methodLink RL 271 yL_refusal, Cond.static yL_refusal, Cond.codeWith yL_refusal cL_refusal 5 (some .int) [(0, 10, 13, 78)], Cond.methodLink RL 113 yX9_refusal, Cond.instanceMethod yX9_refusal, Cond.selects RX9 yX9_refusal yX9_refusal, Cond.code yX9_refusal cX9_refusal 3 (some .int), Cond.methodLink RX9 312 yX4_hasCause, Cond.instanceMethod yX4_hasCause, Cond.selects RX4 yX4_hasCause yX4_hasCause, Cond.code yX4_hasCause cX4_hasCause 1 (some .boolean), Cond.methodLink RX9 315 yX4_isThere, Cond.instanceMethod yX4_isThere, Cond.selects RX4 yX4_isThere yX4_isThere, Cond.code yX4_isThere cX4_isThere 1 (some .boolean)]
def wsL_law0_r56 : List Cond := [Cond.methodLink RX9 320 yX4_causeDetail, Cond.instanceMethod yX4_causeDetail, Cond.selects RX4 yX4_causeDetail yX4_causeDetail, Cond.code yX4_causeDetail cX4_causeDetail 1 (some .int), Cond.methodLink RX9 323 yX4_cause, Cond.instanceMethod yX4_cause, Cond.selects RX4 yX4_cause yX4_cause, Cond.code yX4_cause cX4_cause 1 (some .int), Cond.methodLink RX9 326 yX4_detail, Cond.instanceMethod yX4_detail, Cond.selects RX4 yX4_detail yX4_detail, Cond.code yX4_detail cX4_detail 1 (some .int), Cond.methodLink RX9 329 yX4_reason, Cond.instanceMethod yX4_reason, Cond.selects RX4 yX4_reason yX4_reason, Cond.code yX4_reason cX4_reason 1 (some .int), Cond.methodLink RL 274 yX10_refusal, Cond.instanceMethod yX10_refusal, Cond.selects RX10 yX10_refusal yX10_refusal, Cond.code yX10_refusal cX10_refusal 3 (some .int), Cond.methodLink RL 275 yL_show, Cond.static yL_show, Cond.codeWith yL_show cL_show 4 (some .int) [(0, 9, 12, 13)], Cond.methodLink RL 117 yX9_show]
def wsL_law0_r57 : List Cond := [Cond.instanceMethod yX9_show, Cond.selects RX9 yX9_show yX9_show, Cond.code yX9_show cX9_show 2 (some .int), Cond.methodLink RX9 332 yX7_hangAll, Cond.instanceMethod yX7_hangAll, Cond.selects RX7 yX7_hangAll yX7_hangAll, Cond.code yX7_hangAll cX7_hangAll 3 none, Cond.methodLink RX7 87 yX7_hanger, Cond.methodLink RX9 335 yX9_writeHanging, Cond.static yX9_writeHanging, Cond.code yX9_writeHanging cX9_writeHanging 6 none, Cond.methodLink RX9 339 yX3_appendDigit, Cond.instanceMethod yX3_appendDigit, Cond.selects RX3 yX3_appendDigit yX3_appendDigit, Cond.code yX3_appendDigit cX3_appendDigit 2 none, Cond.methodLink RX3 29 yX3_append, Cond.methodLink RX9 417 yX7_hangerKept, Cond.instanceMethod yX7_hangerKept, Cond.selects RX7 yX7_hangerKept yX7_hangerKept, Cond.code yX7_hangerKept cX7_hangerKept 2 (some .int), Cond.methodLink RL 277 yX10_show, Cond.instanceMethod yX10_show, Cond.selects RX10 yX10_show yX10_show, Cond.code yX10_show cX10_show 2 (some .int)]
def wsL_law0_r58 : List Cond := [Cond.fieldLink RX10 244 "TrollBridgesModel" "lined" "I", Cond.methodLink RX10 251 yX10_hanging, Cond.instanceMethod yX10_hanging, Cond.selects RX10 yX10_hanging yX10_hanging, Cond.code yX10_hanging cX10_hanging 5 none, Cond.methodLink RX10 247 yX10_puts, Cond.instanceMethod yX10_puts, Cond.selects RX10 yX10_puts yX10_puts, Cond.code yX10_puts cX10_puts 2 none, Cond.methodLink RL 278 yL_tell, Cond.static yL_tell, Cond.codeWith yL_tell cL_tell 4 (some .int) [(0, 9, 12, 13)], Cond.methodLink RL 120 yX9_tell, Cond.instanceMethod yX9_tell, Cond.selects RX9 yX9_tell yX9_tell, Cond.code yX9_tell cX9_tell 2 (some .int), Cond.methodLink RX9 342 yX8_isCounted, Cond.methodLink RX9 345 yX8_isDisputed, Cond.methodLink RL 280 yX10_tell, Cond.instanceMethod yX10_tell, Cond.selects RX10 yX10_tell yX10_tell, Cond.code yX10_tell cX10_tell 2 (some .int), Cond.methodLink RL 281 yL_written, Cond.static yL_written]
def wsL_law0_r59 : List Cond := [Cond.codeWith yL_written cL_written 4 (some .int) [(0, 9, 12, 78)], Cond.methodLink RL 123 yX9_written, Cond.instanceMethod yX9_written, Cond.selects RX9 yX9_written yX9_written, Cond.code yX9_written cX9_written 2 (some .char), Cond.methodLink RX9 350 yX3_signAt, Cond.methodLink RL 283 yX10_written, Cond.instanceMethod yX10_written, Cond.selects RX10 yX10_written yX10_written, Cond.code yX10_written cX10_written 2 (some .char), Cond.methodLink RL 284 yL_account, Cond.static yL_account, Cond.codeWith yL_account cL_account 4 (some .int) [(0, 9, 12, 15)], Cond.methodLink RL 127 yX9_account, Cond.instanceMethod yX9_account, Cond.selects RX9 yX9_account yX9_account, Cond.code yX9_account cX9_account 2 (some .int), Cond.methodLink RX9 354 yX8_countDisputes, Cond.methodLink RX9 357 yX8_countRiddles, Cond.methodLink RX9 360 yX8_countFogs, Cond.instanceMethod yX8_countFogs, Cond.selects RX8 yX8_countFogs yX8_countFogs, Cond.code yX8_countFogs cX8_countFogs 3 (some .int), Cond.methodLink RX9 363 yX2_count]
def wsL_law0_r60 : List Cond := [Cond.instanceMethod yX2_count, Cond.selects RX2 yX2_count yX2_count, Cond.code yX2_count cX2_count 1 (some .int), Cond.methodLink RL 286 yX10_account, Cond.instanceMethod yX10_account, Cond.selects RX10 yX10_account yX10_account, Cond.code yX10_account cX10_account 2 (some .int), Cond.methodLink RX10 234 yX10_inFog, Cond.instanceMethod yX10_inFog, Cond.selects RX10 yX10_inFog yX10_inFog, Cond.code yX10_inFog cX10_inFog 3 (some .int), Cond.methodLink RL 287 yL_meanToll, Cond.static yL_meanToll, Cond.codeWith yL_meanToll cL_meanToll 3 (some .int) [(0, 7, 10, 134)], Cond.classLink RL 134 "java/lang/ArithmeticException", Cond.methodLink RL 130 yX9_meanToll, Cond.instanceMethod yX9_meanToll, Cond.selects RX9 yX9_meanToll yX9_meanToll, Cond.code yX9_meanToll cX9_meanToll 2 (some .double), Cond.classLink RX9 366 "java/lang/ArithmeticException", Cond.initialized "java/lang/ArithmeticException", Cond.methodLink RL 290 yX10_meanToll, Cond.instanceMethod yX10_meanToll, Cond.selects RX10 yX10_meanToll yX10_meanToll]
def wsL_law0_r61 : List Cond := [Cond.code yX10_meanToll cX10_meanToll 2 (some .double), Cond.methodLink RX10 240 yX10_sum, Cond.methodLink RL 291 yL_countedShare, Cond.static yL_countedShare, Cond.codeWith yL_countedShare cL_countedShare 3 (some .int) [(0, 8, 11, 134)], Cond.methodLink RL 136 yX9_countedShare, Cond.instanceMethod yX9_countedShare, Cond.selects RX9 yX9_countedShare yX9_countedShare, Cond.code yX9_countedShare cX9_countedShare 2 (some .float), Cond.methodLink RL 293 yX10_countedShare, Cond.instanceMethod yX10_countedShare, Cond.selects RX10 yX10_countedShare yX10_countedShare, Cond.code yX10_countedShare cX10_countedShare 2 (some .float), Cond.methodLink RL 294 yL_undo, Cond.static yL_undo, Cond.codeWith yL_undo cL_undo 3 (some .int) [(0, 8, 11, 105)], Cond.methodLink RL 140 yX9_undo, Cond.instanceMethod yX9_undo, Cond.selects RX9 yX9_undo yX9_undo, Cond.code yX9_undo cX9_undo 1 (some .int), Cond.methodLink RX9 373 yX2_stepBack, Cond.instanceMethod yX2_stepBack, Cond.selects RX2 yX2_stepBack yX2_stepBack, Cond.code yX2_stepBack cX2_stepBack 2 none]
def wsL_law0_r62 : List Cond := [Cond.methodLink RX2 40 Lib.Math.max.name, Cond.methodLink RX2 43 yX2_takeBack, Cond.methodLink RL 296 yX10_undo, Cond.instanceMethod yX10_undo, Cond.selects RX10 yX10_undo yX10_undo, Cond.code yX10_undo cX10_undo 1 (some .int), Cond.methodLink RL 297 yX9_save, Cond.instanceMethod yX9_save, Cond.selects RX9 yX9_save yX9_save, Cond.code yX9_save cX9_save 1 (some .int), Cond.methodLink RX9 376 yX8_storeIn, Cond.methodLink RL 300 yX10_save, Cond.instanceMethod yX10_save, Cond.selects RX10 yX10_save yX10_save, Cond.code yX10_save cX10_save 1 (some .int), Cond.fieldLink RX10 345 "TrollBridgesModel" "isSaved" "Z", Cond.methodLink RL 301 yL_restore, Cond.static yL_restore, Cond.codeWith yL_restore cL_restore 3 (some .int) [(0, 8, 11, 105)], Cond.methodLink RL 143 yX9_restore, Cond.instanceMethod yX9_restore, Cond.selects RX9 yX9_restore yX9_restore, Cond.code yX9_restore cX9_restore 1 (some .int), Cond.methodLink RX9 382 yX8_loadFrom]
def wsL_law0_r63 : List Cond := [Cond.methodLink RX9 385 yX2_forget, Cond.instanceMethod yX2_forget, Cond.selects RX2 yX2_forget yX2_forget, Cond.code yX2_forget cX2_forget 1 none, Cond.methodLink RL 303 yX10_restore, Cond.instanceMethod yX10_restore, Cond.selects RX10 yX10_restore yX10_restore, Cond.code yX10_restore cX10_restore 1 (some .int)]
