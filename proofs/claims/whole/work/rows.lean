section
-- ===== PART A: goes FIRST, ahead of the names: the tables' words, and 'selects' of the private methods out of them =====
/-- a private method of a class that the tables say can be made, by its rows of tables_1 -/
def lw_okq (q : MethodName × Nat) : Prop := (q.1.cls ≠ "java/lang/invoke/MethodHandle" ∧ q.1.cls ≠ "java/lang/invoke/VarHandle") ∧ Cond.instantiable q.1.cls q.2 ∈ tables_1 ∧ Cond.privateMethod q.1 ∈ tables_1 ∧ Cond.instanceMethod q.1 ∈ tables_1
theorem lw_p0 : lw_okq (⟨"OneWayTillNoon", "refuse", "(I)I"⟩, 13) := ⟨⟨by decide +kernel, by decide +kernel⟩, List.mem_of_getElem? (i := 18) (by decide +kernel), List.mem_of_getElem? (i := 385) (by decide +kernel), List.mem_of_getElem? (i := 386) (by decide +kernel)⟩
theorem lw_p1 : lw_okq (⟨"OneWayTillNoon$Reader", "statementsWritten", "()I"⟩, 7) := ⟨⟨by decide +kernel, by decide +kernel⟩, List.mem_of_getElem? (i := 150) (by decide +kernel), List.mem_of_getElem? (i := 401) (by decide +kernel), List.mem_of_getElem? (i := 402) (by decide +kernel)⟩
theorem lw_p2 : lw_okq (⟨"OneWayTillNoon$Reader", "readStatement", "()Z"⟩, 7) := ⟨⟨by decide +kernel, by decide +kernel⟩, List.mem_of_getElem? (i := 150) (by decide +kernel), List.mem_of_getElem? (i := 405) (by decide +kernel), List.mem_of_getElem? (i := 406) (by decide +kernel)⟩
theorem lw_p3 : lw_okq (⟨"OneWayTillNoon$Reader", "number", "(II)Z"⟩, 7) := ⟨⟨by decide +kernel, by decide +kernel⟩, List.mem_of_getElem? (i := 150) (by decide +kernel), List.mem_of_getElem? (i := 413) (by decide +kernel), List.mem_of_getElem? (i := 414) (by decide +kernel)⟩
theorem lw_p4 : lw_okq (⟨"OneWayTillNoon$Reader", "sign", "(C)Z"⟩, 7) := ⟨⟨by decide +kernel, by decide +kernel⟩, List.mem_of_getElem? (i := 150) (by decide +kernel), List.mem_of_getElem? (i := 420) (by decide +kernel), List.mem_of_getElem? (i := 421) (by decide +kernel)⟩
theorem lw_p5 : lw_okq (⟨"OneWayTillNoon$Reader", "broadOrNot", "()Z"⟩, 7) := ⟨⟨by decide +kernel, by decide +kernel⟩, List.mem_of_getElem? (i := 150) (by decide +kernel), List.mem_of_getElem? (i := 424) (by decide +kernel), List.mem_of_getElem? (i := 425) (by decide +kernel)⟩
theorem lw_p6 : lw_okq (⟨"OneWayTillNoon$Reader", "tell", "()Z"⟩, 7) := ⟨⟨by decide +kernel, by decide +kernel⟩, List.mem_of_getElem? (i := 150) (by decide +kernel), List.mem_of_getElem? (i := 435) (by decide +kernel), List.mem_of_getElem? (i := 436) (by decide +kernel)⟩
theorem lw_p7 : lw_okq (⟨"OneWayTillNoon$Town", "cornersToldOf", "()I"⟩, 17) := ⟨⟨by decide +kernel, by decide +kernel⟩, List.mem_of_getElem? (i := 26) (by decide +kernel), List.mem_of_getElem? (i := 443) (by decide +kernel), List.mem_of_getElem? (i := 444) (by decide +kernel)⟩
theorem lw_p8 : lw_okq (⟨"OneWayTillNoon$Town", "areTwoCorners", "(II)Z"⟩, 17) := ⟨⟨by decide +kernel, by decide +kernel⟩, List.mem_of_getElem? (i := 26) (by decide +kernel), List.mem_of_getElem? (i := 454) (by decide +kernel), List.mem_of_getElem? (i := 455) (by decide +kernel)⟩
theorem lw_p9 : lw_okq (⟨"OneWayTillNoon", "refusalOfMinute", "(I)I"⟩, 13) := ⟨⟨by decide +kernel, by decide +kernel⟩, List.mem_of_getElem? (i := 18) (by decide +kernel), List.mem_of_getElem? (i := 510) (by decide +kernel), List.mem_of_getElem? (i := 511) (by decide +kernel)⟩
theorem lw_p10 : lw_okq (⟨"OneWayTillNoon", "refusalOfWay", "(III)I"⟩, 13) := ⟨⟨by decide +kernel, by decide +kernel⟩, List.mem_of_getElem? (i := 18) (by decide +kernel), List.mem_of_getElem? (i := 539) (by decide +kernel), List.mem_of_getElem? (i := 540) (by decide +kernel)⟩
theorem lw_p11 : lw_okq (⟨"OneWayTillNoon$Travel", "soonestUnsettled", "()I"⟩, 4) := ⟨⟨by decide +kernel, by decide +kernel⟩, List.mem_of_getElem? (i := 217) (by decide +kernel), List.mem_of_getElem? (i := 552) (by decide +kernel), List.mem_of_getElem? (i := 553) (by decide +kernel)⟩
theorem lw_p12 : lw_okq (⟨"OneWayTillNoon$Travel", "goOnFrom", "(I)V"⟩, 4) := ⟨⟨by decide +kernel, by decide +kernel⟩, List.mem_of_getElem? (i := 217) (by decide +kernel), List.mem_of_getElem? (i := 557) (by decide +kernel), List.mem_of_getElem? (i := 558) (by decide +kernel)⟩
theorem lw_p13 : lw_okq (⟨"OneWayTillNoon$Travel", "goAlong", "(III)V"⟩, 4) := ⟨⟨by decide +kernel, by decide +kernel⟩, List.mem_of_getElem? (i := 217) (by decide +kernel), List.mem_of_getElem? (i := 566) (by decide +kernel), List.mem_of_getElem? (i := 567) (by decide +kernel)⟩
theorem lw_p14 : lw_okq (⟨"OneWayTillNoon$Road", "traceBack", "()Z"⟩, 8) := ⟨⟨by decide +kernel, by decide +kernel⟩, List.mem_of_getElem? (i := 309) (by decide +kernel), List.mem_of_getElem? (i := 587) (by decide +kernel), List.mem_of_getElem? (i := 588) (by decide +kernel)⟩
theorem lw_p15 : lw_okq (⟨"OneWayTillNoon$Road", "cameBy", "(III)Z"⟩, 8) := ⟨⟨by decide +kernel, by decide +kernel⟩, List.mem_of_getElem? (i := 309) (by decide +kernel), List.mem_of_getElem? (i := 591) (by decide +kernel), List.mem_of_getElem? (i := 592) (by decide +kernel)⟩
def lw_privs_1 : List (MethodName × Nat) := [(⟨"OneWayTillNoon", "refuse", "(I)I"⟩, 13), (⟨"OneWayTillNoon$Reader", "statementsWritten", "()I"⟩, 7), (⟨"OneWayTillNoon$Reader", "readStatement", "()Z"⟩, 7), (⟨"OneWayTillNoon$Reader", "number", "(II)Z"⟩, 7), (⟨"OneWayTillNoon$Reader", "sign", "(C)Z"⟩, 7), (⟨"OneWayTillNoon$Reader", "broadOrNot", "()Z"⟩, 7), (⟨"OneWayTillNoon$Reader", "tell", "()Z"⟩, 7), (⟨"OneWayTillNoon$Town", "cornersToldOf", "()I"⟩, 17), (⟨"OneWayTillNoon$Town", "areTwoCorners", "(II)Z"⟩, 17), (⟨"OneWayTillNoon", "refusalOfMinute", "(I)I"⟩, 13), (⟨"OneWayTillNoon", "refusalOfWay", "(III)I"⟩, 13), (⟨"OneWayTillNoon$Travel", "soonestUnsettled", "()I"⟩, 4), (⟨"OneWayTillNoon$Travel", "goOnFrom", "(I)V"⟩, 4), (⟨"OneWayTillNoon$Travel", "goAlong", "(III)V"⟩, 4), (⟨"OneWayTillNoon$Road", "traceBack", "()Z"⟩, 8), (⟨"OneWayTillNoon$Road", "cameBy", "(III)Z"⟩, 8)]
theorem lw_r1 : ∀ q ∈ lw_privs_1, lw_okq q := List.forall_mem_cons.mpr ⟨lw_p0, List.forall_mem_cons.mpr ⟨lw_p1, List.forall_mem_cons.mpr ⟨lw_p2, List.forall_mem_cons.mpr ⟨lw_p3, List.forall_mem_cons.mpr ⟨lw_p4, List.forall_mem_cons.mpr ⟨lw_p5, List.forall_mem_cons.mpr ⟨lw_p6, List.forall_mem_cons.mpr ⟨lw_p7, List.forall_mem_cons.mpr ⟨lw_p8, List.forall_mem_cons.mpr ⟨lw_p9, List.forall_mem_cons.mpr ⟨lw_p10, List.forall_mem_cons.mpr ⟨lw_p11, List.forall_mem_cons.mpr ⟨lw_p12, List.forall_mem_cons.mpr ⟨lw_p13, List.forall_mem_cons.mpr ⟨lw_p14, List.forall_mem_cons.mpr ⟨lw_p15, fun _ h => absurd h List.not_mem_nil⟩⟩⟩⟩⟩⟩⟩⟩⟩⟩⟩⟩⟩⟩⟩⟩
theorem lw_p16 : lw_okq (⟨"OneWayTillNoon", "freezeAsItIs", "(I)V"⟩, 13) := ⟨⟨by decide +kernel, by decide +kernel⟩, List.mem_of_getElem? (i := 18) (by decide +kernel), List.mem_of_getElem? (i := 613) (by decide +kernel), List.mem_of_getElem? (i := 614) (by decide +kernel)⟩
theorem lw_p17 : lw_okq (⟨"OneWayTillNoon$Frozen", "layStep", "(III)V"⟩, 3) := ⟨⟨by decide +kernel, by decide +kernel⟩, List.mem_of_getElem? (i := 236) (by decide +kernel), List.mem_of_getElem? (i := 625) (by decide +kernel), List.mem_of_getElem? (i := 626) (by decide +kernel)⟩
theorem lw_p18 : lw_okq (⟨"OneWayTillNoon$Frozen", "joinBy", "([I[II)V"⟩, 3) := ⟨⟨by decide +kernel, by decide +kernel⟩, List.mem_of_getElem? (i := 236) (by decide +kernel), List.mem_of_getElem? (i := 634) (by decide +kernel), List.mem_of_getElem? (i := 635) (by decide +kernel)⟩
theorem lw_p19 : lw_okq (⟨"OneWayTillNoon$Frozen", "isApart", "(II)Z"⟩, 3) := ⟨⟨by decide +kernel, by decide +kernel⟩, List.mem_of_getElem? (i := 236) (by decide +kernel), List.mem_of_getElem? (i := 642) (by decide +kernel), List.mem_of_getElem? (i := 643) (by decide +kernel)⟩
theorem lw_p20 : lw_okq (⟨"OneWayTillNoon$Plan", "cornersFrom", "(II)I"⟩, 3) := ⟨⟨by decide +kernel, by decide +kernel⟩, List.mem_of_getElem? (i := 254) (by decide +kernel), List.mem_of_getElem? (i := 667) (by decide +kernel), List.mem_of_getElem? (i := 668) (by decide +kernel)⟩
theorem lw_p21 : lw_okq (⟨"OneWayTillNoon$Plan", "otherEnd", "(II)I"⟩, 3) := ⟨⟨by decide +kernel, by decide +kernel⟩, List.mem_of_getElem? (i := 254) (by decide +kernel), List.mem_of_getElem? (i := 689) (by decide +kernel), List.mem_of_getElem? (i := 690) (by decide +kernel)⟩
theorem lw_p22 : lw_okq (⟨"OneWayTillNoon$Ledger", "minutesOf", "(III)I"⟩, 3) := ⟨⟨by decide +kernel, by decide +kernel⟩, List.mem_of_getElem? (i := 270) (by decide +kernel), List.mem_of_getElem? (i := 706) (by decide +kernel), List.mem_of_getElem? (i := 707) (by decide +kernel)⟩
theorem lw_p23 : lw_okq (⟨"OneWayTillNoon", "refusalOfTrying", "()I"⟩, 13) := ⟨⟨by decide +kernel, by decide +kernel⟩, List.mem_of_getElem? (i := 18) (by decide +kernel), List.mem_of_getElem? (i := 716) (by decide +kernel), List.mem_of_getElem? (i := 717) (by decide +kernel)⟩
theorem lw_p24 : lw_okq (⟨"OneWayTillNoon$Trials", "nextByFewest", "(I)I"⟩, 5) := ⟨⟨by decide +kernel, by decide +kernel⟩, List.mem_of_getElem? (i := 286) (by decide +kernel), List.mem_of_getElem? (i := 767) (by decide +kernel), List.mem_of_getElem? (i := 768) (by decide +kernel)⟩
theorem lw_p25 : lw_okq (⟨"OneWayTillNoon", "traceErrand", "(I)V"⟩, 13) := ⟨⟨by decide +kernel, by decide +kernel⟩, List.mem_of_getElem? (i := 18) (by decide +kernel), List.mem_of_getElem? (i := 813) (by decide +kernel), List.mem_of_getElem? (i := 814) (by decide +kernel)⟩
theorem lw_p26 : lw_okq (⟨"OneWayTillNoon$Trials", "allReachedBy", "(I)Z"⟩, 5) := ⟨⟨by decide +kernel, by decide +kernel⟩, List.mem_of_getElem? (i := 286) (by decide +kernel), List.mem_of_getElem? (i := 834) (by decide +kernel), List.mem_of_getElem? (i := 835) (by decide +kernel)⟩
theorem lw_p27 : lw_okq (⟨"OneWayTillNoon$Ledger", "drawBelow", "(I)I"⟩, 3) := ⟨⟨by decide +kernel, by decide +kernel⟩, List.mem_of_getElem? (i := 270) (by decide +kernel), List.mem_of_getElem? (i := 856) (by decide +kernel), List.mem_of_getElem? (i := 857) (by decide +kernel)⟩
theorem lw_p28 : lw_okq (⟨"OneWayTillNoonModel", "refuse", "(I)I"⟩, 25) := ⟨⟨by decide +kernel, by decide +kernel⟩, List.mem_of_getElem? (i := 890) (by decide +kernel), List.mem_of_getElem? (i := 977) (by decide +kernel), List.mem_of_getElem? (i := 978) (by decide +kernel)⟩
theorem lw_p29 : lw_okq (⟨"OneWayTillNoonModel", "reads", "()I"⟩, 25) := ⟨⟨by decide +kernel, by decide +kernel⟩, List.mem_of_getElem? (i := 890) (by decide +kernel), List.mem_of_getElem? (i := 986) (by decide +kernel), List.mem_of_getElem? (i := 987) (by decide +kernel)⟩
theorem lw_p30 : lw_okq (⟨"OneWayTillNoonModel", "readsStatement", "()Z"⟩, 25) := ⟨⟨by decide +kernel, by decide +kernel⟩, List.mem_of_getElem? (i := 890) (by decide +kernel), List.mem_of_getElem? (i := 990) (by decide +kernel), List.mem_of_getElem? (i := 991) (by decide +kernel)⟩
theorem lw_p31 : lw_okq (⟨"OneWayTillNoonModel", "sign", "()I"⟩, 25) := ⟨⟨by decide +kernel, by decide +kernel⟩, List.mem_of_getElem? (i := 890) (by decide +kernel), List.mem_of_getElem? (i := 994) (by decide +kernel), List.mem_of_getElem? (i := 995) (by decide +kernel)⟩
def lw_privs_2 : List (MethodName × Nat) := [(⟨"OneWayTillNoon", "freezeAsItIs", "(I)V"⟩, 13), (⟨"OneWayTillNoon$Frozen", "layStep", "(III)V"⟩, 3), (⟨"OneWayTillNoon$Frozen", "joinBy", "([I[II)V"⟩, 3), (⟨"OneWayTillNoon$Frozen", "isApart", "(II)Z"⟩, 3), (⟨"OneWayTillNoon$Plan", "cornersFrom", "(II)I"⟩, 3), (⟨"OneWayTillNoon$Plan", "otherEnd", "(II)I"⟩, 3), (⟨"OneWayTillNoon$Ledger", "minutesOf", "(III)I"⟩, 3), (⟨"OneWayTillNoon", "refusalOfTrying", "()I"⟩, 13), (⟨"OneWayTillNoon$Trials", "nextByFewest", "(I)I"⟩, 5), (⟨"OneWayTillNoon", "traceErrand", "(I)V"⟩, 13), (⟨"OneWayTillNoon$Trials", "allReachedBy", "(I)Z"⟩, 5), (⟨"OneWayTillNoon$Ledger", "drawBelow", "(I)I"⟩, 3), (⟨"OneWayTillNoonModel", "refuse", "(I)I"⟩, 25), (⟨"OneWayTillNoonModel", "reads", "()I"⟩, 25), (⟨"OneWayTillNoonModel", "readsStatement", "()Z"⟩, 25), (⟨"OneWayTillNoonModel", "sign", "()I"⟩, 25)]
theorem lw_r2 : ∀ q ∈ lw_privs_2, lw_okq q := List.forall_mem_cons.mpr ⟨lw_p16, List.forall_mem_cons.mpr ⟨lw_p17, List.forall_mem_cons.mpr ⟨lw_p18, List.forall_mem_cons.mpr ⟨lw_p19, List.forall_mem_cons.mpr ⟨lw_p20, List.forall_mem_cons.mpr ⟨lw_p21, List.forall_mem_cons.mpr ⟨lw_p22, List.forall_mem_cons.mpr ⟨lw_p23, List.forall_mem_cons.mpr ⟨lw_p24, List.forall_mem_cons.mpr ⟨lw_p25, List.forall_mem_cons.mpr ⟨lw_p26, List.forall_mem_cons.mpr ⟨lw_p27, List.forall_mem_cons.mpr ⟨lw_p28, List.forall_mem_cons.mpr ⟨lw_p29, List.forall_mem_cons.mpr ⟨lw_p30, List.forall_mem_cons.mpr ⟨lw_p31, fun _ h => absurd h List.not_mem_nil⟩⟩⟩⟩⟩⟩⟩⟩⟩⟩⟩⟩⟩⟩⟩⟩
theorem lw_p32 : lw_okq (⟨"OneWayTillNoonModel", "readsNumber", "(II)Z"⟩, 25) := ⟨⟨by decide +kernel, by decide +kernel⟩, List.mem_of_getElem? (i := 890) (by decide +kernel), List.mem_of_getElem? (i := 998) (by decide +kernel), List.mem_of_getElem? (i := 999) (by decide +kernel)⟩
theorem lw_p33 : lw_okq (⟨"OneWayTillNoonModel", "takes", "(I)Z"⟩, 25) := ⟨⟨by decide +kernel, by decide +kernel⟩, List.mem_of_getElem? (i := 890) (by decide +kernel), List.mem_of_getElem? (i := 1002) (by decide +kernel), List.mem_of_getElem? (i := 1003) (by decide +kernel)⟩
theorem lw_p34 : lw_okq (⟨"OneWayTillNoonModel", "comes", "(I)Z"⟩, 25) := ⟨⟨by decide +kernel, by decide +kernel⟩, List.mem_of_getElem? (i := 890) (by decide +kernel), List.mem_of_getElem? (i := 1006) (by decide +kernel), List.mem_of_getElem? (i := 1007) (by decide +kernel)⟩
theorem lw_p35 : lw_okq (⟨"OneWayTillNoonModel", "toldOf", "()I"⟩, 25) := ⟨⟨by decide +kernel, by decide +kernel⟩, List.mem_of_getElem? (i := 890) (by decide +kernel), List.mem_of_getElem? (i := 1010) (by decide +kernel), List.mem_of_getElem? (i := 1011) (by decide +kernel)⟩
theorem lw_p36 : lw_okq (⟨"OneWayTillNoonModel", "isStreet", "(I)Z"⟩, 25) := ⟨⟨by decide +kernel, by decide +kernel⟩, List.mem_of_getElem? (i := 890) (by decide +kernel), List.mem_of_getElem? (i := 1018) (by decide +kernel), List.mem_of_getElem? (i := 1019) (by decide +kernel)⟩
theorem lw_p37 : lw_okq (⟨"OneWayTillNoonModel", "get", "(II)I"⟩, 25) := ⟨⟨by decide +kernel, by decide +kernel⟩, List.mem_of_getElem? (i := 890) (by decide +kernel), List.mem_of_getElem? (i := 1025) (by decide +kernel), List.mem_of_getElem? (i := 1026) (by decide +kernel)⟩
theorem lw_p38 : lw_okq (⟨"OneWayTillNoonModel", "isErrand", "(I)Z"⟩, 25) := ⟨⟨by decide +kernel, by decide +kernel⟩, List.mem_of_getElem? (i := 890) (by decide +kernel), List.mem_of_getElem? (i := 1033) (by decide +kernel), List.mem_of_getElem? (i := 1034) (by decide +kernel)⟩
theorem lw_p39 : lw_okq (⟨"OneWayTillNoonModel", "of", "(II)I"⟩, 25) := ⟨⟨by decide +kernel, by decide +kernel⟩, List.mem_of_getElem? (i := 890) (by decide +kernel), List.mem_of_getElem? (i := 1037) (by decide +kernel), List.mem_of_getElem? (i := 1038) (by decide +kernel)⟩
theorem lw_p40 : lw_okq (⟨"OneWayTillNoonModel", "becomes", "(II)I"⟩, 25) := ⟨⟨by decide +kernel, by decide +kernel⟩, List.mem_of_getElem? (i := 890) (by decide +kernel), List.mem_of_getElem? (i := 1051) (by decide +kernel), List.mem_of_getElem? (i := 1052) (by decide +kernel)⟩
theorem lw_p41 : lw_okq (⟨"OneWayTillNoonModel", "wayOf", "(II)I"⟩, 25) := ⟨⟨by decide +kernel, by decide +kernel⟩, List.mem_of_getElem? (i := 890) (by decide +kernel), List.mem_of_getElem? (i := 1067) (by decide +kernel), List.mem_of_getElem? (i := 1068) (by decide +kernel)⟩
theorem lw_p42 : lw_okq (⟨"OneWayTillNoonModel", "wrongWay", "(III)I"⟩, 25) := ⟨⟨by decide +kernel, by decide +kernel⟩, List.mem_of_getElem? (i := 890) (by decide +kernel), List.mem_of_getElem? (i := 1075) (by decide +kernel), List.mem_of_getElem? (i := 1076) (by decide +kernel)⟩
theorem lw_p43 : lw_okq (⟨"OneWayTillNoonModel", "isCorner", "(I)Z"⟩, 25) := ⟨⟨by decide +kernel, by decide +kernel⟩, List.mem_of_getElem? (i := 890) (by decide +kernel), List.mem_of_getElem? (i := 1079) (by decide +kernel), List.mem_of_getElem? (i := 1080) (by decide +kernel)⟩
theorem lw_p44 : lw_okq (⟨"OneWayTillNoonModel", "finds", "(II)V"⟩, 25) := ⟨⟨by decide +kernel, by decide +kernel⟩, List.mem_of_getElem? (i := 890) (by decide +kernel), List.mem_of_getElem? (i := 1083) (by decide +kernel), List.mem_of_getElem? (i := 1084) (by decide +kernel)⟩
theorem lw_p45 : lw_okq (⟨"OneWayTillNoonModel", "enters", "(III)I"⟩, 25) := ⟨⟨by decide +kernel, by decide +kernel⟩, List.mem_of_getElem? (i := 890) (by decide +kernel), List.mem_of_getElem? (i := 1087) (by decide +kernel), List.mem_of_getElem? (i := 1088) (by decide +kernel)⟩
theorem lw_p46 : lw_okq (⟨"OneWayTillNoonModel", "goesFrom", "(III)Z"⟩, 25) := ⟨⟨by decide +kernel, by decide +kernel⟩, List.mem_of_getElem? (i := 890) (by decide +kernel), List.mem_of_getElem? (i := 1091) (by decide +kernel), List.mem_of_getElem? (i := 1092) (by decide +kernel)⟩
theorem lw_p47 : lw_okq (⟨"OneWayTillNoonModel", "findsRoad", "(III)Z"⟩, 25) := ⟨⟨by decide +kernel, by decide +kernel⟩, List.mem_of_getElem? (i := 890) (by decide +kernel), List.mem_of_getElem? (i := 1099) (by decide +kernel), List.mem_of_getElem? (i := 1100) (by decide +kernel)⟩
def lw_privs_3 : List (MethodName × Nat) := [(⟨"OneWayTillNoonModel", "readsNumber", "(II)Z"⟩, 25), (⟨"OneWayTillNoonModel", "takes", "(I)Z"⟩, 25), (⟨"OneWayTillNoonModel", "comes", "(I)Z"⟩, 25), (⟨"OneWayTillNoonModel", "toldOf", "()I"⟩, 25), (⟨"OneWayTillNoonModel", "isStreet", "(I)Z"⟩, 25), (⟨"OneWayTillNoonModel", "get", "(II)I"⟩, 25), (⟨"OneWayTillNoonModel", "isErrand", "(I)Z"⟩, 25), (⟨"OneWayTillNoonModel", "of", "(II)I"⟩, 25), (⟨"OneWayTillNoonModel", "becomes", "(II)I"⟩, 25), (⟨"OneWayTillNoonModel", "wayOf", "(II)I"⟩, 25), (⟨"OneWayTillNoonModel", "wrongWay", "(III)I"⟩, 25), (⟨"OneWayTillNoonModel", "isCorner", "(I)Z"⟩, 25), (⟨"OneWayTillNoonModel", "finds", "(II)V"⟩, 25), (⟨"OneWayTillNoonModel", "enters", "(III)I"⟩, 25), (⟨"OneWayTillNoonModel", "goesFrom", "(III)Z"⟩, 25), (⟨"OneWayTillNoonModel", "findsRoad", "(III)Z"⟩, 25)]
theorem lw_r3 : ∀ q ∈ lw_privs_3, lw_okq q := List.forall_mem_cons.mpr ⟨lw_p32, List.forall_mem_cons.mpr ⟨lw_p33, List.forall_mem_cons.mpr ⟨lw_p34, List.forall_mem_cons.mpr ⟨lw_p35, List.forall_mem_cons.mpr ⟨lw_p36, List.forall_mem_cons.mpr ⟨lw_p37, List.forall_mem_cons.mpr ⟨lw_p38, List.forall_mem_cons.mpr ⟨lw_p39, List.forall_mem_cons.mpr ⟨lw_p40, List.forall_mem_cons.mpr ⟨lw_p41, List.forall_mem_cons.mpr ⟨lw_p42, List.forall_mem_cons.mpr ⟨lw_p43, List.forall_mem_cons.mpr ⟨lw_p44, List.forall_mem_cons.mpr ⟨lw_p45, List.forall_mem_cons.mpr ⟨lw_p46, List.forall_mem_cons.mpr ⟨lw_p47, fun _ h => absurd h List.not_mem_nil⟩⟩⟩⟩⟩⟩⟩⟩⟩⟩⟩⟩⟩⟩⟩⟩
theorem lw_p48 : lw_okq (⟨"OneWayTillNoonModel", "apartAt", "(I)I"⟩, 25) := ⟨⟨by decide +kernel, by decide +kernel⟩, List.mem_of_getElem? (i := 890) (by decide +kernel), List.mem_of_getElem? (i := 1111) (by decide +kernel), List.mem_of_getElem? (i := 1112) (by decide +kernel)⟩
theorem lw_p49 : lw_okq (⟨"OneWayTillNoonModel", "findsFar", "(I)V"⟩, 25) := ⟨⟨by decide +kernel, by decide +kernel⟩, List.mem_of_getElem? (i := 890) (by decide +kernel), List.mem_of_getElem? (i := 1115) (by decide +kernel), List.mem_of_getElem? (i := 1116) (by decide +kernel)⟩
theorem lw_p50 : lw_okq (⟨"OneWayTillNoonModel", "longestAt", "(I)I"⟩, 25) := ⟨⟨by decide +kernel, by decide +kernel⟩, List.mem_of_getElem? (i := 890) (by decide +kernel), List.mem_of_getElem? (i := 1124) (by decide +kernel), List.mem_of_getElem? (i := 1125) (by decide +kernel)⟩
theorem lw_p51 : lw_okq (⟨"OneWayTillNoonModel", "hang", "(II)I"⟩, 25) := ⟨⟨by decide +kernel, by decide +kernel⟩, List.mem_of_getElem? (i := 890) (by decide +kernel), List.mem_of_getElem? (i := 1136) (by decide +kernel), List.mem_of_getElem? (i := 1137) (by decide +kernel)⟩
theorem lw_p52 : lw_okq (⟨"OneWayTillNoonModel", "bridgeBits", "()I"⟩, 25) := ⟨⟨by decide +kernel, by decide +kernel⟩, List.mem_of_getElem? (i := 890) (by decide +kernel), List.mem_of_getElem? (i := 1140) (by decide +kernel), List.mem_of_getElem? (i := 1141) (by decide +kernel)⟩
theorem lw_p53 : lw_okq (⟨"OneWayTillNoonModel", "isBridge", "(I)Z"⟩, 25) := ⟨⟨by decide +kernel, by decide +kernel⟩, List.mem_of_getElem? (i := 890) (by decide +kernel), List.mem_of_getElem? (i := 1144) (by decide +kernel), List.mem_of_getElem? (i := 1145) (by decide +kernel)⟩
theorem lw_p54 : lw_okq (⟨"OneWayTillNoonModel", "walks", "(I)V"⟩, 25) := ⟨⟨by decide +kernel, by decide +kernel⟩, List.mem_of_getElem? (i := 890) (by decide +kernel), List.mem_of_getElem? (i := 1156) (by decide +kernel), List.mem_of_getElem? (i := 1157) (by decide +kernel)⟩
theorem lw_p55 : lw_okq (⟨"OneWayTillNoonModel", "costOf", "()I"⟩, 25) := ⟨⟨by decide +kernel, by decide +kernel⟩, List.mem_of_getElem? (i := 890) (by decide +kernel), List.mem_of_getElem? (i := 1164) (by decide +kernel), List.mem_of_getElem? (i := 1165) (by decide +kernel)⟩
theorem lw_p56 : lw_okq (⟨"OneWayTillNoonModel", "wrongFew", "()I"⟩, 25) := ⟨⟨by decide +kernel, by decide +kernel⟩, List.mem_of_getElem? (i := 890) (by decide +kernel), List.mem_of_getElem? (i := 1172) (by decide +kernel), List.mem_of_getElem? (i := 1173) (by decide +kernel)⟩
theorem lw_p57 : lw_okq (⟨"OneWayTillNoonModel", "bestOf", "(Z)I"⟩, 25) := ⟨⟨by decide +kernel, by decide +kernel⟩, List.mem_of_getElem? (i := 890) (by decide +kernel), List.mem_of_getElem? (i := 1176) (by decide +kernel), List.mem_of_getElem? (i := 1177) (by decide +kernel)⟩
theorem lw_p58 : lw_okq (⟨"OneWayTillNoonModel", "keepsMusts", "(I)Z"⟩, 25) := ⟨⟨by decide +kernel, by decide +kernel⟩, List.mem_of_getElem? (i := 890) (by decide +kernel), List.mem_of_getElem? (i := 1180) (by decide +kernel), List.mem_of_getElem? (i := 1181) (by decide +kernel)⟩
theorem lw_p59 : lw_okq (⟨"OneWayTillNoonModel", "along", "(II)I"⟩, 25) := ⟨⟨by decide +kernel, by decide +kernel⟩, List.mem_of_getElem? (i := 890) (by decide +kernel), List.mem_of_getElem? (i := 1207) (by decide +kernel), List.mem_of_getElem? (i := 1208) (by decide +kernel)⟩
theorem lw_p60 : lw_okq (⟨"OneWayTillNoonModel", "areMet", "(II)Z"⟩, 25) := ⟨⟨by decide +kernel, by decide +kernel⟩, List.mem_of_getElem? (i := 890) (by decide +kernel), List.mem_of_getElem? (i := 1223) (by decide +kernel), List.mem_of_getElem? (i := 1224) (by decide +kernel)⟩
theorem lw_p61 : lw_okq (⟨"OneWayTillNoonModel", "stays", "(I)V"⟩, 25) := ⟨⟨by decide +kernel, by decide +kernel⟩, List.mem_of_getElem? (i := 890) (by decide +kernel), List.mem_of_getElem? (i := 1227) (by decide +kernel), List.mem_of_getElem? (i := 1228) (by decide +kernel)⟩
theorem lw_p62 : lw_okq (⟨"OneWayTillNoonModel", "isReached", "(III)Z"⟩, 25) := ⟨⟨by decide +kernel, by decide +kernel⟩, List.mem_of_getElem? (i := 890) (by decide +kernel), List.mem_of_getElem? (i := 1239) (by decide +kernel), List.mem_of_getElem? (i := 1240) (by decide +kernel)⟩
def lw_privs_4 : List (MethodName × Nat) := [(⟨"OneWayTillNoonModel", "apartAt", "(I)I"⟩, 25), (⟨"OneWayTillNoonModel", "findsFar", "(I)V"⟩, 25), (⟨"OneWayTillNoonModel", "longestAt", "(I)I"⟩, 25), (⟨"OneWayTillNoonModel", "hang", "(II)I"⟩, 25), (⟨"OneWayTillNoonModel", "bridgeBits", "()I"⟩, 25), (⟨"OneWayTillNoonModel", "isBridge", "(I)Z"⟩, 25), (⟨"OneWayTillNoonModel", "walks", "(I)V"⟩, 25), (⟨"OneWayTillNoonModel", "costOf", "()I"⟩, 25), (⟨"OneWayTillNoonModel", "wrongFew", "()I"⟩, 25), (⟨"OneWayTillNoonModel", "bestOf", "(Z)I"⟩, 25), (⟨"OneWayTillNoonModel", "keepsMusts", "(I)Z"⟩, 25), (⟨"OneWayTillNoonModel", "along", "(II)I"⟩, 25), (⟨"OneWayTillNoonModel", "areMet", "(II)Z"⟩, 25), (⟨"OneWayTillNoonModel", "stays", "(I)V"⟩, 25), (⟨"OneWayTillNoonModel", "isReached", "(III)Z"⟩, 25)]
theorem lw_r4 : ∀ q ∈ lw_privs_4, lw_okq q := List.forall_mem_cons.mpr ⟨lw_p48, List.forall_mem_cons.mpr ⟨lw_p49, List.forall_mem_cons.mpr ⟨lw_p50, List.forall_mem_cons.mpr ⟨lw_p51, List.forall_mem_cons.mpr ⟨lw_p52, List.forall_mem_cons.mpr ⟨lw_p53, List.forall_mem_cons.mpr ⟨lw_p54, List.forall_mem_cons.mpr ⟨lw_p55, List.forall_mem_cons.mpr ⟨lw_p56, List.forall_mem_cons.mpr ⟨lw_p57, List.forall_mem_cons.mpr ⟨lw_p58, List.forall_mem_cons.mpr ⟨lw_p59, List.forall_mem_cons.mpr ⟨lw_p60, List.forall_mem_cons.mpr ⟨lw_p61, List.forall_mem_cons.mpr ⟨lw_p62, fun _ h => absurd h List.not_mem_nil⟩⟩⟩⟩⟩⟩⟩⟩⟩⟩⟩⟩⟩⟩⟩
def lw_privs : List (MethodName × Nat) := lw_privs_1 ++ (lw_privs_2 ++ (lw_privs_3 ++ (lw_privs_4)))
def lw_tbl : List Cond := k2_sels lw_privs ++ tables_1
theorem lw_privs_ok : ∀ q ∈ lw_privs, lw_okq q := by
  show ∀ q ∈ lw_privs_1 ++ (lw_privs_2 ++ (lw_privs_3 ++ (lw_privs_4))), lw_okq q
  exact List.forall_mem_append.mpr ⟨lw_r1, List.forall_mem_append.mpr ⟨lw_r2, List.forall_mem_append.mpr ⟨lw_r3, lw_r4⟩⟩⟩
end
section
def RX0 : String := "OneWayTillNoon$Frozen"
def TX0 : u_T := fun k => match k with
  | 0 => ("OneWayTillNoon$Frozen", "town", "LOneWayTillNoon$Town;", true)
  | 1 => ("OneWayTillNoon$Frozen", "traffic", "LOneWayTillNoon$Traffic;", true)
  | _ => ("OneWayTillNoon$Frozen", "least", "[[I", true)
def tyX0 : Nat → FieldType := fun k => match k with
  | 0 => .object "OneWayTillNoon$Town"
  | 1 => .object "OneWayTillNoon$Traffic"
  | _ => .array (.array .int)
abbrev wsX00 : List Cond := u_ws RX0 TX0 3
theorem nmX0 : ∀ a, a < 3 → ∀ b, b < 3 → a ≠ b → (TX0 a).2.1 ≠ (TX0 b).2.1 := by decide +kernel
theorem tyX0_ok : ∀ k, k < 3 → parseFieldDescriptor (TX0 k).2.2.1 = some (tyX0 k) := by decide +kernel
abbrev cX0_init : ByteArray := prog_2_method_1_code
def yX0_init : MethodName := ⟨RX0, "<init>", "(LOneWayTillNoon$Town;LOneWayTillNoon$Traffic;)V"⟩
abbrev cX0_lay : ByteArray := prog_2_method_2_code
def yX0_lay : MethodName := ⟨RX0, "lay", "(I)V"⟩
abbrev cX0_layStep : ByteArray := prog_2_method_3_code
def yX0_layStep : MethodName := ⟨RX0, "layStep", "(III)V"⟩
abbrev cX0_join : ByteArray := prog_2_method_4_code
def yX0_join : MethodName := ⟨RX0, "join", "()V"⟩
abbrev cX0_joinBy : ByteArray := prog_2_method_5_code
def yX0_joinBy : MethodName := ⟨RX0, "joinBy", "([I[II)V"⟩
abbrev cX0_pairsApart : ByteArray := prog_2_method_6_code
def yX0_pairsApart : MethodName := ⟨RX0, "pairsApart", "()I"⟩
abbrev cX0_firstApart : ByteArray := prog_2_method_7_code
def yX0_firstApart : MethodName := ⟨RX0, "firstApart", "()I"⟩
abbrev cX0_isApart : ByteArray := prog_2_method_8_code
def yX0_isApart : MethodName := ⟨RX0, "isApart", "(II)Z"⟩
abbrev cX0_farthest : ByteArray := prog_2_method_9_code
def yX0_farthest : MethodName := ⟨RX0, "farthest", "()I"⟩
abbrev cX0_roundOfRow : ByteArray := prog_2_method_10_code
def yX0_roundOfRow : MethodName := ⟨RX0, "roundOfRow", "()I"⟩
def RX1 : String := "OneWayTillNoon$Ledger"
def TX1 : u_T := fun k => match k with
  | 0 => ("OneWayTillNoon$Ledger", "town", "LOneWayTillNoon$Town;", true)
  | 1 => ("OneWayTillNoon$Ledger", "travel", "LOneWayTillNoon$Travel;", true)
  | _ => ("OneWayTillNoon$Ledger", "seed", "I", false)
def tyX1 : Nat → FieldType := fun k => match k with
  | 0 => .object "OneWayTillNoon$Town"
  | 1 => .object "OneWayTillNoon$Travel"
  | _ => .int
abbrev wsX10 : List Cond := u_ws RX1 TX1 3
theorem nmX1 : ∀ a, a < 3 → ∀ b, b < 3 → a ≠ b → (TX1 a).2.1 ≠ (TX1 b).2.1 := by decide +kernel
theorem tyX1_ok : ∀ k, k < 3 → parseFieldDescriptor (TX1 k).2.2.1 = some (tyX1 k) := by decide +kernel
abbrev cX1_init : ByteArray := prog_3_method_1_code
def yX1_init : MethodName := ⟨RX1, "<init>", "(LOneWayTillNoon$Town;LOneWayTillNoon$Travel;)V"⟩
abbrev cX1_total : ByteArray := prog_3_method_2_code
def yX1_total : MethodName := ⟨RX1, "total", "()I"⟩
abbrev cX1_totalUpTo : ByteArray := prog_3_method_3_code
def yX1_totalUpTo : MethodName := ⟨RX1, "totalUpTo", "(I)I"⟩
abbrev cX1_minutesOf : ByteArray := prog_3_method_4_code
def yX1_minutesOf : MethodName := ⟨RX1, "minutesOf", "(III)I"⟩
abbrev cX1_cheapestHome : ByteArray := prog_3_method_5_code
def yX1_cheapestHome : MethodName := ⟨RX1, "cheapestHome", "()I"⟩
abbrev cX1_totalOfDays : ByteArray := prog_3_method_6_code
def yX1_totalOfDays : MethodName := ⟨RX1, "totalOfDays", "(II)I"⟩
abbrev cX1_drawBelow : ByteArray := prog_3_method_7_code
def yX1_drawBelow : MethodName := ⟨RX1, "drawBelow", "(I)I"⟩
def RX2 : String := "OneWayTillNoon$Plan"
def TX2 : u_T := fun k => match k with
  | 0 => ("OneWayTillNoon$Plan", "town", "LOneWayTillNoon$Town;", true)
  | 1 => ("OneWayTillNoon$Plan", "cameFrom", "[I", true)
  | _ => ("OneWayTillNoon$Plan", "nextStreet", "[I", true)
def tyX2 : Nat → FieldType := fun k => match k with
  | 0 => .object "OneWayTillNoon$Town"
  | 1 => .array .int
  | _ => .array .int
abbrev wsX20 : List Cond := u_ws RX2 TX2 3
theorem nmX2 : ∀ a, a < 3 → ∀ b, b < 3 → a ≠ b → (TX2 a).2.1 ≠ (TX2 b).2.1 := by decide +kernel
theorem tyX2_ok : ∀ k, k < 3 → parseFieldDescriptor (TX2 k).2.2.1 = some (tyX2 k) := by decide +kernel
abbrev cX2_init : ByteArray := prog_4_method_1_code
def yX2_init : MethodName := ⟨RX2, "<init>", "(LOneWayTillNoon$Town;)V"⟩
abbrev cX2_hangsTogether : ByteArray := prog_4_method_2_code
def yX2_hangsTogether : MethodName := ⟨RX2, "hangsTogether", "()Z"⟩
abbrev cX2_bridgeOnes : ByteArray := prog_4_method_3_code
def yX2_bridgeOnes : MethodName := ⟨RX2, "bridgeOnes", "()I"⟩
abbrev cX2_cornersFrom : ByteArray := prog_4_method_4_code
def yX2_cornersFrom : MethodName := ⟨RX2, "cornersFrom", "(II)I"⟩
abbrev cX2_walkThrough : ByteArray := prog_4_method_5_code
def yX2_walkThrough : MethodName := ⟨RX2, "walkThrough", "()I"⟩
abbrev cX2_otherEnd : ByteArray := prog_4_method_6_code
def yX2_otherEnd : MethodName := ⟨RX2, "otherEnd", "(II)I"⟩
def RX3 : String := "OneWayTillNoon$Reader"
def TX3 : u_T := fun k => match k with
  | 0 => ("OneWayTillNoon$Reader", "tape", "LOneWayTillNoon$Tape;", true)
  | 1 => ("OneWayTillNoon$Reader", "trial", "LOneWayTillNoon$Town;", true)
  | 2 => ("OneWayTillNoon$Reader", "place", "I", false)
  | 3 => ("OneWayTillNoon$Reader", "letter", "I", false)
  | 4 => ("OneWayTillNoon$Reader", "letterPlace", "I", false)
  | 5 => ("OneWayTillNoon$Reader", "numbers", "[I", true)
  | _ => ("OneWayTillNoon$Reader", "broad", "Z", false)
def tyX3 : Nat → FieldType := fun k => match k with
  | 0 => .object "OneWayTillNoon$Tape"
  | 1 => .object "OneWayTillNoon$Town"
  | 2 => .int
  | 3 => .int
  | 4 => .int
  | 5 => .array .int
  | _ => .boolean
abbrev wsX30 : List Cond := u_ws RX3 TX3 7
theorem nmX3 : ∀ a, a < 7 → ∀ b, b < 7 → a ≠ b → (TX3 a).2.1 ≠ (TX3 b).2.1 := by decide +kernel
theorem tyX3_ok : ∀ k, k < 7 → parseFieldDescriptor (TX3 k).2.2.1 = some (tyX3 k) := by decide +kernel
abbrev cX3_init : ByteArray := prog_5_method_1_code
def yX3_init : MethodName := ⟨RX3, "<init>", "(LOneWayTillNoon$Tape;)V"⟩
abbrev cX3_readInto : ByteArray := prog_5_method_2_code
def yX3_readInto : MethodName := ⟨RX3, "readInto", "(LOneWayTillNoon$Town;)I"⟩
abbrev cX3_statementsWritten : ByteArray := prog_5_method_3_code
def yX3_statementsWritten : MethodName := ⟨RX3, "statementsWritten", "()I"⟩
abbrev cX3_readStatement : ByteArray := prog_5_method_4_code
def yX3_readStatement : MethodName := ⟨RX3, "readStatement", "()Z"⟩
abbrev cX3_number : ByteArray := prog_5_method_5_code
def yX3_number : MethodName := ⟨RX3, "number", "(II)Z"⟩
abbrev cX3_isDigit : ByteArray := prog_5_method_6_code
def yX3_isDigit : MethodName := ⟨RX3, "isDigit", "(I)Z"⟩
abbrev cX3_sign : ByteArray := prog_5_method_7_code
def yX3_sign : MethodName := ⟨RX3, "sign", "(C)Z"⟩
abbrev cX3_broadOrNot : ByteArray := prog_5_method_8_code
def yX3_broadOrNot : MethodName := ⟨RX3, "broadOrNot", "()Z"⟩
abbrev cX3_tell : ByteArray := prog_5_method_9_code
def yX3_tell : MethodName := ⟨RX3, "tell", "()Z"⟩
def RX4 : String := "OneWayTillNoon$Road"
def TX4 : u_T := fun k => match k with
  | 0 => ("OneWayTillNoon$Road", "town", "LOneWayTillNoon$Town;", true)
  | 1 => ("OneWayTillNoon$Road", "traffic", "LOneWayTillNoon$Traffic;", true)
  | 2 => ("OneWayTillNoon$Road", "travel", "LOneWayTillNoon$Travel;", true)
  | 3 => ("OneWayTillNoon$Road", "streets", "[I", true)
  | 4 => ("OneWayTillNoon$Road", "corners", "[I", true)
  | 5 => ("OneWayTillNoon$Road", "comes", "[I", true)
  | 6 => ("OneWayTillNoon$Road", "goes", "[I", true)
  | _ => ("OneWayTillNoon$Road", "length", "I", false)
def tyX4 : Nat → FieldType := fun k => match k with
  | 0 => .object "OneWayTillNoon$Town"
  | 1 => .object "OneWayTillNoon$Traffic"
  | 2 => .object "OneWayTillNoon$Travel"
  | 3 => .array .int
  | 4 => .array .int
  | 5 => .array .int
  | 6 => .array .int
  | _ => .int
abbrev wsX40 : List Cond := u_ws RX4 TX4 8
theorem nmX4 : ∀ a, a < 8 → ∀ b, b < 8 → a ≠ b → (TX4 a).2.1 ≠ (TX4 b).2.1 := by decide +kernel
theorem tyX4_ok : ∀ k, k < 8 → parseFieldDescriptor (TX4 k).2.2.1 = some (tyX4 k) := by decide +kernel
abbrev cX4_init : ByteArray := prog_6_method_1_code
def yX4_init : MethodName := ⟨RX4, "<init>", "(LOneWayTillNoon$Town;LOneWayTillNoon$Traffic;LOneWayTillNoon$Travel;)V"⟩
abbrev cX4_trace : ByteArray := prog_6_method_2_code
def yX4_trace : MethodName := ⟨RX4, "trace", "(III)V"⟩
abbrev cX4_traceBack : ByteArray := prog_6_method_3_code
def yX4_traceBack : MethodName := ⟨RX4, "traceBack", "()Z"⟩
abbrev cX4_cameBy : ByteArray := prog_6_method_4_code
def yX4_cameBy : MethodName := ⟨RX4, "cameBy", "(III)Z"⟩
abbrev cX4_streetAt : ByteArray := prog_6_method_5_code
def yX4_streetAt : MethodName := ⟨RX4, "streetAt", "(I)I"⟩
abbrev cX4_minutesWaited : ByteArray := prog_6_method_6_code
def yX4_minutesWaited : MethodName := ⟨RX4, "minutesWaited", "()I"⟩
abbrev cX4_crosses : ByteArray := prog_6_method_7_code
def yX4_crosses : MethodName := ⟨RX4, "crosses", "(LOneWayTillNoon$Road;)Z"⟩
def RX5 : String := "OneWayTillNoon$Tape"
def TX5 : u_T := fun k => match k with
  | 0 => ("OneWayTillNoon$Tape", "bytes", "[I", true)
  | _ => ("OneWayTillNoon$Tape", "length", "I", false)
def tyX5 : Nat → FieldType := fun k => match k with
  | 0 => .array .int
  | _ => .int
abbrev wsX50 : List Cond := u_ws RX5 TX5 2
theorem nmX5 : ∀ a, a < 2 → ∀ b, b < 2 → a ≠ b → (TX5 a).2.1 ≠ (TX5 b).2.1 := by decide +kernel
theorem tyX5_ok : ∀ k, k < 2 → parseFieldDescriptor (TX5 k).2.2.1 = some (tyX5 k) := by decide +kernel
abbrev cX5_init : ByteArray := prog_7_method_1_code
def yX5_init : MethodName := ⟨RX5, "<init>", "()V"⟩
abbrev cX5_add : ByteArray := prog_7_method_2_code
def yX5_add : MethodName := ⟨RX5, "add", "(I)V"⟩
abbrev cX5_byteAt : ByteArray := prog_7_method_3_code
def yX5_byteAt : MethodName := ⟨RX5, "byteAt", "(I)I"⟩
def RX6 : String := "OneWayTillNoon$Town"
def TX6 : u_T := fun k => match k with
  | 0 => ("OneWayTillNoon$Town", "corners", "I", false)
  | 1 => ("OneWayTillNoon$Town", "streets", "I", false)
  | 2 => ("OneWayTillNoon$Town", "errands", "I", false)
  | 3 => ("OneWayTillNoon$Town", "rowLength", "I", false)
  | 4 => ("OneWayTillNoon$Town", "broadOnes", "I", false)
  | 5 => ("OneWayTillNoon$Town", "shutOnes", "I", false)
  | 6 => ("OneWayTillNoon$Town", "pointing", "I", false)
  | 7 => ("OneWayTillNoon$Town", "tails", "[I", true)
  | 8 => ("OneWayTillNoon$Town", "heads", "[I", true)
  | 9 => ("OneWayTillNoon$Town", "minutes", "[I", true)
  | 10 => ("OneWayTillNoon$Town", "musts", "[I", true)
  | 11 => ("OneWayTillNoon$Town", "froms", "[I", true)
  | 12 => ("OneWayTillNoon$Town", "tos", "[I", true)
  | 13 => ("OneWayTillNoon$Town", "ats", "[I", true)
  | 14 => ("OneWayTillNoon$Town", "worths", "[I", true)
  | 15 => ("OneWayTillNoon$Town", "row", "[I", true)
  | _ => ("OneWayTillNoon$Town", "settings", "[I", true)
def tyX6 : Nat → FieldType := fun k => match k with
  | 0 => .int
  | 1 => .int
  | 2 => .int
  | 3 => .int
  | 4 => .int
  | 5 => .int
  | 6 => .int
  | 7 => .array .int
  | 8 => .array .int
  | 9 => .array .int
  | 10 => .array .int
  | 11 => .array .int
  | 12 => .array .int
  | 13 => .array .int
  | 14 => .array .int
  | 15 => .array .int
  | _ => .array .int
abbrev wsX60 : List Cond := u_ws RX6 TX6 17
theorem nmX6 : ∀ a, a < 17 → ∀ b, b < 17 → a ≠ b → (TX6 a).2.1 ≠ (TX6 b).2.1 := by decide +kernel
theorem tyX6_ok : ∀ k, k < 17 → parseFieldDescriptor (TX6 k).2.2.1 = some (tyX6 k) := by decide +kernel
abbrev cX6_init : ByteArray := prog_8_method_1_code
def yX6_init : MethodName := ⟨RX6, "<init>", "()V"⟩
abbrev cX6_takeFrom : ByteArray := prog_8_method_2_code
def yX6_takeFrom : MethodName := ⟨RX6, "takeFrom", "(LOneWayTillNoon$Town;)V"⟩
abbrev cX6_hasCorner : ByteArray := prog_8_method_3_code
def yX6_hasCorner : MethodName := ⟨RX6, "hasCorner", "(I)Z"⟩
abbrev cX6_hasStreet : ByteArray := prog_8_method_4_code
def yX6_hasStreet : MethodName := ⟨RX6, "hasStreet", "(I)Z"⟩
abbrev cX6_hasErrand : ByteArray := prog_8_method_5_code
def yX6_hasErrand : MethodName := ⟨RX6, "hasErrand", "(I)Z"⟩
abbrev cX6_tellCorners : ByteArray := prog_8_method_6_code
def yX6_tellCorners : MethodName := ⟨RX6, "tellCorners", "(I)Z"⟩
abbrev cX6_cornersToldOf : ByteArray := prog_8_method_7_code
def yX6_cornersToldOf : MethodName := ⟨RX6, "cornersToldOf", "()I"⟩
abbrev cX6_areTwoCorners : ByteArray := prog_8_method_8_code
def yX6_areTwoCorners : MethodName := ⟨RX6, "areTwoCorners", "(II)Z"⟩
abbrev cX6_tellStreet : ByteArray := prog_8_method_9_code
def yX6_tellStreet : MethodName := ⟨RX6, "tellStreet", "(IIIZ)Z"⟩
abbrev cX6_tellErrand : ByteArray := prog_8_method_10_code
def yX6_tellErrand : MethodName := ⟨RX6, "tellErrand", "(IIII)Z"⟩
abbrev cX6_tellMust : ByteArray := prog_8_method_11_code
def yX6_tellMust : MethodName := ⟨RX6, "tellMust", "(II)Z"⟩
abbrev cX6_mustsTold : ByteArray := prog_8_method_12_code
def yX6_mustsTold : MethodName := ⟨RX6, "mustsTold", "()I"⟩
abbrev cX6_mustLets : ByteArray := prog_8_method_13_code
def yX6_mustLets : MethodName := ⟨RX6, "mustLets", "(II)Z"⟩
abbrev cX6_firstMustUnkept : ByteArray := prog_8_method_14_code
def yX6_firstMustUnkept : MethodName := ⟨RX6, "firstMustUnkept", "(I)I"⟩
def RX7 : String := "OneWayTillNoon$Traffic"
def TX7 : u_T := fun k => match k with
  | 0 => ("OneWayTillNoon$Traffic", "town", "LOneWayTillNoon$Town;", true)
  | 1 => ("OneWayTillNoon$Traffic", "rule", "I", false)
  | 2 => ("OneWayTillNoon$Traffic", "noon", "I", false)
  | 3 => ("OneWayTillNoon$Traffic", "every", "I", false)
  | 4 => ("OneWayTillNoon$Traffic", "bits", "I", false)
  | 5 => ("OneWayTillNoon$Traffic", "shutOnes", "I", false)
  | 6 => ("OneWayTillNoon$Traffic", "openOnes", "I", false)
  | 7 => ("OneWayTillNoon$Traffic", "minute", "I", false)
  | 8 => ("OneWayTillNoon$Traffic", "nextTurn", "I", false)
  | _ => ("OneWayTillNoon$Traffic", "bitsThen", "I", false)
def tyX7 : Nat → FieldType := fun k => match k with
  | 0 => .object "OneWayTillNoon$Town"
  | 1 => .int
  | 2 => .int
  | 3 => .int
  | 4 => .int
  | 5 => .int
  | 6 => .int
  | 7 => .int
  | 8 => .int
  | _ => .int
abbrev wsX70 : List Cond := u_ws RX7 TX7 10
theorem nmX7 : ∀ a, a < 10 → ∀ b, b < 10 → a ≠ b → (TX7 a).2.1 ≠ (TX7 b).2.1 := by decide +kernel
theorem tyX7_ok : ∀ k, k < 10 → parseFieldDescriptor (TX7 k).2.2.1 = some (tyX7 k) := by decide +kernel
abbrev cX7_init : ByteArray := prog_9_method_1_code
def yX7_init : MethodName := ⟨RX7, "<init>", "(LOneWayTillNoon$Town;)V"⟩
abbrev cX7_takeAsItIs : ByteArray := prog_9_method_2_code
def yX7_takeAsItIs : MethodName := ⟨RX7, "takeAsItIs", "()V"⟩
abbrev cX7_pointAs : ByteArray := prog_9_method_3_code
def yX7_pointAs : MethodName := ⟨RX7, "pointAs", "(I)V"⟩
abbrev cX7_openBothWays : ByteArray := prog_9_method_4_code
def yX7_openBothWays : MethodName := ⟨RX7, "openBothWays", "(I)V"⟩
abbrev cX7_shutAlso : ByteArray := prog_9_method_5_code
def yX7_shutAlso : MethodName := ⟨RX7, "shutAlso", "(I)V"⟩
abbrev cX7_turnAt : ByteArray := prog_9_method_6_code
def yX7_turnAt : MethodName := ⟨RX7, "turnAt", "(I)V"⟩
abbrev cX7_standAt : ByteArray := prog_9_method_7_code
def yX7_standAt : MethodName := ⟨RX7, "standAt", "(I)V"⟩
abbrev cX7_wayOf : ByteArray := prog_9_method_8_code
def yX7_wayOf : MethodName := ⟨RX7, "wayOf", "(I)I"⟩
abbrev cX7_entryOf : ByteArray := prog_9_method_9_code
def yX7_entryOf : MethodName := ⟨RX7, "entryOf", "(II)I"⟩
def RX8 : String := "OneWayTillNoon$Travel"
def TX8 : u_T := fun k => match k with
  | 0 => ("OneWayTillNoon$Travel", "town", "LOneWayTillNoon$Town;", true)
  | 1 => ("OneWayTillNoon$Travel", "traffic", "LOneWayTillNoon$Traffic;", true)
  | 2 => ("OneWayTillNoon$Travel", "soonestAt", "[I", true)
  | _ => ("OneWayTillNoon$Travel", "settled", "I", false)
def tyX8 : Nat → FieldType := fun k => match k with
  | 0 => .object "OneWayTillNoon$Town"
  | 1 => .object "OneWayTillNoon$Traffic"
  | 2 => .array .int
  | _ => .int
abbrev wsX80 : List Cond := u_ws RX8 TX8 4
theorem nmX8 : ∀ a, a < 4 → ∀ b, b < 4 → a ≠ b → (TX8 a).2.1 ≠ (TX8 b).2.1 := by decide +kernel
theorem tyX8_ok : ∀ k, k < 4 → parseFieldDescriptor (TX8 k).2.2.1 = some (tyX8 k) := by decide +kernel
abbrev cX8_init : ByteArray := prog_10_method_1_code
def yX8_init : MethodName := ⟨RX8, "<init>", "(LOneWayTillNoon$Town;LOneWayTillNoon$Traffic;)V"⟩
abbrev cX8_setOut : ByteArray := prog_10_method_2_code
def yX8_setOut : MethodName := ⟨RX8, "setOut", "(III)V"⟩
abbrev cX8_minuteAt : ByteArray := prog_10_method_3_code
def yX8_minuteAt : MethodName := ⟨RX8, "minuteAt", "(I)I"⟩
abbrev cX8_soonestUnsettled : ByteArray := prog_10_method_4_code
def yX8_soonestUnsettled : MethodName := ⟨RX8, "soonestUnsettled", "()I"⟩
abbrev cX8_goOnFrom : ByteArray := prog_10_method_5_code
def yX8_goOnFrom : MethodName := ⟨RX8, "goOnFrom", "(I)V"⟩
abbrev cX8_goAlong : ByteArray := prog_10_method_6_code
def yX8_goAlong : MethodName := ⟨RX8, "goAlong", "(III)V"⟩
def RX9 : String := "OneWayTillNoon$Trials"
def TX9 : u_T := fun k => match k with
  | 0 => ("OneWayTillNoon$Trials", "town", "LOneWayTillNoon$Town;", true)
  | 1 => ("OneWayTillNoon$Trials", "traffic", "LOneWayTillNoon$Traffic;", true)
  | 2 => ("OneWayTillNoon$Trials", "travel", "LOneWayTillNoon$Travel;", true)
  | 3 => ("OneWayTillNoon$Trials", "frozen", "LOneWayTillNoon$Frozen;", true)
  | _ => ("OneWayTillNoon$Trials", "ledger", "LOneWayTillNoon$Ledger;", true)
def tyX9 : Nat → FieldType := fun k => match k with
  | 0 => .object "OneWayTillNoon$Town"
  | 1 => .object "OneWayTillNoon$Traffic"
  | 2 => .object "OneWayTillNoon$Travel"
  | 3 => .object "OneWayTillNoon$Frozen"
  | _ => .object "OneWayTillNoon$Ledger"
abbrev wsX90 : List Cond := u_ws RX9 TX9 5
theorem nmX9 : ∀ a, a < 5 → ∀ b, b < 5 → a ≠ b → (TX9 a).2.1 ≠ (TX9 b).2.1 := by decide +kernel
theorem tyX9_ok : ∀ k, k < 5 → parseFieldDescriptor (TX9 k).2.2.1 = some (tyX9 k) := by decide +kernel
abbrev cX9_init : ByteArray := prog_11_method_1_code
def yX9_init : MethodName := ⟨RX9, "<init>", "(LOneWayTillNoon$Town;LOneWayTillNoon$Traffic;LOneWayTillNoon$Travel;LOneWayTillNoon$Frozen;LOneWayTillNoon$Ledger;)V"⟩
abbrev cX9_cheapestPointing : ByteArray := prog_11_method_2_code
def yX9_cheapestPointing : MethodName := ⟨RX9, "cheapestPointing", "()I"⟩
abbrev cX9_nearestPointing : ByteArray := prog_11_method_3_code
def yX9_nearestPointing : MethodName := ⟨RX9, "nearestPointing", "()I"⟩
abbrev cX9_turnedPointing : ByteArray := prog_11_method_4_code
def yX9_turnedPointing : MethodName := ⟨RX9, "turnedPointing", "()I"⟩
abbrev cX9_fewestForCost : ByteArray := prog_11_method_5_code
def yX9_fewestForCost : MethodName := ⟨RX9, "fewestForCost", "(I)I"⟩
abbrev cX9_fewestForReach : ByteArray := prog_11_method_6_code
def yX9_fewestForReach : MethodName := ⟨RX9, "fewestForReach", "(III)I"⟩
abbrev cX9_allReachedBy : ByteArray := prog_11_method_7_code
def yX9_allReachedBy : MethodName := ⟨RX9, "allReachedBy", "(I)Z"⟩
abbrev cX9_nextByFewest : ByteArray := prog_11_method_8_code
def yX9_nextByFewest : MethodName := ⟨RX9, "nextByFewest", "(I)I"⟩
abbrev cX9_cheapestNoon : ByteArray := prog_11_method_9_code
def yX9_cheapestNoon : MethodName := ⟨RX9, "cheapestNoon", "()I"⟩
def RX10 : String := "OneWayTillNoon"
def TX10 : u_T := fun k => match k with
  | 0 => ("OneWayTillNoon", "now", "LOneWayTillNoon$Town;", true)
  | 1 => ("OneWayTillNoon", "kept", "LOneWayTillNoon$Town;", true)
  | 2 => ("OneWayTillNoon", "tape", "LOneWayTillNoon$Tape;", true)
  | 3 => ("OneWayTillNoon", "reader", "LOneWayTillNoon$Reader;", true)
  | 4 => ("OneWayTillNoon", "traffic", "LOneWayTillNoon$Traffic;", true)
  | 5 => ("OneWayTillNoon", "travel", "LOneWayTillNoon$Travel;", true)
  | 6 => ("OneWayTillNoon", "frozen", "LOneWayTillNoon$Frozen;", true)
  | 7 => ("OneWayTillNoon", "plan", "LOneWayTillNoon$Plan;", true)
  | 8 => ("OneWayTillNoon", "ledger", "LOneWayTillNoon$Ledger;", true)
  | 9 => ("OneWayTillNoon", "trials", "LOneWayTillNoon$Trials;", true)
  | 10 => ("OneWayTillNoon", "roads", "[LOneWayTillNoon$Road;", true)
  | 11 => ("OneWayTillNoon", "refusals", "[I", true)
  | _ => ("OneWayTillNoon", "imageTaken", "Z", false)
def tyX10 : Nat → FieldType := fun k => match k with
  | 0 => .object "OneWayTillNoon$Town"
  | 1 => .object "OneWayTillNoon$Town"
  | 2 => .object "OneWayTillNoon$Tape"
  | 3 => .object "OneWayTillNoon$Reader"
  | 4 => .object "OneWayTillNoon$Traffic"
  | 5 => .object "OneWayTillNoon$Travel"
  | 6 => .object "OneWayTillNoon$Frozen"
  | 7 => .object "OneWayTillNoon$Plan"
  | 8 => .object "OneWayTillNoon$Ledger"
  | 9 => .object "OneWayTillNoon$Trials"
  | 10 => .array (.object "OneWayTillNoon$Road")
  | 11 => .array .int
  | _ => .boolean
abbrev wsX100 : List Cond := u_ws RX10 TX10 13
theorem nmX10 : ∀ a, a < 13 → ∀ b, b < 13 → a ≠ b → (TX10 a).2.1 ≠ (TX10 b).2.1 := by decide +kernel
theorem tyX10_ok : ∀ k, k < 13 → parseFieldDescriptor (TX10 k).2.2.1 = some (tyX10 k) := by decide +kernel
abbrev cX10_init : ByteArray := prog_1_method_1_code
def yX10_init : MethodName := ⟨RX10, "<init>", "()V"⟩
abbrev cX10_feed : ByteArray := prog_1_method_2_code
def yX10_feed : MethodName := ⟨RX10, "feed", "(IJ)I"⟩
abbrev cX10_town : ByteArray := prog_1_method_3_code
def yX10_town : MethodName := ⟨RX10, "town", "()I"⟩
abbrev cX10_street : ByteArray := prog_1_method_4_code
def yX10_street : MethodName := ⟨RX10, "street", "(II)I"⟩
abbrev cX10_errand : ByteArray := prog_1_method_5_code
def yX10_errand : MethodName := ⟨RX10, "errand", "(II)I"⟩
abbrev cX10_set : ByteArray := prog_1_method_6_code
def yX10_set : MethodName := ⟨RX10, "set", "(II)I"⟩
abbrev cX10_point : ByteArray := prog_1_method_7_code
def yX10_point : MethodName := ⟨RX10, "point", "(I)I"⟩
abbrev cX10_shut : ByteArray := prog_1_method_8_code
def yX10_shut : MethodName := ⟨RX10, "shut", "(IZ)I"⟩
abbrev cX10_way : ByteArray := prog_1_method_9_code
def yX10_way : MethodName := ⟨RX10, "way", "(II)I"⟩
abbrev cX10_soonest : ByteArray := prog_1_method_10_code
def yX10_soonest : MethodName := ⟨RX10, "soonest", "(III)I"⟩
abbrev cX10_waited : ByteArray := prog_1_method_11_code
def yX10_waited : MethodName := ⟨RX10, "waited", "(III)I"⟩
abbrev cX10_road : ByteArray := prog_1_method_12_code
def yX10_road : MethodName := ⟨RX10, "road", "(IIII)I"⟩
abbrev cX10_all : ByteArray := prog_1_method_13_code
def yX10_all : MethodName := ⟨RX10, "all", "(I)I"⟩
abbrev cX10_longest : ByteArray := prog_1_method_14_code
def yX10_longest : MethodName := ⟨RX10, "longest", "(I)I"⟩
abbrev cX10_apart : ByteArray := prog_1_method_15_code
def yX10_apart : MethodName := ⟨RX10, "apart", "(I)I"⟩
abbrev cX10_can : ByteArray := prog_1_method_16_code
def yX10_can : MethodName := ⟨RX10, "can", "()I"⟩
abbrev cX10_bridges : ByteArray := prog_1_method_17_code
def yX10_bridges : MethodName := ⟨RX10, "bridges", "()I"⟩
abbrev cX10_walk : ByteArray := prog_1_method_18_code
def yX10_walk : MethodName := ⟨RX10, "walk", "()I"⟩
abbrev cX10_cost : ByteArray := prog_1_method_19_code
def yX10_cost : MethodName := ⟨RX10, "cost", "()I"⟩
abbrev cX10_best : ByteArray := prog_1_method_20_code
def yX10_best : MethodName := ⟨RX10, "best", "()I"⟩
abbrev cX10_far : ByteArray := prog_1_method_21_code
def yX10_far : MethodName := ⟨RX10, "far", "()I"⟩
abbrev cX10_turning : ByteArray := prog_1_method_22_code
def yX10_turning : MethodName := ⟨RX10, "turning", "()I"⟩
abbrev cX10_bothWays : ByteArray := prog_1_method_23_code
def yX10_bothWays : MethodName := ⟨RX10, "bothWays", "(I)I"⟩
abbrev cX10_corner : ByteArray := prog_1_method_24_code
def yX10_corner : MethodName := ⟨RX10, "corner", "(I)I"⟩
abbrev cX10_procession : ByteArray := prog_1_method_25_code
def yX10_procession : MethodName := ⟨RX10, "procession", "()I"⟩
abbrev cX10_bestNoon : ByteArray := prog_1_method_26_code
def yX10_bestNoon : MethodName := ⟨RX10, "bestNoon", "()I"⟩
abbrev cX10_lives : ByteArray := prog_1_method_27_code
def yX10_lives : MethodName := ⟨RX10, "lives", "()I"⟩
abbrev cX10_meets : ByteArray := prog_1_method_28_code
def yX10_meets : MethodName := ⟨RX10, "meets", "(II)I"⟩
abbrev cX10_pairs : ByteArray := prog_1_method_29_code
def yX10_pairs : MethodName := ⟨RX10, "pairs", "()I"⟩
abbrev cX10_lanes : ByteArray := prog_1_method_30_code
def yX10_lanes : MethodName := ⟨RX10, "lanes", "(III)I"⟩
abbrev cX10_shuts : ByteArray := prog_1_method_31_code
def yX10_shuts : MethodName := ⟨RX10, "shuts", "(I)I"⟩
abbrev cX10_days : ByteArray := prog_1_method_32_code
def yX10_days : MethodName := ⟨RX10, "days", "(II)I"⟩
abbrev cX10_judge : ByteArray := prog_1_method_33_code
def yX10_judge : MethodName := ⟨RX10, "judge", "()I"⟩
abbrev cX10_image : ByteArray := prog_1_method_34_code
def yX10_image : MethodName := ⟨RX10, "image", "()I"⟩
abbrev cX10_on : ByteArray := prog_1_method_35_code
def yX10_on : MethodName := ⟨RX10, "on", "()I"⟩
abbrev cX10_count : ByteArray := prog_1_method_36_code
def yX10_count : MethodName := ⟨RX10, "count", "(I)I"⟩
abbrev cX10_refuse : ByteArray := prog_1_method_37_code
def yX10_refuse : MethodName := ⟨RX10, "refuse", "(I)I"⟩
abbrev cX10_refusalOfMinute : ByteArray := prog_1_method_38_code
def yX10_refusalOfMinute : MethodName := ⟨RX10, "refusalOfMinute", "(I)I"⟩
abbrev cX10_refusalOfWay : ByteArray := prog_1_method_39_code
def yX10_refusalOfWay : MethodName := ⟨RX10, "refusalOfWay", "(III)I"⟩
abbrev cX10_refusalOfTrying : ByteArray := prog_1_method_40_code
def yX10_refusalOfTrying : MethodName := ⟨RX10, "refusalOfTrying", "()I"⟩
abbrev cX10_freezeAsItIs : ByteArray := prog_1_method_41_code
def yX10_freezeAsItIs : MethodName := ⟨RX10, "freezeAsItIs", "(I)V"⟩
abbrev cX10_traceErrand : ByteArray := prog_1_method_42_code
def yX10_traceErrand : MethodName := ⟨RX10, "traceErrand", "(I)V"⟩
abbrev cX10_bitOf : ByteArray := prog_1_method_43_code
def yX10_bitOf : MethodName := ⟨RX10, "bitOf", "(II)I"⟩
def RX11 : String := "OneWayTillNoonModel"
def TX11 : u_T := fun k => match k with
  | 0 => ("OneWayTillNoonModel", "refusals", "[I", true)
  | 1 => ("OneWayTillNoonModel", "s", "[I", true)
  | 2 => ("OneWayTillNoonModel", "image", "[I", true)
  | 3 => ("OneWayTillNoonModel", "read", "[I", true)
  | 4 => ("OneWayTillNoonModel", "isImage", "Z", false)
  | 5 => ("OneWayTillNoonModel", "tape", "[I", true)
  | 6 => ("OneWayTillNoonModel", "told", "[I", true)
  | 7 => ("OneWayTillNoonModel", "taped", "I", false)
  | 8 => ("OneWayTillNoonModel", "at", "I", false)
  | 9 => ("OneWayTillNoonModel", "times", "[I", true)
  | 10 => ("OneWayTillNoonModel", "settled", "[Z", true)
  | 11 => ("OneWayTillNoonModel", "corner", "[I", true)
  | 12 => ("OneWayTillNoonModel", "by", "[I", true)
  | 13 => ("OneWayTillNoonModel", "entered", "[I", true)
  | 14 => ("OneWayTillNoonModel", "steps", "I", false)
  | 15 => ("OneWayTillNoonModel", "waits", "I", false)
  | 16 => ("OneWayTillNoonModel", "far", "[I", true)
  | 17 => ("OneWayTillNoonModel", "walked", "I", false)
  | 18 => ("OneWayTillNoonModel", "walkBits", "I", false)
  | 19 => ("OneWayTillNoonModel", "seen", "I", false)
  | 20 => ("OneWayTillNoonModel", "kept", "[I", true)
  | 21 => ("OneWayTillNoonModel", "comesAt", "[I", true)
  | 22 => ("OneWayTillNoonModel", "goesAt", "[I", true)
  | 23 => ("OneWayTillNoonModel", "firstComes", "[I", true)
  | _ => ("OneWayTillNoonModel", "firstGoes", "[I", true)
def tyX11 : Nat → FieldType := fun k => match k with
  | 0 => .array .int
  | 1 => .array .int
  | 2 => .array .int
  | 3 => .array .int
  | 4 => .boolean
  | 5 => .array .int
  | 6 => .array .int
  | 7 => .int
  | 8 => .int
  | 9 => .array .int
  | 10 => .array .boolean
  | 11 => .array .int
  | 12 => .array .int
  | 13 => .array .int
  | 14 => .int
  | 15 => .int
  | 16 => .array .int
  | 17 => .int
  | 18 => .int
  | 19 => .int
  | 20 => .array .int
  | 21 => .array .int
  | 22 => .array .int
  | 23 => .array .int
  | _ => .array .int
abbrev wsX110 : List Cond := u_ws RX11 TX11 25
theorem nmX11 : ∀ a, a < 25 → ∀ b, b < 25 → a ≠ b → (TX11 a).2.1 ≠ (TX11 b).2.1 := by decide +kernel
theorem tyX11_ok : ∀ k, k < 25 → parseFieldDescriptor (TX11 k).2.2.1 = some (tyX11 k) := by decide +kernel
abbrev cX11_init : ByteArray := prog_13_method_1_code
def yX11_init : MethodName := ⟨RX11, "<init>", "()V"⟩
abbrev cX11_refuse : ByteArray := prog_13_method_2_code
def yX11_refuse : MethodName := ⟨RX11, "refuse", "(I)I"⟩
abbrev cX11_isIn : ByteArray := prog_13_method_3_code
def yX11_isIn : MethodName := ⟨RX11, "isIn", "(II)Z"⟩
abbrev cX11_within : ByteArray := prog_13_method_4_code
def yX11_within : MethodName := ⟨RX11, "within", "(III)I"⟩
abbrev cX11_isCorner : ByteArray := prog_13_method_5_code
def yX11_isCorner : MethodName := ⟨RX11, "isCorner", "(I)Z"⟩
abbrev cX11_isStreet : ByteArray := prog_13_method_6_code
def yX11_isStreet : MethodName := ⟨RX11, "isStreet", "(I)Z"⟩
abbrev cX11_isErrand : ByteArray := prog_13_method_7_code
def yX11_isErrand : MethodName := ⟨RX11, "isErrand", "(I)Z"⟩
abbrev cX11_get : ByteArray := prog_13_method_8_code
def yX11_get : MethodName := ⟨RX11, "get", "(II)I"⟩
abbrev cX11_of : ByteArray := prog_13_method_9_code
def yX11_of : MethodName := ⟨RX11, "of", "(II)I"⟩
abbrev cX11_feed : ByteArray := prog_13_method_10_code
def yX11_feed : MethodName := ⟨RX11, "feed", "(IJ)I"⟩
abbrev cX11_sign : ByteArray := prog_13_method_11_code
def yX11_sign : MethodName := ⟨RX11, "sign", "()I"⟩
abbrev cX11_takes : ByteArray := prog_13_method_12_code
def yX11_takes : MethodName := ⟨RX11, "takes", "(I)Z"⟩
abbrev cX11_readsNumber : ByteArray := prog_13_method_13_code
def yX11_readsNumber : MethodName := ⟨RX11, "readsNumber", "(II)Z"⟩
abbrev cX11_readsStatement : ByteArray := prog_13_method_14_code
def yX11_readsStatement : MethodName := ⟨RX11, "readsStatement", "()Z"⟩
abbrev cX11_toldOf : ByteArray := prog_13_method_15_code
def yX11_toldOf : MethodName := ⟨RX11, "toldOf", "()I"⟩
abbrev cX11_comes : ByteArray := prog_13_method_16_code
def yX11_comes : MethodName := ⟨RX11, "comes", "(I)Z"⟩
abbrev cX11_reads : ByteArray := prog_13_method_17_code
def yX11_reads : MethodName := ⟨RX11, "reads", "()I"⟩
abbrev cX11_town : ByteArray := prog_13_method_18_code
def yX11_town : MethodName := ⟨RX11, "town", "()I"⟩
abbrev cX11_street : ByteArray := prog_13_method_19_code
def yX11_street : MethodName := ⟨RX11, "street", "(II)I"⟩
abbrev cX11_errand : ByteArray := prog_13_method_20_code
def yX11_errand : MethodName := ⟨RX11, "errand", "(II)I"⟩
abbrev cX11_becomes : ByteArray := prog_13_method_21_code
def yX11_becomes : MethodName := ⟨RX11, "becomes", "(II)I"⟩
abbrev cX11_most : ByteArray := prog_13_method_22_code
def yX11_most : MethodName := ⟨RX11, "most", "(I)I"⟩
abbrev cX11_set : ByteArray := prog_13_method_23_code
def yX11_set : MethodName := ⟨RX11, "set", "(II)I"⟩
abbrev cX11_point : ByteArray := prog_13_method_24_code
def yX11_point : MethodName := ⟨RX11, "point", "(I)I"⟩
abbrev cX11_shut : ByteArray := prog_13_method_25_code
def yX11_shut : MethodName := ⟨RX11, "shut", "(IZ)I"⟩
abbrev cX11_wayOf : ByteArray := prog_13_method_26_code
def yX11_wayOf : MethodName := ⟨RX11, "wayOf", "(II)I"⟩
abbrev cX11_way : ByteArray := prog_13_method_27_code
def yX11_way : MethodName := ⟨RX11, "way", "(II)I"⟩
abbrev cX11_goesFrom : ByteArray := prog_13_method_28_code
def yX11_goesFrom : MethodName := ⟨RX11, "goesFrom", "(III)Z"⟩
abbrev cX11_enters : ByteArray := prog_13_method_29_code
def yX11_enters : MethodName := ⟨RX11, "enters", "(III)I"⟩
abbrev cX11_finds : ByteArray := prog_13_method_30_code
def yX11_finds : MethodName := ⟨RX11, "finds", "(II)V"⟩
abbrev cX11_wrongWay : ByteArray := prog_13_method_31_code
def yX11_wrongWay : MethodName := ⟨RX11, "wrongWay", "(III)I"⟩
abbrev cX11_soonest : ByteArray := prog_13_method_32_code
def yX11_soonest : MethodName := ⟨RX11, "soonest", "(III)I"⟩
abbrev cX11_findsRoad : ByteArray := prog_13_method_33_code
def yX11_findsRoad : MethodName := ⟨RX11, "findsRoad", "(III)Z"⟩
abbrev cX11_waited : ByteArray := prog_13_method_34_code
def yX11_waited : MethodName := ⟨RX11, "waited", "(III)I"⟩
abbrev cX11_road : ByteArray := prog_13_method_35_code
def yX11_road : MethodName := ⟨RX11, "road", "(IIII)I"⟩
abbrev cX11_findsFar : ByteArray := prog_13_method_36_code
def yX11_findsFar : MethodName := ⟨RX11, "findsFar", "(I)V"⟩
abbrev cX11_apartAt : ByteArray := prog_13_method_37_code
def yX11_apartAt : MethodName := ⟨RX11, "apartAt", "(I)I"⟩
abbrev cX11_longestAt : ByteArray := prog_13_method_38_code
def yX11_longestAt : MethodName := ⟨RX11, "longestAt", "(I)I"⟩
abbrev cX11_all : ByteArray := prog_13_method_39_code
def yX11_all : MethodName := ⟨RX11, "all", "(I)I"⟩
abbrev cX11_longest : ByteArray := prog_13_method_40_code
def yX11_longest : MethodName := ⟨RX11, "longest", "(I)I"⟩
abbrev cX11_apart : ByteArray := prog_13_method_41_code
def yX11_apart : MethodName := ⟨RX11, "apart", "(I)I"⟩
abbrev cX11_hang : ByteArray := prog_13_method_42_code
def yX11_hang : MethodName := ⟨RX11, "hang", "(II)I"⟩
abbrev cX11_isBridge : ByteArray := prog_13_method_43_code
def yX11_isBridge : MethodName := ⟨RX11, "isBridge", "(I)Z"⟩
abbrev cX11_bridgeBits : ByteArray := prog_13_method_44_code
def yX11_bridgeBits : MethodName := ⟨RX11, "bridgeBits", "()I"⟩
abbrev cX11_can : ByteArray := prog_13_method_45_code
def yX11_can : MethodName := ⟨RX11, "can", "()I"⟩
abbrev cX11_bridges : ByteArray := prog_13_method_46_code
def yX11_bridges : MethodName := ⟨RX11, "bridges", "()I"⟩
abbrev cX11_walks : ByteArray := prog_13_method_47_code
def yX11_walks : MethodName := ⟨RX11, "walks", "(I)V"⟩
abbrev cX11_walk : ByteArray := prog_13_method_48_code
def yX11_walk : MethodName := ⟨RX11, "walk", "()I"⟩
abbrev cX11_costOf : ByteArray := prog_13_method_49_code
def yX11_costOf : MethodName := ⟨RX11, "costOf", "()I"⟩
abbrev cX11_cost : ByteArray := prog_13_method_50_code
def yX11_cost : MethodName := ⟨RX11, "cost", "()I"⟩
abbrev cX11_keepsMusts : ByteArray := prog_13_method_51_code
def yX11_keepsMusts : MethodName := ⟨RX11, "keepsMusts", "(I)Z"⟩
abbrev cX11_wrongFew : ByteArray := prog_13_method_52_code
def yX11_wrongFew : MethodName := ⟨RX11, "wrongFew", "()I"⟩
abbrev cX11_bestOf : ByteArray := prog_13_method_53_code
def yX11_bestOf : MethodName := ⟨RX11, "bestOf", "(Z)I"⟩
abbrev cX11_best : ByteArray := prog_13_method_54_code
def yX11_best : MethodName := ⟨RX11, "best", "()I"⟩
abbrev cX11_far : ByteArray := prog_13_method_55_code
def yX11_far : MethodName := ⟨RX11, "far", "()I"⟩
abbrev cX11_turning : ByteArray := prog_13_method_56_code
def yX11_turning : MethodName := ⟨RX11, "turning", "()I"⟩
abbrev cX11_bits : ByteArray := prog_13_method_57_code
def yX11_bits : MethodName := ⟨RX11, "bits", "(I)I"⟩
abbrev cX11_bothWays : ByteArray := prog_13_method_58_code
def yX11_bothWays : MethodName := ⟨RX11, "bothWays", "(I)I"⟩
abbrev cX11_corner : ByteArray := prog_13_method_59_code
def yX11_corner : MethodName := ⟨RX11, "corner", "(I)I"⟩
abbrev cX11_along : ByteArray := prog_13_method_60_code
def yX11_along : MethodName := ⟨RX11, "along", "(II)I"⟩
abbrev cX11_procession : ByteArray := prog_13_method_61_code
def yX11_procession : MethodName := ⟨RX11, "procession", "()I"⟩
abbrev cX11_bestNoon : ByteArray := prog_13_method_62_code
def yX11_bestNoon : MethodName := ⟨RX11, "bestNoon", "()I"⟩
abbrev cX11_lives : ByteArray := prog_13_method_63_code
def yX11_lives : MethodName := ⟨RX11, "lives", "()I"⟩
abbrev cX11_stays : ByteArray := prog_13_method_64_code
def yX11_stays : MethodName := ⟨RX11, "stays", "(I)V"⟩
abbrev cX11_areMet : ByteArray := prog_13_method_65_code
def yX11_areMet : MethodName := ⟨RX11, "areMet", "(II)Z"⟩
abbrev cX11_meets : ByteArray := prog_13_method_66_code
def yX11_meets : MethodName := ⟨RX11, "meets", "(II)I"⟩
abbrev cX11_pairs : ByteArray := prog_13_method_67_code
def yX11_pairs : MethodName := ⟨RX11, "pairs", "()I"⟩
abbrev cX11_isReached : ByteArray := prog_13_method_68_code
def yX11_isReached : MethodName := ⟨RX11, "isReached", "(III)Z"⟩
abbrev cX11_lanes : ByteArray := prog_13_method_69_code
def yX11_lanes : MethodName := ⟨RX11, "lanes", "(III)I"⟩
abbrev cX11_shuts : ByteArray := prog_13_method_70_code
def yX11_shuts : MethodName := ⟨RX11, "shuts", "(I)I"⟩
abbrev cX11_days : ByteArray := prog_13_method_71_code
def yX11_days : MethodName := ⟨RX11, "days", "(II)I"⟩
abbrev cX11_judge : ByteArray := prog_13_method_72_code
def yX11_judge : MethodName := ⟨RX11, "judge", "()I"⟩
abbrev cX11_image : ByteArray := prog_13_method_73_code
def yX11_image : MethodName := ⟨RX11, "image", "()I"⟩
abbrev cX11_on : ByteArray := prog_13_method_74_code
def yX11_on : MethodName := ⟨RX11, "on", "()I"⟩
abbrev cX11_count : ByteArray := prog_13_method_75_code
def yX11_count : MethodName := ⟨RX11, "count", "(I)I"⟩
def RJ6 : String := "java/lang/Integer"
abbrev cJ6_bitCount_0f7a4 : ByteArray := prog_14_method_49_code
def yJ6_bitCount_0f7a4 : MethodName := ⟨RJ6, "bitCount", "(I)I"⟩
def RJ9 : String := "java/lang/Math"
abbrev cJ9_max_7cf53 : ByteArray := prog_15_method_65_code
def yJ9_max_7cf53 : MethodName := ⟨RJ9, "max", "(II)I"⟩
abbrev cJ9_min_7cf53 : ByteArray := prog_15_method_69_code
def yJ9_min_7cf53 : MethodName := ⟨RJ9, "min", "(II)I"⟩
def RJ10 : String := "java/lang/System"
def RJ7 : String := "java/util/Arrays"
abbrev cJ7_fill_53178 : ByteArray := prog_17_method_103_code
def yJ7_fill_53178 : MethodName := ⟨RJ7, "fill", "([II)V"⟩
def RL : String := "OneWayTillNoonLaw"
abbrev cL_law : ByteArray := code
def yL_law : MethodName := ⟨RL, "law", "([I)Z"⟩
end
section
/-! the machine's numbers as Ints -/
abbrev Hp : Type := Nat → Nat → Nat → Int
abbrev AV : Type := Int ⊕ ((Nat × Nat) ⊕ (Int64 ⊕ Unit))
abbrev zI (z : Int) : AV := .inl z
abbrev zR (g i : Nat) : AV := .inr (.inl (g, i))
abbrev zJ (x : Int64) : AV := .inr (.inr (.inl x))
abbrev zU : AV := .inr (.inr (.inr ()))
def wrap (z : Int) : Int := (z + 2147483648) % 4294967296 - 2147483648
def inR (z : Int) : Prop := -2147483648 ≤ z ∧ z ≤ 2147483647
def zup (σ : Hp) (g i j : Nat) (v : Int) : Hp := fun g' i' j' => if g' = g ∧ i' = i ∧ j' = j then v else σ g' i' j'
abbrev n32 (z : Int) : Int32 := Int32.ofInt z
theorem wrap_in (z : Int) : inR (wrap z) := by unfold inR wrap; omega
theorem wrap_eq {z : Int} (h : inR z) : wrap z = z := by unfold inR at h; unfold wrap; omega
theorem wrap_bmod (z : Int) : wrap z = z.bmod (2 ^ 32) := by
  unfold wrap
  rw [Int.bmod_def]
  split <;> omega
theorem n32_toInt (z : Int) : (n32 z).toInt = wrap z := by rw [wrap_bmod]; exact Int32.toInt_ofInt
theorem n32_canon {z : Int} (h : inR z) : (n32 z).toInt = z := by rw [n32_toInt, wrap_eq h]
theorem n32_of (x : Int32) : n32 x.toInt = x := Int32.ofInt_toInt x
theorem toInt_in (x : Int32) : inR x.toInt := by
  have h : (n32 x.toInt).toInt = x.toInt := by rw [n32_of]
  rw [n32_toInt] at h
  rw [← h]
  exact wrap_in _
theorem n32_wrap (z : Int) : n32 (wrap z) = n32 z := by rw [← n32_toInt, n32_of]
theorem n32_add (a b : Int) : n32 a + n32 b = n32 (wrap (a + b)) := by rw [n32_wrap]; exact (Int32.ofInt_add a b).symm
theorem n32_sub (a b : Int) : n32 a - n32 b = n32 (wrap (a - b)) := by rw [n32_wrap]; exact (Int32.ofInt_sub a b).symm
theorem n32_mul (a b : Int) : n32 a * n32 b = n32 (wrap (a * b)) := by rw [n32_wrap]; exact (Int32.ofInt_mul a b).symm
theorem n32_neg (a : Int) : - n32 a = n32 (wrap (- a)) := by rw [n32_wrap]; exact (Int32.ofInt_neg a).symm
theorem n32_lt {a b : Int} (ha : inR a) (hb : inR b) : n32 a < n32 b ↔ a < b := by rw [Int32.lt_iff_toInt_lt, n32_canon ha, n32_canon hb]
theorem n32_le {a b : Int} (ha : inR a) (hb : inR b) : n32 a ≤ n32 b ↔ a ≤ b := by rw [Int32.le_iff_toInt_le, n32_canon ha, n32_canon hb]
theorem n32_inj {a b : Int} (ha : inR a) (hb : inR b) : n32 a = n32 b ↔ a = b := by
  constructor
  · intro h
    rw [← n32_canon ha, ← n32_canon hb, h]
  · intro h; rw [h]
theorem n32_nat {z : Int} (h0 : 0 ≤ z) (h : inR z) : (n32 z).toNatClampNeg = z.toNat := by
  show (n32 z).toInt.toNat = z.toNat
  rw [n32_canon h]
theorem n32_in {z : Int} {N : Nat} (h : inR z) (hi : 0 ≤ z ∧ z < (N : Int)) : vp_in (n32 z) N := by
  intro q
  rcases q with q | q
  · have : n32 z < n32 0 := q
    rw [n32_lt h ⟨by omega, by omega⟩] at this
    omega
  · rw [n32_nat hi.1 h] at q
    omega
theorem inR_0 : inR 0 := ⟨by omega, by omega⟩
def zand (a b : Int) : Int := (n32 a &&& n32 b).toInt
def zor (a b : Int) : Int := (n32 a ||| n32 b).toInt
def zxor (a b : Int) : Int := (n32 a ^^^ n32 b).toInt
def zshl (a b : Int) : Int := (n32 a <<< (n32 b &&& 31)).toInt
def zshr (a b : Int) : Int := (n32 a >>> (n32 b &&& 31)).toInt
def zushr (a b : Int) : Int := (((n32 a).toUInt32 >>> ((n32 b).toUInt32 &&& Int32.toUInt32 31)).toInt32).toInt
def zdiv (a b : Int) : Int := (n32 a / n32 b).toInt
def zrem (a b : Int) : Int := (n32 a % n32 b).toInt
def zi2l (a : Int) : Int64 := (n32 a).toInt64
def zl2i (x : Int64) : Int := x.toInt32.toInt
def zlshl (x : Int64) (b : Int) : Int64 := x <<< ((n32 b).toInt64 &&& 63)
def zlshr (x : Int64) (b : Int) : Int64 := x >>> ((n32 b).toInt64 &&& 63)
def zlushr (x : Int64) (b : Int) : Int64 := (x.toUInt64 >>> ((n32 b).toInt64.toUInt64 &&& Int64.toUInt64 63)).toInt64
/-! values, locals -/
def cvv (ad : Nat → Nat → Nat) : AV → Value
  | .inl z => .int (n32 z)
  | .inr (.inl q) => .ref (ad q.1 q.2)
  | .inr (.inr (.inl x)) => .long x
  | .inr (.inr (.inr _)) => .null
def lvl (ad : Nat → Nat → Nat) : Nat → List AV → List (Nat × Value)
  | _, [] => []
  | k, .inr (.inr (.inr _)) :: r => lvl ad (k + 1) r
  | k, v :: r => (k, cvv ad v) :: lvl ad (k + 1) r
theorem lvl_mem {ad : Nat → Nat → Nat} {i : Nat} {w : Value} : ∀ (L : List AV) (k : Nat), (i, w) ∈ lvl ad k L ↔ ∃ v, k ≤ i ∧ L[i - k]? = some v ∧ v ≠ zU ∧ w = cvv ad v
  | [], k => by simp [lvl]
  | v :: r, k => by
    have key : (i, w) ∈ lvl ad (k + 1) r ↔ ∃ v, k + 1 ≤ i ∧ r[i - (k + 1)]? = some v ∧ v ≠ zU ∧ w = cvv ad v := lvl_mem r (k + 1)
    have shift : k + 1 ≤ i → (v :: r)[i - k]? = r[i - (k + 1)]? := fun h => by
      rw [show i - k = (i - (k + 1)) + 1 by omega, List.getElem?_cons_succ]
    have main : (v ≠ zU ∧ i = k ∧ w = cvv ad v) ∨ (i, w) ∈ lvl ad (k + 1) r ↔ ∃ u, k ≤ i ∧ (v :: r)[i - k]? = some u ∧ u ≠ zU ∧ w = cvv ad u := by
      rw [key]
      constructor
      · rintro (⟨h1, h2, h3⟩ | ⟨u, h1, h2, h3⟩)
        · exact ⟨v, by omega, by rw [h2, Nat.sub_self]; rfl, h1, h3⟩
        · exact ⟨u, by omega, by rw [shift h1]; exact h2, h3⟩
      · rintro ⟨u, h1, h2, h3, h4⟩
        by_cases e : i = k
        · subst e
          rw [Nat.sub_self] at h2
          cases h2
          exact Or.inl ⟨h3, rfl, h4⟩
        · exact Or.inr ⟨u, by omega, by rw [← shift (by omega)]; exact h2, h3, h4⟩
    rw [← main]
    rcases v with z | q | x | u
    · simp [lvl]
    · simp [lvl]
    · simp [lvl]
    · simp [lvl]
def lrel (ad : Nat → Nat → Nat) (ls : Array Slot) (n : Nat) (L : List AV) : Prop := L.length = n ∧ lv_has ls n (lvl ad 0 L)
theorem lrel_at {ad : Nat → Nat → Nat} {ls : Array Slot} {n : Nat} {L : List AV} (h : lrel ad ls n L) {i : Nat} {v : AV} (hi : L[i]? = some v) (hv : v ≠ zU) : ls[i]? = some (.val (cvv ad v)) :=
  h.2.2.2 (i, cvv ad v) ((lvl_mem L 0).mpr ⟨v, Nat.zero_le _, by simpa using hi, hv, rfl⟩)
/-- no long at the place before -/
def noJ (L : List AV) : Nat → Bool
  | 0 => true
  | k + 1 => match L[k]? with
    | some (.inr (.inr (.inl _))) => false
    | _ => true
theorem lrel_set {ad : Nat → Nat → Nat} {ls' : Array Slot} {n : Nat} {L : List AV} {i : Nat} {z : Int} (hn : noJ L i = true) (hi : i < L.length) (hL : L.length = n)
    (h : lv_has ls' n ((i, Value.int (n32 z)) :: (lvl ad 0 L).filter (fun q => !(q.1 == i) && !(q.1 + 1 == i && q.2.category == 2)))) : lrel ad ls' n (L.set i (zI z)) := by
  refine ⟨by simp [hL], h.1, h.2.1, fun q hq => ?_⟩
  obtain ⟨j, w⟩ := q
  obtain ⟨v, -, h2, h3, h4⟩ := (lvl_mem _ 0).mp hq
  rw [Nat.sub_zero] at h2
  by_cases e : j = i
  · subst e
    rw [List.getElem?_set_self hi] at h2
    cases h2
    subst h4
    exact h.2.2 _ List.mem_cons_self
  · rw [List.getElem?_set_ne (Ne.symm e)] at h2
    refine h.2.2 _ (List.mem_cons_of_mem _ (List.mem_filter.mpr ⟨(lvl_mem L 0).mpr ⟨v, Nat.zero_le _, by simpa using h2, h3, h4⟩, ?_⟩))
    have hj : (j == i) = false := by simpa using e
    by_cases e2 : j + 1 = i
    · subst e2
      have hc : w.category = 1 := by
        rw [h4]
        simp only [noJ, h2] at hn
        rcases v with z | q | x | u
        · rfl
        · rfl
        · simp at hn
        · exact absurd rfl h3
      simp [hj, hc]
    · simp [hj, e2]
theorem lrel_forget {ad : Nat → Nat → Nat} {ls : Array Slot} {n : Nat} {L L' : List AV} (h : lrel ad ls n L) (hl : L'.length = L.length) (hf : ∀ (i : Nat) (v : AV), L'[i]? = some v → v = zU ∨ L[i]? = some v) : lrel ad ls n L' := by
  refine ⟨hl.trans h.1, h.2.1, h.2.2.1, fun q hq => ?_⟩
  obtain ⟨j, w⟩ := q
  obtain ⟨v, -, h2, h3, h4⟩ := (lvl_mem _ 0).mp hq
  rw [Nat.sub_zero] at h2
  rcases hf j v h2 with e | e
  · exact absurd e h3
  · subst h4
    exact lrel_at h e h3
end
section
/-! which cells there are: a group's kind (0 ints, 1 booleans, 2 references, 3 + class: objects, 40 the script, 41 static ints), how many, length, fields (0 int, 1 boolean, 2 a cell, 3 the cell of the same place) -/
def shL : List (Nat × Nat × Nat × List (Nat × Nat × Nat)) := [
  (13, 1, 13, [(2, 1, 0), (2, 1, 1), (2, 12, 0), (2, 14, 0), (2, 16, 0), (2, 17, 0), (2, 19, 0), (2, 22, 0), (2, 25, 0), (2, 26, 0), (2, 27, 0), (2, 33, 0), (1, 0, 0)]),
  (9, 3, 17, [(0, 0, 0), (0, 0, 0), (0, 0, 0), (0, 0, 0), (0, 0, 0), (0, 0, 0), (0, 0, 0), (3, 2, 0), (3, 3, 0), (3, 4, 0), (3, 5, 0), (3, 6, 0), (3, 7, 0), (3, 8, 0), (3, 9, 0), (3, 10, 0), (3, 11, 0)]),
  (0, 3, 14, []),
  (0, 3, 14, []),
  (0, 3, 14, []),
  (0, 3, 14, []),
  (0, 3, 8, []),
  (0, 3, 8, []),
  (0, 3, 8, []),
  (0, 3, 8, []),
  (0, 3, 10, []),
  (0, 3, 4, []),
  (8, 1, 2, [(2, 13, 0), (0, 0, 0)]),
  (0, 1, 64, []),
  (6, 1, 7, [(2, 12, 0), (2, 1, 2), (0, 0, 0), (0, 0, 0), (0, 0, 0), (2, 15, 0), (1, 0, 0)]),
  (0, 1, 4, []),
  (10, 1, 10, [(2, 1, 0), (0, 0, 0), (0, 0, 0), (0, 0, 0), (0, 0, 0), (0, 0, 0), (0, 0, 0), (0, 0, 0), (0, 0, 0), (0, 0, 0)]),
  (11, 1, 4, [(2, 1, 0), (2, 16, 0), (2, 18, 0), (0, 0, 0)]),
  (0, 1, 10, []),
  (3, 1, 3, [(2, 1, 0), (2, 16, 0), (2, 20, 0)]),
  (2, 1, 10, [(2, 21, 0)]),
  (0, 10, 10, []),
  (5, 1, 3, [(2, 1, 0), (2, 23, 0), (2, 24, 0)]),
  (0, 1, 10, []),
  (0, 1, 10, []),
  (4, 1, 3, [(2, 1, 0), (2, 17, 0), (0, 0, 0)]),
  (12, 1, 5, [(2, 1, 0), (2, 16, 0), (2, 17, 0), (2, 19, 0), (2, 25, 0)]),
  (2, 1, 8, [(2, 28, 0)]),
  (7, 8, 8, [(2, 1, 0), (2, 16, 0), (2, 17, 0), (3, 29, 0), (3, 30, 0), (3, 31, 0), (3, 32, 0), (0, 0, 0)]),
  (0, 8, 10, []),
  (0, 8, 10, []),
  (0, 8, 10, []),
  (0, 8, 10, []),
  (0, 1, 7, []),
  (14, 1, 25, [(2, 35, 0), (2, 36, 0), (2, 37, 0), (2, 38, 0), (1, 0, 0), (2, 39, 0), (2, 40, 0), (0, 0, 0), (0, 0, 0), (2, 41, 0), (2, 42, 0), (2, 43, 0), (2, 44, 0), (2, 45, 0), (0, 0, 0), (0, 0, 0), (2, 46, 0), (0, 0, 0), (0, 0, 0), (0, 0, 0), (2, 47, 0), (2, 48, 0), (2, 49, 0), (2, 50, 0), (2, 51, 0)]),
  (0, 1, 7, []),
  (0, 1, 123, []),
  (0, 1, 123, []),
  (0, 1, 123, []),
  (0, 1, 64, []),
  (0, 1, 4, []),
  (0, 1, 10, []),
  (1, 1, 10, []),
  (0, 1, 11, []),
  (0, 1, 10, []),
  (0, 1, 10, []),
  (0, 1, 100, []),
  (0, 1, 8, []),
  (0, 1, 10, []),
  (0, 1, 10, []),
  (0, 1, 10, []),
  (0, 1, 10, []),
  (50, 0, 0, []),
  (50, 0, 0, []),
  (50, 0, 0, []),
  (50, 0, 0, []),
  (50, 0, 0, []),
  (50, 0, 0, []),
  (50, 0, 0, []),
  (50, 0, 0, []),
  (40, 1, 0, []),
  (41, 1, 4, []),
  (41, 1, 4, [])]
def shp (g : Nat) : Nat × Nat × Nat × List (Nat × Nat × Nat) := shL.getD g (50, 0, 0, [])
def ownL : List String := [RX0, RX1, RX2, RX3, RX4, RX5, RX6, RX7, RX8, RX9, RX10, RX11, RL, RJ6, RJ9, RJ10, RJ7]
def ownN (k : Nat) : String := ownL.getD k ""
def clsL : List vw_C := [(RX0, TX0, 3), (RX1, TX1, 3), (RX2, TX2, 3), (RX3, TX3, 7), (RX4, TX4, 8), (RX5, TX5, 2), (RX6, TX6, 17), (RX7, TX7, 10), (RX8, TX8, 4), (RX9, TX9, 5), (RX10, TX10, 13), (RX11, TX11, 25)]
def gTbl : List Cond := lw_tbl.filter goodWord
theorem gTbl_in {w : Cond} {i : Nat} (h : lw_tbl[i]? = some w) (hg : goodWord w = true) : w ∈ gTbl := List.mem_filter.mpr ⟨List.mem_of_getElem? h, hg⟩
def clsT (ci : Nat) : vw_C := clsL.getD ci (RX0, TX0, 0)
def fTab : List (Nat × Nat × Nat × Nat × Nat) := [(6, 9, 6, 0, 94), (2, 26, 6, 0, 95), (8, 34, 6, 0, 96), (0, 67, 6, 0, 97), (1, 56, 6, 0, 98), (9, 97, 6, 0, 99), (10, 295, 6, 0, 100), (6, 46, 6, 1, 101), (9, 32, 6, 1, 102), (0, 37, 6, 1, 103), (4, 54, 6, 1, 104), (2, 32, 6, 1, 105), (8, 56, 6, 1, 106), (10, 164, 6, 1, 107), (6, 49, 6, 2, 108), (1, 24, 6, 2, 109), (10, 269, 6, 2, 110), (6, 52, 6, 3, 111), (0, 81, 6, 3, 112), (10, 244, 6, 3, 113), (6, 55, 6, 4, 114), (7, 48, 6, 4, 115), (10, 127, 6, 4, 116), (6, 58, 6, 5, 117), (7, 31, 6, 5, 118), (10, 137, 6, 5, 119), (6, 61, 6, 6, 120), (7, 39, 6, 6, 121), (9, 65, 6, 6, 122), (10, 167, 6, 6, 123), (6, 15, 6, 7, 124), (0, 47, 6, 7, 125), (2, 35, 6, 7, 126), (4, 61, 6, 7, 127), (10, 118, 6, 7, 128), (8, 59, 6, 7, 129), (6, 19, 6, 8, 130), (0, 51, 6, 8, 131), (4, 58, 6, 8, 132), (2, 38, 6, 8, 133), (10, 121, 6, 8, 134), (8, 62, 6, 8, 135), (6, 22, 6, 9, 136), (0, 54, 6, 9, 137), (4, 78, 6, 9, 138), (10, 124, 6, 9, 139), (8, 72, 6, 9, 140), (6, 25, 6, 10, 141), (10, 134, 6, 10, 142), (6, 28, 6, 11, 143), (1, 34, 6, 11, 144), (10, 143, 6, 11, 145), (6, 31, 6, 12, 146), (1, 37, 6, 12, 147), (10, 146, 6, 12, 148), (6, 34, 6, 13, 149), (1, 40, 6, 13, 150), (10, 149, 6, 13, 151), (6, 37, 6, 14, 152), (1, 30, 6, 14, 153), (10, 152, 6, 14, 154), (6, 40, 6, 15, 155), (0, 84, 6, 15, 156), (10, 247, 6, 15, 157), (6, 43, 6, 16, 158), (7, 15, 6, 16, 159), (10, 161, 6, 16, 160), (5, 9, 5, 0, 203), (5, 15, 5, 1, 204), (10, 102, 5, 1, 205), (3, 48, 5, 1, 206), (3, 22, 3, 0, 220), (3, 12, 3, 1, 221), (3, 34, 3, 2, 222), (3, 57, 3, 3, 223), (3, 45, 3, 4, 224), (3, 18, 3, 5, 225), (3, 75, 3, 6, 226), (7, 9, 7, 0, 248), (7, 21, 7, 1, 249), (7, 25, 7, 2, 250), (7, 28, 7, 3, 251), (7, 45, 7, 4, 252), (7, 34, 7, 5, 253), (7, 51, 7, 6, 254), (7, 54, 7, 7, 255), (7, 57, 7, 8, 256), (7, 60, 7, 9, 257), (8, 15, 8, 0, 285), (8, 19, 8, 1, 286), (8, 9, 8, 2, 287), (8, 30, 8, 3, 288), (0, 16, 0, 0, 306), (0, 20, 0, 1, 307), (0, 11, 0, 2, 308), (2, 18, 2, 0, 322), (2, 9, 2, 1, 323), (2, 15, 2, 2, 324), (1, 9, 1, 0, 338), (1, 15, 1, 1, 339), (1, 59, 1, 2, 340), (9, 9, 9, 0, 354), (9, 15, 9, 1, 355), (9, 19, 9, 2, 356), (9, 23, 9, 3, 357), (9, 27, 9, 4, 358), (4, 24, 4, 0, 377), (4, 28, 4, 1, 378), (4, 32, 4, 2, 379), (4, 9, 4, 3, 380), (4, 15, 4, 4, 381), (4, 18, 4, 5, 382), (4, 21, 4, 6, 383), (4, 42, 4, 7, 384), (10, 200, 4, 7, 385), (10, 10, 10, 0, 403), (10, 16, 10, 1, 404), (10, 22, 10, 2, 405), (10, 31, 10, 3, 406), (10, 40, 10, 4, 407), (10, 49, 10, 5, 408), (10, 56, 10, 6, 409), (10, 63, 10, 7, 410), (10, 72, 10, 8, 411), (10, 81, 10, 9, 412), (10, 87, 10, 10, 413), (10, 91, 10, 11, 414), (10, 291, 10, 12, 415), (11, 7, 11, 0, 958), (11, 13, 11, 1, 959), (11, 16, 11, 2, 960), (11, 19, 11, 3, 961), (11, 218, 11, 4, 962), (11, 22, 11, 5, 963), (11, 25, 11, 6, 964), (11, 70, 11, 7, 965), (11, 76, 11, 8, 966), (11, 28, 11, 9, 967), (11, 31, 11, 10, 968), (11, 35, 11, 11, 969), (11, 38, 11, 12, 970), (11, 41, 11, 13, 971), (11, 146, 11, 14, 972), (11, 149, 11, 15, 973), (11, 44, 11, 16, 974), (11, 178, 11, 17, 975), (11, 181, 11, 18, 976), (11, 175, 11, 19, 977), (11, 47, 11, 20, 978), (11, 50, 11, 21, 979), (11, 53, 11, 22, 980), (11, 56, 11, 23, 981), (11, 59, 11, 24, 982)]
def fW (e : Nat × Nat × Nat × Nat × Nat) : Cond := .fieldLink (ownN e.1) e.2.1 ((clsT e.2.2.1).2.1 e.2.2.2.1).1 ((clsT e.2.2.1).2.1 e.2.2.2.1).2.1 ((clsT e.2.2.1).2.1 e.2.2.2.1).2.2.1
theorem fTab_ok : fTab.all (fun e => decide (lw_tbl[e.2.2.2.2]? = some (fW e)) && goodWord (fW e) && decide (e.2.2.2.1 < (clsT e.2.2.1).2.2) && decide (e.2.2.1 < 12)) = true := by decide +kernel
def sTab : List (Nat × Nat × Nat × Nat) := [(10, 155, 61, 556), (10, 158, 62, 558)]
def sNm (g : Nat) : String := if g = 61 then "LEAST_SETTING" else "GREATEST_SETTING"
def sW (e : Nat × Nat × Nat × Nat) : Cond := .fieldLink (ownN e.1) e.2.1 RX10 (sNm e.2.2.1) "[I"
theorem sTab_ok : sTab.all (fun e => decide (lw_tbl[e.2.2.2]? = some (sW e)) && goodWord (sW e) && (e.2.2.1 == 61 || e.2.2.1 == 62)) = true := by decide +kernel
def cTab : List (Nat × Nat × Int × Nat) := [(8, 23, 1000000, 610), (0, 24, 1000000, 683), (1, 19, 1000000, 763), (9, 31, 1000000, 786), (13, 265, 1431655765, 836), (13, 266, 858993459, 837), (13, 267, 252645135, 838), (10, 275, 1000000000, 905), (1, 65, 1664525, 922), (1, 66, 1013904223, 923), (1, 67, 2147483647, 924), (11, 155, 1000000000, 1181), (11, 215, 1664525, 1313), (11, 216, 1013904223, 1314), (11, 217, 2147483647, 1315)]
def cW (e : Nat × Nat × Int × Nat) : Cond := .constant (ownN e.1) e.2.1 (n32 e.2.2.1)
theorem cTab_ok : cTab.all (fun e => decide (lw_tbl[e.2.2.2]? = some (cW e)) && goodWord (cW e) && (decide (-2147483648 ≤ e.2.2.1) && decide (e.2.2.1 ≤ 2147483647))) = true := by decide +kernel
def jTab : List (Nat × Nat × Int × Nat) := [(11, 74, 255, 1043), (12, 13, 4294967295, 1332)]
def jW (e : Nat × Nat × Int × Nat) : Cond := .constantLong (ownN e.1) e.2.1 (Int64.ofInt e.2.2.1)
theorem jTab_ok : jTab.all (fun e => decide (lw_tbl[e.2.2.2]? = some (jW e)) && goodWord (jW e)) = true := by decide +kernel
theorem inX0 : ∀ w ∈ u_ws RX0 TX0 3, w ∈ gTbl := by
  have h : (List.range 3).all (fun k => decide (lw_tbl[([309, 311, 313] : List Nat).getD k 0]? = some (u_lay RX0 TX0 k)) && goodWord (u_lay RX0 TX0 k)) = true := by decide +kernel
  intro w hw
  obtain ⟨k, hk, rfl⟩ := List.mem_map.mp hw
  have h1 := List.all_eq_true.mp h k hk
  simp only [Bool.and_eq_true, decide_eq_true_eq] at h1
  exact gTbl_in h1.1 h1.2
theorem inX1 : ∀ w ∈ u_ws RX1 TX1 3, w ∈ gTbl := by
  have h : (List.range 3).all (fun k => decide (lw_tbl[([341, 343, 345] : List Nat).getD k 0]? = some (u_lay RX1 TX1 k)) && goodWord (u_lay RX1 TX1 k)) = true := by decide +kernel
  intro w hw
  obtain ⟨k, hk, rfl⟩ := List.mem_map.mp hw
  have h1 := List.all_eq_true.mp h k hk
  simp only [Bool.and_eq_true, decide_eq_true_eq] at h1
  exact gTbl_in h1.1 h1.2
theorem inX2 : ∀ w ∈ u_ws RX2 TX2 3, w ∈ gTbl := by
  have h : (List.range 3).all (fun k => decide (lw_tbl[([325, 327, 329] : List Nat).getD k 0]? = some (u_lay RX2 TX2 k)) && goodWord (u_lay RX2 TX2 k)) = true := by decide +kernel
  intro w hw
  obtain ⟨k, hk, rfl⟩ := List.mem_map.mp hw
  have h1 := List.all_eq_true.mp h k hk
  simp only [Bool.and_eq_true, decide_eq_true_eq] at h1
  exact gTbl_in h1.1 h1.2
theorem inX3 : ∀ w ∈ u_ws RX3 TX3 7, w ∈ gTbl := by
  have h : (List.range 7).all (fun k => decide (lw_tbl[([227, 229, 231, 233, 235, 237, 239] : List Nat).getD k 0]? = some (u_lay RX3 TX3 k)) && goodWord (u_lay RX3 TX3 k)) = true := by decide +kernel
  intro w hw
  obtain ⟨k, hk, rfl⟩ := List.mem_map.mp hw
  have h1 := List.all_eq_true.mp h k hk
  simp only [Bool.and_eq_true, decide_eq_true_eq] at h1
  exact gTbl_in h1.1 h1.2
theorem inX4 : ∀ w ∈ u_ws RX4 TX4 8, w ∈ gTbl := by
  have h : (List.range 8).all (fun k => decide (lw_tbl[([386, 388, 390, 392, 394, 396, 398, 400] : List Nat).getD k 0]? = some (u_lay RX4 TX4 k)) && goodWord (u_lay RX4 TX4 k)) = true := by decide +kernel
  intro w hw
  obtain ⟨k, hk, rfl⟩ := List.mem_map.mp hw
  have h1 := List.all_eq_true.mp h k hk
  simp only [Bool.and_eq_true, decide_eq_true_eq] at h1
  exact gTbl_in h1.1 h1.2
theorem inX5 : ∀ w ∈ u_ws RX5 TX5 2, w ∈ gTbl := by
  have h : (List.range 2).all (fun k => decide (lw_tbl[([207, 209] : List Nat).getD k 0]? = some (u_lay RX5 TX5 k)) && goodWord (u_lay RX5 TX5 k)) = true := by decide +kernel
  intro w hw
  obtain ⟨k, hk, rfl⟩ := List.mem_map.mp hw
  have h1 := List.all_eq_true.mp h k hk
  simp only [Bool.and_eq_true, decide_eq_true_eq] at h1
  exact gTbl_in h1.1 h1.2
theorem inX6 : ∀ w ∈ u_ws RX6 TX6 17, w ∈ gTbl := by
  have h : (List.range 17).all (fun k => decide (lw_tbl[([161, 163, 165, 167, 169, 171, 173, 175, 177, 179, 181, 183, 185, 187, 189, 191, 193] : List Nat).getD k 0]? = some (u_lay RX6 TX6 k)) && goodWord (u_lay RX6 TX6 k)) = true := by decide +kernel
  intro w hw
  obtain ⟨k, hk, rfl⟩ := List.mem_map.mp hw
  have h1 := List.all_eq_true.mp h k hk
  simp only [Bool.and_eq_true, decide_eq_true_eq] at h1
  exact gTbl_in h1.1 h1.2
theorem inX7 : ∀ w ∈ u_ws RX7 TX7 10, w ∈ gTbl := by
  have h : (List.range 10).all (fun k => decide (lw_tbl[([258, 260, 262, 264, 266, 268, 270, 272, 274, 276] : List Nat).getD k 0]? = some (u_lay RX7 TX7 k)) && goodWord (u_lay RX7 TX7 k)) = true := by decide +kernel
  intro w hw
  obtain ⟨k, hk, rfl⟩ := List.mem_map.mp hw
  have h1 := List.all_eq_true.mp h k hk
  simp only [Bool.and_eq_true, decide_eq_true_eq] at h1
  exact gTbl_in h1.1 h1.2
theorem inX8 : ∀ w ∈ u_ws RX8 TX8 4, w ∈ gTbl := by
  have h : (List.range 4).all (fun k => decide (lw_tbl[([289, 291, 293, 295] : List Nat).getD k 0]? = some (u_lay RX8 TX8 k)) && goodWord (u_lay RX8 TX8 k)) = true := by decide +kernel
  intro w hw
  obtain ⟨k, hk, rfl⟩ := List.mem_map.mp hw
  have h1 := List.all_eq_true.mp h k hk
  simp only [Bool.and_eq_true, decide_eq_true_eq] at h1
  exact gTbl_in h1.1 h1.2
theorem inX9 : ∀ w ∈ u_ws RX9 TX9 5, w ∈ gTbl := by
  have h : (List.range 5).all (fun k => decide (lw_tbl[([359, 361, 363, 365, 367] : List Nat).getD k 0]? = some (u_lay RX9 TX9 k)) && goodWord (u_lay RX9 TX9 k)) = true := by decide +kernel
  intro w hw
  obtain ⟨k, hk, rfl⟩ := List.mem_map.mp hw
  have h1 := List.all_eq_true.mp h k hk
  simp only [Bool.and_eq_true, decide_eq_true_eq] at h1
  exact gTbl_in h1.1 h1.2
theorem inX10 : ∀ w ∈ u_ws RX10 TX10 13, w ∈ gTbl := by
  have h : (List.range 13).all (fun k => decide (lw_tbl[([416, 418, 420, 422, 424, 426, 428, 430, 432, 434, 436, 438, 440] : List Nat).getD k 0]? = some (u_lay RX10 TX10 k)) && goodWord (u_lay RX10 TX10 k)) = true := by decide +kernel
  intro w hw
  obtain ⟨k, hk, rfl⟩ := List.mem_map.mp hw
  have h1 := List.all_eq_true.mp h k hk
  simp only [Bool.and_eq_true, decide_eq_true_eq] at h1
  exact gTbl_in h1.1 h1.2
theorem inX11 : ∀ w ∈ u_ws RX11 TX11 25, w ∈ gTbl := by
  have h : (List.range 25).all (fun k => decide (lw_tbl[([983, 985, 987, 989, 991, 993, 995, 997, 999, 1001, 1003, 1005, 1007, 1009, 1011, 1013, 1015, 1017, 1019, 1021, 1023, 1025, 1027, 1029, 1031] : List Nat).getD k 0]? = some (u_lay RX11 TX11 k)) && goodWord (u_lay RX11 TX11 k)) = true := by decide +kernel
  intro w hw
  obtain ⟨k, hk, rfl⟩ := List.mem_map.mp hw
  have h1 := List.all_eq_true.mp h k hk
  simp only [Bool.and_eq_true, decide_eq_true_eq] at h1
  exact gTbl_in h1.1 h1.2
def tyT (ci : Nat) : Nat → FieldType := match ci with
  | 0 => tyX0
  | 1 => tyX1
  | 2 => tyX2
  | 3 => tyX3
  | 4 => tyX4
  | 5 => tyX5
  | 6 => tyX6
  | 7 => tyX7
  | 8 => tyX8
  | 9 => tyX9
  | 10 => tyX10
  | _ => tyX11
theorem cls_in : ∀ ci, ci < 12 → (∀ w ∈ u_ws (clsT ci).1 (clsT ci).2.1 (clsT ci).2.2, w ∈ gTbl) ∧ (∀ k, k < (clsT ci).2.2 → parseFieldDescriptor ((clsT ci).2.1 k).2.2.1 = some (tyT ci k)) ∧ (∀ a, a < (clsT ci).2.2 → ∀ b, b < (clsT ci).2.2 → a ≠ b → ((clsT ci).2.1 a).2.1 ≠ ((clsT ci).2.1 b).2.1) ∧ clsL[ci]? = some ((clsT ci).1, (clsT ci).2.1, (clsT ci).2.2)
  | 0, _ => ⟨inX0, tyX0_ok, nmX0, rfl⟩
  | 1, _ => ⟨inX1, tyX1_ok, nmX1, rfl⟩
  | 2, _ => ⟨inX2, tyX2_ok, nmX2, rfl⟩
  | 3, _ => ⟨inX3, tyX3_ok, nmX3, rfl⟩
  | 4, _ => ⟨inX4, tyX4_ok, nmX4, rfl⟩
  | 5, _ => ⟨inX5, tyX5_ok, nmX5, rfl⟩
  | 6, _ => ⟨inX6, tyX6_ok, nmX6, rfl⟩
  | 7, _ => ⟨inX7, tyX7_ok, nmX7, rfl⟩
  | 8, _ => ⟨inX8, tyX8_ok, nmX8, rfl⟩
  | 9, _ => ⟨inX9, tyX9_ok, nmX9, rfl⟩
  | 10, _ => ⟨inX10, tyX10_ok, nmX10, rfl⟩
  | 11, _ => ⟨inX11, tyX11_ok, nmX11, rfl⟩
  | n + 12, h => absurd h (by omega)
end
