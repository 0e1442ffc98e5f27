section
-- ===== PART A: goes FIRST, ahead of the names: the tables' words, and 'selects' of the private methods out of them =====
/-- a private method of a class that the tables say can be made, by its rows of tables_1 -/
def lw_okq (q : MethodName × Nat) : Prop := (q.1.cls ≠ "java/lang/invoke/MethodHandle" ∧ q.1.cls ≠ "java/lang/invoke/VarHandle") ∧ Cond.instantiable q.1.cls q.2 ∈ tables_1 ∧ Cond.privateMethod q.1 ∈ tables_1 ∧ Cond.instanceMethod q.1 ∈ tables_1
theorem lw_p0 : lw_okq (⟨"OneWayTillNoon", "refuse", "(I)I"⟩, 13) := ⟨⟨by decide +kernel, by decide +kernel⟩, List.mem_of_getElem? (i := 18) (by decide +kernel), List.mem_of_getElem? (i := 385) (by decide +kernel), List.mem_of_getElem? (i := 386) (by decide +kernel)⟩
theorem lw_p1 : lw_okq (⟨"OneWayTillNoon$Reader", "statementsWritten", "()I"⟩, 7) := ⟨⟨by decide +kernel, by decide +kernel⟩, List.mem_of_getElem? (i := 150) (by decide +kernel), List.mem_of_getElem? (i := 401) (by decide +kernel), List.mem_of_getElem? (i := 402) (by decide +kernel)⟩
theorem lw_p2 : lw_okq (⟨"OneWayTillNoon$Reader", "readStatement", "()Z"⟩, 7) := ⟨⟨by decide +kernel, by decide +kernel⟩, List.mem_of_getElem? (i := 150) (by decide +kernel), List.mem_of_getElem? (i := 405) (by decide +kernel), List.mem_of_getElem? (i := 406) (by decide +kernel)⟩
theorem lw_p3 : lw_okq (⟨"OneWayTillNoon$Reader", "number", "(II)Z"⟩, 7) := ⟨⟨by decide +kernel, by decide +kernel⟩, List.mem_of_getElem? (i := 150) (by decide +kernel), List.mem_of_getElem? (i := 413) (by decide +kernel), List.mem_of_getElem? (i := 414) (by decide +kernel)⟩
theorem lw_p4 : lw_okq (⟨"OneWayTillNoon$Reader", "sign", "(C)Z"⟩, 7) := ⟨⟨by decide +kernel, by decide +kernel⟩, List.mem_of_getElem? (i := 150) (by decide +kernel), List.mem_of_getElem? (i := 420) (by decide +kernel), List.mem_of_getElem? (i := 421) (by decide +kernel)⟩
theorem lw_p5 : lw_okq (⟨"OneWayTillNoon$Reader", "broadOrNot", "()Z"⟩, 7) := ⟨⟨by decide +kernel, by decide +kernel⟩, List.mem_of_getElem? (i := 150) (by decide +kernel), List.mem_of_getElem? (i := 424) (by decide +kernel), List.mem_of_getElem? (i := 425) (by decide +kernel)⟩
theorem lw_p6 : lw_okq (⟨"OneWayTillNoon$Reader", "tell", "()Z"⟩, 7) := ⟨⟨by decide +kernel, by decide +kernel⟩, List.mem_of_getElem? (i := 150) (by decide +kernel), List.mem_of_getElem? (i := 435) (by decide +kernel), List.mem_of_getElem? (i := 436) (by decide +kernel)⟩
theorem lw_p7 : lw_okq (⟨"OneWayTillNoon$Town", "cornersToldOf", "()I"⟩, 17) := ⟨⟨by decide +kernel, by decide +kernel⟩, List.mem_of_getElem? (i := 26) (by decide +kernel), List.mem_of_getElem? (i := 443) (by decide +kernel), List.mem_of_getElem? (i := 444) (by decide +kernel)⟩
theorem lw_p8 : lw_okq (⟨"OneWayTillNoon$Town", "areTwoCorners", "(II)Z"⟩, 17) := ⟨⟨by decide +kernel, by decide +kernel⟩, List.mem_of_getElem? (i := 26) (by decide +kernel), List.mem_of_getElem? (i := 454) (by decide +kernel), List.mem_of_getElem? (i := 455) (by decide +kernel)⟩
theorem lw_p9 : lw_okq (⟨"OneWayTillNoon", "refusalOfMinute", "(I)I"⟩, 13) := ⟨⟨by decide +kernel, by decide +kernel⟩, List.mem_of_getElem? (i := 18) (by decide +kernel), List.mem_of_getElem? (i := 510) (by decide +kernel), List.mem_of_getElem? (i := 511) (by decide +kernel)⟩
theorem lw_p10 : lw_okq (⟨"OneWayTillNoon", "refusalOfWay", "(III)I"⟩, 13) := ⟨⟨by decide +kernel, by decide +kernel⟩, List.mem_of_getElem? (i := 18) (by decide +kernel), List.mem_of_getElem? (i := 539) (by decide +kernel), List.mem_of_getElem? (i := 540) (by decide +kernel)⟩
theorem lw_p11 : lw_okq (⟨"OneWayTillNoon$Travel", "soonestUnsettled", "()I"⟩, 4) := ⟨⟨by decide +kernel, by decide +kernel⟩, List.mem_of_getElem? (i := 217) (by decide +kernel), List.mem_of_getElem? (i := 552) (by decide +kernel), List.mem_of_getElem? (i := 553) (by decide +kernel)⟩
theorem lw_p12 : lw_okq (⟨"OneWayTillNoon$Travel", "goOnFrom", "(I)V"⟩, 4) := ⟨⟨by decide +kernel, by decide +kernel⟩, List.mem_of_getElem? (i := 217) (by decide +kernel), List.mem_of_getElem? (i := 557) (by decide +kernel), List.mem_of_getElem? (i := 558) (by decide +kernel)⟩
theorem lw_p13 : lw_okq (⟨"OneWayTillNoon$Travel", "goAlong", "(III)V"⟩, 4) := ⟨⟨by decide +kernel, by decide +kernel⟩, List.mem_of_getElem? (i := 217) (by decide +kernel), List.mem_of_getElem? (i := 566) (by decide +kernel), List.mem_of_getElem? (i := 567) (by decide +kernel)⟩
theorem lw_p14 : lw_okq (⟨"OneWayTillNoon$Road", "traceBack", "()Z"⟩, 8) := ⟨⟨by decide +kernel, by decide +kernel⟩, List.mem_of_getElem? (i := 309) (by decide +kernel), List.mem_of_getElem? (i := 587) (by decide +kernel), List.mem_of_getElem? (i := 588) (by decide +kernel)⟩
theorem lw_p15 : lw_okq (⟨"OneWayTillNoon$Road", "cameBy", "(III)Z"⟩, 8) := ⟨⟨by decide +kernel, by decide +kernel⟩, List.mem_of_getElem? (i := 309) (by decide +kernel), List.mem_of_getElem? (i := 591) (by decide +kernel), List.mem_of_getElem? (i := 592) (by decide +kernel)⟩
def lw_privs_1 : List (MethodName × Nat) := [(⟨"OneWayTillNoon", "refuse", "(I)I"⟩, 13), (⟨"OneWayTillNoon$Reader", "statementsWritten", "()I"⟩, 7), (⟨"OneWayTillNoon$Reader", "readStatement", "()Z"⟩, 7), (⟨"OneWayTillNoon$Reader", "number", "(II)Z"⟩, 7), (⟨"OneWayTillNoon$Reader", "sign", "(C)Z"⟩, 7), (⟨"OneWayTillNoon$Reader", "broadOrNot", "()Z"⟩, 7), (⟨"OneWayTillNoon$Reader", "tell", "()Z"⟩, 7), (⟨"OneWayTillNoon$Town", "cornersToldOf", "()I"⟩, 17), (⟨"OneWayTillNoon$Town", "areTwoCorners", "(II)Z"⟩, 17), (⟨"OneWayTillNoon", "refusalOfMinute", "(I)I"⟩, 13), (⟨"OneWayTillNoon", "refusalOfWay", "(III)I"⟩, 13), (⟨"OneWayTillNoon$Travel", "soonestUnsettled", "()I"⟩, 4), (⟨"OneWayTillNoon$Travel", "goOnFrom", "(I)V"⟩, 4), (⟨"OneWayTillNoon$Travel", "goAlong", "(III)V"⟩, 4), (⟨"OneWayTillNoon$Road", "traceBack", "()Z"⟩, 8), (⟨"OneWayTillNoon$Road", "cameBy", "(III)Z"⟩, 8)]
theorem lw_r1 : ∀ q ∈ lw_privs_1, lw_okq q := List.forall_mem_cons.mpr ⟨lw_p0, List.forall_mem_cons.mpr ⟨lw_p1, List.forall_mem_cons.mpr ⟨lw_p2, List.forall_mem_cons.mpr ⟨lw_p3, List.forall_mem_cons.mpr ⟨lw_p4, List.forall_mem_cons.mpr ⟨lw_p5, List.forall_mem_cons.mpr ⟨lw_p6, List.forall_mem_cons.mpr ⟨lw_p7, List.forall_mem_cons.mpr ⟨lw_p8, List.forall_mem_cons.mpr ⟨lw_p9, List.forall_mem_cons.mpr ⟨lw_p10, List.forall_mem_cons.mpr ⟨lw_p11, List.forall_mem_cons.mpr ⟨lw_p12, List.forall_mem_cons.mpr ⟨lw_p13, List.forall_mem_cons.mpr ⟨lw_p14, List.forall_mem_cons.mpr ⟨lw_p15, fun _ h => absurd h List.not_mem_nil⟩⟩⟩⟩⟩⟩⟩⟩⟩⟩⟩⟩⟩⟩⟩⟩
theorem lw_p16 : lw_okq (⟨"OneWayTillNoon", "freezeAsItIs", "(I)V"⟩, 13) := ⟨⟨by decide +kernel, by decide +kernel⟩, List.mem_of_getElem? (i := 18) (by decide +kernel), List.mem_of_getElem? (i := 613) (by decide +kernel), List.mem_of_getElem? (i := 614) (by decide +kernel)⟩
theorem lw_p17 : lw_okq (⟨"OneWayTillNoon$Frozen", "layStep", "(III)V"⟩, 3) := ⟨⟨by decide +kernel, by decide +kernel⟩, List.mem_of_getElem? (i := 236) (by decide +kernel), List.mem_of_getElem? (i := 625) (by decide +kernel), List.mem_of_getElem? (i := 626) (by decide +kernel)⟩
theorem lw_p18 : lw_okq (⟨"OneWayTillNoon$Frozen", "joinBy", "([I[II)V"⟩, 3) := ⟨⟨by decide +kernel, by decide +kernel⟩, List.mem_of_getElem? (i := 236) (by decide +kernel), List.mem_of_getElem? (i := 634) (by decide +kernel), List.mem_of_getElem? (i := 635) (by decide +kernel)⟩
theorem lw_p19 : lw_okq (⟨"OneWayTillNoon$Frozen", "isApart", "(II)Z"⟩, 3) := ⟨⟨by decide +kernel, by decide +kernel⟩, List.mem_of_getElem? (i := 236) (by decide +kernel), List.mem_of_getElem? (i := 642) (by decide +kernel), List.mem_of_getElem? (i := 643) (by decide +kernel)⟩
theorem lw_p20 : lw_okq (⟨"OneWayTillNoon$Plan", "cornersFrom", "(II)I"⟩, 3) := ⟨⟨by decide +kernel, by decide +kernel⟩, List.mem_of_getElem? (i := 254) (by decide +kernel), List.mem_of_getElem? (i := 667) (by decide +kernel), List.mem_of_getElem? (i := 668) (by decide +kernel)⟩
theorem lw_p21 : lw_okq (⟨"OneWayTillNoon$Plan", "otherEnd", "(II)I"⟩, 3) := ⟨⟨by decide +kernel, by decide +kernel⟩, List.mem_of_getElem? (i := 254) (by decide +kernel), List.mem_of_getElem? (i := 689) (by decide +kernel), List.mem_of_getElem? (i := 690) (by decide +kernel)⟩
theorem lw_p22 : lw_okq (⟨"OneWayTillNoon$Ledger", "minutesOf", "(III)I"⟩, 3) := ⟨⟨by decide +kernel, by decide +kernel⟩, List.mem_of_getElem? (i := 270) (by decide +kernel), List.mem_of_getElem? (i := 706) (by decide +kernel), List.mem_of_getElem? (i := 707) (by decide +kernel)⟩
theorem lw_p23 : lw_okq (⟨"OneWayTillNoon", "refusalOfTrying", "()I"⟩, 13) := ⟨⟨by decide +kernel, by decide +kernel⟩, List.mem_of_getElem? (i := 18) (by decide +kernel), List.mem_of_getElem? (i := 716) (by decide +kernel), List.mem_of_getElem? (i := 717) (by decide +kernel)⟩
theorem lw_p24 : lw_okq (⟨"OneWayTillNoon$Trials", "nextByFewest", "(I)I"⟩, 5) := ⟨⟨by decide +kernel, by decide +kernel⟩, List.mem_of_getElem? (i := 286) (by decide +kernel), List.mem_of_getElem? (i := 767) (by decide +kernel), List.mem_of_getElem? (i := 768) (by decide +kernel)⟩
theorem lw_p25 : lw_okq (⟨"OneWayTillNoon", "traceErrand", "(I)V"⟩, 13) := ⟨⟨by decide +kernel, by decide +kernel⟩, List.mem_of_getElem? (i := 18) (by decide +kernel), List.mem_of_getElem? (i := 813) (by decide +kernel), List.mem_of_getElem? (i := 814) (by decide +kernel)⟩
theorem lw_p26 : lw_okq (⟨"OneWayTillNoon$Trials", "allReachedBy", "(I)Z"⟩, 5) := ⟨⟨by decide +kernel, by decide +kernel⟩, List.mem_of_getElem? (i := 286) (by decide +kernel), List.mem_of_getElem? (i := 834) (by decide +kernel), List.mem_of_getElem? (i := 835) (by decide +kernel)⟩
theorem lw_p27 : lw_okq (⟨"OneWayTillNoon$Ledger", "drawBelow", "(I)I"⟩, 3) := ⟨⟨by decide +kernel, by decide +kernel⟩, List.mem_of_getElem? (i := 270) (by decide +kernel), List.mem_of_getElem? (i := 856) (by decide +kernel), List.mem_of_getElem? (i := 857) (by decide +kernel)⟩
theorem lw_p28 : lw_okq (⟨"OneWayTillNoonModel", "refuse", "(I)I"⟩, 25) := ⟨⟨by decide +kernel, by decide +kernel⟩, List.mem_of_getElem? (i := 890) (by decide +kernel), List.mem_of_getElem? (i := 977) (by decide +kernel), List.mem_of_getElem? (i := 978) (by decide +kernel)⟩
theorem lw_p29 : lw_okq (⟨"OneWayTillNoonModel", "reads", "()I"⟩, 25) := ⟨⟨by decide +kernel, by decide +kernel⟩, List.mem_of_getElem? (i := 890) (by decide +kernel), List.mem_of_getElem? (i := 986) (by decide +kernel), List.mem_of_getElem? (i := 987) (by decide +kernel)⟩
theorem lw_p30 : lw_okq (⟨"OneWayTillNoonModel", "readsStatement", "()Z"⟩, 25) := ⟨⟨by decide +kernel, by decide +kernel⟩, List.mem_of_getElem? (i := 890) (by decide +kernel), List.mem_of_getElem? (i := 990) (by decide +kernel), List.mem_of_getElem? (i := 991) (by decide +kernel)⟩
theorem lw_p31 : lw_okq (⟨"OneWayTillNoonModel", "sign", "()I"⟩, 25) := ⟨⟨by decide +kernel, by decide +kernel⟩, List.mem_of_getElem? (i := 890) (by decide +kernel), List.mem_of_getElem? (i := 994) (by decide +kernel), List.mem_of_getElem? (i := 995) (by decide +kernel)⟩
def lw_privs_2 : List (MethodName × Nat) := [(⟨"OneWayTillNoon", "freezeAsItIs", "(I)V"⟩, 13), (⟨"OneWayTillNoon$Frozen", "layStep", "(III)V"⟩, 3), (⟨"OneWayTillNoon$Frozen", "joinBy", "([I[II)V"⟩, 3), (⟨"OneWayTillNoon$Frozen", "isApart", "(II)Z"⟩, 3), (⟨"OneWayTillNoon$Plan", "cornersFrom", "(II)I"⟩, 3), (⟨"OneWayTillNoon$Plan", "otherEnd", "(II)I"⟩, 3), (⟨"OneWayTillNoon$Ledger", "minutesOf", "(III)I"⟩, 3), (⟨"OneWayTillNoon", "refusalOfTrying", "()I"⟩, 13), (⟨"OneWayTillNoon$Trials", "nextByFewest", "(I)I"⟩, 5), (⟨"OneWayTillNoon", "traceErrand", "(I)V"⟩, 13), (⟨"OneWayTillNoon$Trials", "allReachedBy", "(I)Z"⟩, 5), (⟨"OneWayTillNoon$Ledger", "drawBelow", "(I)I"⟩, 3), (⟨"OneWayTillNoonModel", "refuse", "(I)I"⟩, 25), (⟨"OneWayTillNoonModel", "reads", "()I"⟩, 25), (⟨"OneWayTillNoonModel", "readsStatement", "()Z"⟩, 25), (⟨"OneWayTillNoonModel", "sign", "()I"⟩, 25)]
theorem lw_r2 : ∀ q ∈ lw_privs_2, lw_okq q := List.forall_mem_cons.mpr ⟨lw_p16, List.forall_mem_cons.mpr ⟨lw_p17, List.forall_mem_cons.mpr ⟨lw_p18, List.forall_mem_cons.mpr ⟨lw_p19, List.forall_mem_cons.mpr ⟨lw_p20, List.forall_mem_cons.mpr ⟨lw_p21, List.forall_mem_cons.mpr ⟨lw_p22, List.forall_mem_cons.mpr ⟨lw_p23, List.forall_mem_cons.mpr ⟨lw_p24, List.forall_mem_cons.mpr ⟨lw_p25, List.forall_mem_cons.mpr ⟨lw_p26, List.forall_mem_cons.mpr ⟨lw_p27, List.forall_mem_cons.mpr ⟨lw_p28, List.forall_mem_cons.mpr ⟨lw_p29, List.forall_mem_cons.mpr ⟨lw_p30, List.forall_mem_cons.mpr ⟨lw_p31, fun _ h => absurd h List.not_mem_nil⟩⟩⟩⟩⟩⟩⟩⟩⟩⟩⟩⟩⟩⟩⟩⟩
theorem lw_p32 : lw_okq (⟨"OneWayTillNoonModel", "readsNumber", "(II)Z"⟩, 25) := ⟨⟨by decide +kernel, by decide +kernel⟩, List.mem_of_getElem? (i := 890) (by decide +kernel), List.mem_of_getElem? (i := 998) (by decide +kernel), List.mem_of_getElem? (i := 999) (by decide +kernel)⟩
theorem lw_p33 : lw_okq (⟨"OneWayTillNoonModel", "takes", "(I)Z"⟩, 25) := ⟨⟨by decide +kernel, by decide +kernel⟩, List.mem_of_getElem? (i := 890) (by decide +kernel), List.mem_of_getElem? (i := 1002) (by decide +kernel), List.mem_of_getElem? (i := 1003) (by decide +kernel)⟩
theorem lw_p34 : lw_okq (⟨"OneWayTillNoonModel", "comes", "(I)Z"⟩, 25) := ⟨⟨by decide +kernel, by decide +kernel⟩, List.mem_of_getElem? (i := 890) (by decide +kernel), List.mem_of_getElem? (i := 1006) (by decide +kernel), List.mem_of_getElem? (i := 1007) (by decide +kernel)⟩
theorem lw_p35 : lw_okq (⟨"OneWayTillNoonModel", "toldOf", "()I"⟩, 25) := ⟨⟨by decide +kernel, by decide +kernel⟩, List.mem_of_getElem? (i := 890) (by decide +kernel), List.mem_of_getElem? (i := 1010) (by decide +kernel), List.mem_of_getElem? (i := 1011) (by decide +kernel)⟩
theorem lw_p36 : lw_okq (⟨"OneWayTillNoonModel", "isStreet", "(I)Z"⟩, 25) := ⟨⟨by decide +kernel, by decide +kernel⟩, List.mem_of_getElem? (i := 890) (by decide +kernel), List.mem_of_getElem? (i := 1018) (by decide +kernel), List.mem_of_getElem? (i := 1019) (by decide +kernel)⟩
theorem lw_p37 : lw_okq (⟨"OneWayTillNoonModel", "get", "(II)I"⟩, 25) := ⟨⟨by decide +kernel, by decide +kernel⟩, List.mem_of_getElem? (i := 890) (by decide +kernel), List.mem_of_getElem? (i := 1025) (by decide +kernel), List.mem_of_getElem? (i := 1026) (by decide +kernel)⟩
theorem lw_p38 : lw_okq (⟨"OneWayTillNoonModel", "isErrand", "(I)Z"⟩, 25) := ⟨⟨by decide +kernel, by decide +kernel⟩, List.mem_of_getElem? (i := 890) (by decide +kernel), List.mem_of_getElem? (i := 1033) (by decide +kernel), List.mem_of_getElem? (i := 1034) (by decide +kernel)⟩
theorem lw_p39 : lw_okq (⟨"OneWayTillNoonModel", "of", "(II)I"⟩, 25) := ⟨⟨by decide +kernel, by decide +kernel⟩, List.mem_of_getElem? (i := 890) (by decide +kernel), List.mem_of_getElem? (i := 1037) (by decide +kernel), List.mem_of_getElem? (i := 1038) (by decide +kernel)⟩
theorem lw_p40 : lw_okq (⟨"OneWayTillNoonModel", "becomes", "(II)I"⟩, 25) := ⟨⟨by decide +kernel, by decide +kernel⟩, List.mem_of_getElem? (i := 890) (by decide +kernel), List.mem_of_getElem? (i := 1051) (by decide +kernel), List.mem_of_getElem? (i := 1052) (by decide +kernel)⟩
theorem lw_p41 : lw_okq (⟨"OneWayTillNoonModel", "wayOf", "(II)I"⟩, 25) := ⟨⟨by decide +kernel, by decide +kernel⟩, List.mem_of_getElem? (i := 890) (by decide +kernel), List.mem_of_getElem? (i := 1067) (by decide +kernel), List.mem_of_getElem? (i := 1068) (by decide +kernel)⟩
theorem lw_p42 : lw_okq (⟨"OneWayTillNoonModel", "wrongWay", "(III)I"⟩, 25) := ⟨⟨by decide +kernel, by decide +kernel⟩, List.mem_of_getElem? (i := 890) (by decide +kernel), List.mem_of_getElem? (i := 1075) (by decide +kernel), List.mem_of_getElem? (i := 1076) (by decide +kernel)⟩
theorem lw_p43 : lw_okq (⟨"OneWayTillNoonModel", "isCorner", "(I)Z"⟩, 25) := ⟨⟨by decide +kernel, by decide +kernel⟩, List.mem_of_getElem? (i := 890) (by decide +kernel), List.mem_of_getElem? (i := 1079) (by decide +kernel), List.mem_of_getElem? (i := 1080) (by decide +kernel)⟩
theorem lw_p44 : lw_okq (⟨"OneWayTillNoonModel", "finds", "(II)V"⟩, 25) := ⟨⟨by decide +kernel, by decide +kernel⟩, List.mem_of_getElem? (i := 890) (by decide +kernel), List.mem_of_getElem? (i := 1083) (by decide +kernel), List.mem_of_getElem? (i := 1084) (by decide +kernel)⟩
theorem lw_p45 : lw_okq (⟨"OneWayTillNoonModel", "enters", "(III)I"⟩, 25) := ⟨⟨by decide +kernel, by decide +kernel⟩, List.mem_of_getElem? (i := 890) (by decide +kernel), List.mem_of_getElem? (i := 1087) (by decide +kernel), List.mem_of_getElem? (i := 1088) (by decide +kernel)⟩
theorem lw_p46 : lw_okq (⟨"OneWayTillNoonModel", "goesFrom", "(III)Z"⟩, 25) := ⟨⟨by decide +kernel, by decide +kernel⟩, List.mem_of_getElem? (i := 890) (by decide +kernel), List.mem_of_getElem? (i := 1091) (by decide +kernel), List.mem_of_getElem? (i := 1092) (by decide +kernel)⟩
theorem lw_p47 : lw_okq (⟨"OneWayTillNoonModel", "findsRoad", "(III)Z"⟩, 25) := ⟨⟨by decide +kernel, by decide +kernel⟩, List.mem_of_getElem? (i := 890) (by decide +kernel), List.mem_of_getElem? (i := 1099) (by decide +kernel), List.mem_of_getElem? (i := 1100) (by decide +kernel)⟩
def lw_privs_3 : List (MethodName × Nat) := [(⟨"OneWayTillNoonModel", "readsNumber", "(II)Z"⟩, 25), (⟨"OneWayTillNoonModel", "takes", "(I)Z"⟩, 25), (⟨"OneWayTillNoonModel", "comes", "(I)Z"⟩, 25), (⟨"OneWayTillNoonModel", "toldOf", "()I"⟩, 25), (⟨"OneWayTillNoonModel", "isStreet", "(I)Z"⟩, 25), (⟨"OneWayTillNoonModel", "get", "(II)I"⟩, 25), (⟨"OneWayTillNoonModel", "isErrand", "(I)Z"⟩, 25), (⟨"OneWayTillNoonModel", "of", "(II)I"⟩, 25), (⟨"OneWayTillNoonModel", "becomes", "(II)I"⟩, 25), (⟨"OneWayTillNoonModel", "wayOf", "(II)I"⟩, 25), (⟨"OneWayTillNoonModel", "wrongWay", "(III)I"⟩, 25), (⟨"OneWayTillNoonModel", "isCorner", "(I)Z"⟩, 25), (⟨"OneWayTillNoonModel", "finds", "(II)V"⟩, 25), (⟨"OneWayTillNoonModel", "enters", "(III)I"⟩, 25), (⟨"OneWayTillNoonModel", "goesFrom", "(III)Z"⟩, 25), (⟨"OneWayTillNoonModel", "findsRoad", "(III)Z"⟩, 25)]
theorem lw_r3 : ∀ q ∈ lw_privs_3, lw_okq q := List.forall_mem_cons.mpr ⟨lw_p32, List.forall_mem_cons.mpr ⟨lw_p33, List.forall_mem_cons.mpr ⟨lw_p34, List.forall_mem_cons.mpr ⟨lw_p35, List.forall_mem_cons.mpr ⟨lw_p36, List.forall_mem_cons.mpr ⟨lw_p37, List.forall_mem_cons.mpr ⟨lw_p38, List.forall_mem_cons.mpr ⟨lw_p39, List.forall_mem_cons.mpr ⟨lw_p40, List.forall_mem_cons.mpr ⟨lw_p41, List.forall_mem_cons.mpr ⟨lw_p42, List.forall_mem_cons.mpr ⟨lw_p43, List.forall_mem_cons.mpr ⟨lw_p44, List.forall_mem_cons.mpr ⟨lw_p45, List.forall_mem_cons.mpr ⟨lw_p46, List.forall_mem_cons.mpr ⟨lw_p47, fun _ h => absurd h List.not_mem_nil⟩⟩⟩⟩⟩⟩⟩⟩⟩⟩⟩⟩⟩⟩⟩⟩
theorem lw_p48 : lw_okq (⟨"OneWayTillNoonModel", "apartAt", "(I)I"⟩, 25) := ⟨⟨by decide +kernel, by decide +kernel⟩, List.mem_of_getElem? (i := 890) (by decide +kernel), List.mem_of_getElem? (i := 1111) (by decide +kernel), List.mem_of_getElem? (i := 1112) (by decide +kernel)⟩
theorem lw_p49 : lw_okq (⟨"OneWayTillNoonModel", "findsFar", "(I)V"⟩, 25) := ⟨⟨by decide +kernel, by decide +kernel⟩, List.mem_of_getElem? (i := 890) (by decide +kernel), List.mem_of_getElem? (i := 1115) (by decide +kernel), List.mem_of_getElem? (i := 1116) (by decide +kernel)⟩
theorem lw_p50 : lw_okq (⟨"OneWayTillNoonModel", "longestAt", "(I)I"⟩, 25) := ⟨⟨by decide +kernel, by decide +kernel⟩, List.mem_of_getElem? (i := 890) (by decide +kernel), List.mem_of_getElem? (i := 1124) (by decide +kernel), List.mem_of_getElem? (i := 1125) (by decide +kernel)⟩
theorem lw_p51 : lw_okq (⟨"OneWayTillNoonModel", "hang", "(II)I"⟩, 25) := ⟨⟨by decide +kernel, by decide +kernel⟩, List.mem_of_getElem? (i := 890) (by decide +kernel), List.mem_of_getElem? (i := 1136) (by decide +kernel), List.mem_of_getElem? (i := 1137) (by decide +kernel)⟩
theorem lw_p52 : lw_okq (⟨"OneWayTillNoonModel", "bridgeBits", "()I"⟩, 25) := ⟨⟨by decide +kernel, by decide +kernel⟩, List.mem_of_getElem? (i := 890) (by decide +kernel), List.mem_of_getElem? (i := 1140) (by decide +kernel), List.mem_of_getElem? (i := 1141) (by decide +kernel)⟩
theorem lw_p53 : lw_okq (⟨"OneWayTillNoonModel", "isBridge", "(I)Z"⟩, 25) := ⟨⟨by decide +kernel, by decide +kernel⟩, List.mem_of_getElem? (i := 890) (by decide +kernel), List.mem_of_getElem? (i := 1144) (by decide +kernel), List.mem_of_getElem? (i := 1145) (by decide +kernel)⟩
theorem lw_p54 : lw_okq (⟨"OneWayTillNoonModel", "walks", "(I)V"⟩, 25) := ⟨⟨by decide +kernel, by decide +kernel⟩, List.mem_of_getElem? (i := 890) (by decide +kernel), List.mem_of_getElem? (i := 1156) (by decide +kernel), List.mem_of_getElem? (i := 1157) (by decide +kernel)⟩
theorem lw_p55 : lw_okq (⟨"OneWayTillNoonModel", "costOf", "()I"⟩, 25) := ⟨⟨by decide +kernel, by decide +kernel⟩, List.mem_of_getElem? (i := 890) (by decide +kernel), List.mem_of_getElem? (i := 1164) (by decide +kernel), List.mem_of_getElem? (i := 1165) (by decide +kernel)⟩
theorem lw_p56 : lw_okq (⟨"OneWayTillNoonModel", "wrongFew", "()I"⟩, 25) := ⟨⟨by decide +kernel, by decide +kernel⟩, List.mem_of_getElem? (i := 890) (by decide +kernel), List.mem_of_getElem? (i := 1172) (by decide +kernel), List.mem_of_getElem? (i := 1173) (by decide +kernel)⟩
theorem lw_p57 : lw_okq (⟨"OneWayTillNoonModel", "bestOf", "(Z)I"⟩, 25) := ⟨⟨by decide +kernel, by decide +kernel⟩, List.mem_of_getElem? (i := 890) (by decide +kernel), List.mem_of_getElem? (i := 1176) (by decide +kernel), List.mem_of_getElem? (i := 1177) (by decide +kernel)⟩
theorem lw_p58 : lw_okq (⟨"OneWayTillNoonModel", "keepsMusts", "(I)Z"⟩, 25) := ⟨⟨by decide +kernel, by decide +kernel⟩, List.mem_of_getElem? (i := 890) (by decide +kernel), List.mem_of_getElem? (i := 1180) (by decide +kernel), List.mem_of_getElem? (i := 1181) (by decide +kernel)⟩
theorem lw_p59 : lw_okq (⟨"OneWayTillNoonModel", "along", "(II)I"⟩, 25) := ⟨⟨by decide +kernel, by decide +kernel⟩, List.mem_of_getElem? (i := 890) (by decide +kernel), List.mem_of_getElem? (i := 1207) (by decide +kernel), List.mem_of_getElem? (i := 1208) (by decide +kernel)⟩
theorem lw_p60 : lw_okq (⟨"OneWayTillNoonModel", "areMet", "(II)Z"⟩, 25) := ⟨⟨by decide +kernel, by decide +kernel⟩, List.mem_of_getElem? (i := 890) (by decide +kernel), List.mem_of_getElem? (i := 1223) (by decide +kernel), List.mem_of_getElem? (i := 1224) (by decide +kernel)⟩
theorem lw_p61 : lw_okq (⟨"OneWayTillNoonModel", "stays", "(I)V"⟩, 25) := ⟨⟨by decide +kernel, by decide +kernel⟩, List.mem_of_getElem? (i := 890) (by decide +kernel), List.mem_of_getElem? (i := 1227) (by decide +kernel), List.mem_of_getElem? (i := 1228) (by decide +kernel)⟩
theorem lw_p62 : lw_okq (⟨"OneWayTillNoonModel", "isReached", "(III)Z"⟩, 25) := ⟨⟨by decide +kernel, by decide +kernel⟩, List.mem_of_getElem? (i := 890) (by decide +kernel), List.mem_of_getElem? (i := 1239) (by decide +kernel), List.mem_of_getElem? (i := 1240) (by decide +kernel)⟩
def lw_privs_4 : List (MethodName × Nat) := [(⟨"OneWayTillNoonModel", "apartAt", "(I)I"⟩, 25), (⟨"OneWayTillNoonModel", "findsFar", "(I)V"⟩, 25), (⟨"OneWayTillNoonModel", "longestAt", "(I)I"⟩, 25), (⟨"OneWayTillNoonModel", "hang", "(II)I"⟩, 25), (⟨"OneWayTillNoonModel", "bridgeBits", "()I"⟩, 25), (⟨"OneWayTillNoonModel", "isBridge", "(I)Z"⟩, 25), (⟨"OneWayTillNoonModel", "walks", "(I)V"⟩, 25), (⟨"OneWayTillNoonModel", "costOf", "()I"⟩, 25), (⟨"OneWayTillNoonModel", "wrongFew", "()I"⟩, 25), (⟨"OneWayTillNoonModel", "bestOf", "(Z)I"⟩, 25), (⟨"OneWayTillNoonModel", "keepsMusts", "(I)Z"⟩, 25), (⟨"OneWayTillNoonModel", "along", "(II)I"⟩, 25), (⟨"OneWayTillNoonModel", "areMet", "(II)Z"⟩, 25), (⟨"OneWayTillNoonModel", "stays", "(I)V"⟩, 25), (⟨"OneWayTillNoonModel", "isReached", "(III)Z"⟩, 25)]
theorem lw_r4 : ∀ q ∈ lw_privs_4, lw_okq q := List.forall_mem_cons.mpr ⟨lw_p48, List.forall_mem_cons.mpr ⟨lw_p49, List.forall_mem_cons.mpr ⟨lw_p50, List.forall_mem_cons.mpr ⟨lw_p51, List.forall_mem_cons.mpr ⟨lw_p52, List.forall_mem_cons.mpr ⟨lw_p53, List.forall_mem_cons.mpr ⟨lw_p54, List.forall_mem_cons.mpr ⟨lw_p55, List.forall_mem_cons.mpr ⟨lw_p56, List.forall_mem_cons.mpr ⟨lw_p57, List.forall_mem_cons.mpr ⟨lw_p58, List.forall_mem_cons.mpr ⟨lw_p59, List.forall_mem_cons.mpr ⟨lw_p60, List.forall_mem_cons.mpr ⟨lw_p61, List.forall_mem_cons.mpr ⟨lw_p62, fun _ h => absurd h List.not_mem_nil⟩⟩⟩⟩⟩⟩⟩⟩⟩⟩⟩⟩⟩⟩⟩
def lw_privs : List (MethodName × Nat) := lw_privs_1 ++ (lw_privs_2 ++ (lw_privs_3 ++ (lw_privs_4)))
def lw_tbl : List Cond := k2_sels lw_privs ++ tables_1
theorem lw_privs_ok : ∀ q ∈ lw_privs, lw_okq q := by
  show ∀ q ∈ lw_privs_1 ++ (lw_privs_2 ++ (lw_privs_3 ++ (lw_privs_4))), lw_okq q
  exact List.forall_mem_append.mpr ⟨lw_r1, List.forall_mem_append.mpr ⟨lw_r2, List.forall_mem_append.mpr ⟨lw_r3, lw_r4⟩⟩⟩
end
section
def RX0 : String := "OneWayTillNoon$Frozen"
def TX0 : u_T := fun k => match k with
  | 0 => ("OneWayTillNoon$Frozen", "town", "LOneWayTillNoon$Town;", true)
  | 1 => ("OneWayTillNoon$Frozen", "traffic", "LOneWayTillNoon$Traffic;", true)
  | _ => ("OneWayTillNoon$Frozen", "least", "[[I", true)
def tyX0 : Nat → FieldType := fun k => match k with
  | 0 => .object "OneWayTillNoon$Town"
  | 1 => .object "OneWayTillNoon$Traffic"
  | _ => .array (.array .int)
abbrev wsX00 : List Cond := u_ws RX0 TX0 3
theorem nmX0 : ∀ a, a < 3 → ∀ b, b < 3 → a ≠ b → (TX0 a).2.1 ≠ (TX0 b).2.1 := by decide +kernel
theorem tyX0_ok : ∀ k, k < 3 → parseFieldDescriptor (TX0 k).2.2.1 = some (tyX0 k) := by decide +kernel
abbrev cX0_init : ByteArray := prog_2_method_1_code
def yX0_init : MethodName := ⟨RX0, "<init>", "(LOneWayTillNoon$Town;LOneWayTillNoon$Traffic;)V"⟩
abbrev cX0_lay : ByteArray := prog_2_method_2_code
def yX0_lay : MethodName := ⟨RX0, "lay", "(I)V"⟩
abbrev cX0_layStep : ByteArray := prog_2_method_3_code
def yX0_layStep : MethodName := ⟨RX0, "layStep", "(III)V"⟩
abbrev cX0_join : ByteArray := prog_2_method_4_code
def yX0_join : MethodName := ⟨RX0, "join", "()V"⟩
abbrev cX0_joinBy : ByteArray := prog_2_method_5_code
def yX0_joinBy : MethodName := ⟨RX0, "joinBy", "([I[II)V"⟩
abbrev cX0_pairsApart : ByteArray := prog_2_method_6_code
def yX0_pairsApart : MethodName := ⟨RX0, "pairsApart", "()I"⟩
abbrev cX0_firstApart : ByteArray := prog_2_method_7_code
def yX0_firstApart : MethodName := ⟨RX0, "firstApart", "()I"⟩
abbrev cX0_isApart : ByteArray := prog_2_method_8_code
def yX0_isApart : MethodName := ⟨RX0, "isApart", "(II)Z"⟩
abbrev cX0_farthest : ByteArray := prog_2_method_9_code
def yX0_farthest : MethodName := ⟨RX0, "farthest", "()I"⟩
abbrev cX0_roundOfRow : ByteArray := prog_2_method_10_code
def yX0_roundOfRow : MethodName := ⟨RX0, "roundOfRow", "()I"⟩
def RX1 : String := "OneWayTillNoon$Ledger"
def TX1 : u_T := fun k => match k with
  | 0 => ("OneWayTillNoon$Ledger", "town", "LOneWayTillNoon$Town;", true)
  | 1 => ("OneWayTillNoon$Ledger", "travel", "LOneWayTillNoon$Travel;", true)
  | _ => ("OneWayTillNoon$Ledger", "seed", "I", false)
def tyX1 : Nat → FieldType := fun k => match k with
  | 0 => .object "OneWayTillNoon$Town"
  | 1 => .object "OneWayTillNoon$Travel"
  | _ => .int
abbrev wsX10 : List Cond := u_ws RX1 TX1 3
theorem nmX1 : ∀ a, a < 3 → ∀ b, b < 3 → a ≠ b → (TX1 a).2.1 ≠ (TX1 b).2.1 := by decide +kernel
theorem tyX1_ok : ∀ k, k < 3 → parseFieldDescriptor (TX1 k).2.2.1 = some (tyX1 k) := by decide +kernel
abbrev cX1_init : ByteArray := prog_3_method_1_code
def yX1_init : MethodName := ⟨RX1, "<init>", "(LOneWayTillNoon$Town;LOneWayTillNoon$Travel;)V"⟩
abbrev cX1_total : ByteArray := prog_3_method_2_code
def yX1_total : MethodName := ⟨RX1, "total", "()I"⟩
abbrev cX1_totalUpTo : ByteArray := prog_3_method_3_code
def yX1_totalUpTo : MethodName := ⟨RX1, "totalUpTo", "(I)I"⟩
abbrev cX1_minutesOf : ByteArray := prog_3_method_4_code
def yX1_minutesOf : MethodName := ⟨RX1, "minutesOf", "(III)I"⟩
abbrev cX1_cheapestHome : ByteArray := prog_3_method_5_code
def yX1_cheapestHome : MethodName := ⟨RX1, "cheapestHome", "()I"⟩
abbrev cX1_totalOfDays : ByteArray := prog_3_method_6_code
def yX1_totalOfDays : MethodName := ⟨RX1, "totalOfDays", "(II)I"⟩
abbrev cX1_drawBelow : ByteArray := prog_3_method_7_code
def yX1_drawBelow : MethodName := ⟨RX1, "drawBelow", "(I)I"⟩
def RX2 : String := "OneWayTillNoon$Plan"
def TX2 : u_T := fun k => match k with
  | 0 => ("OneWayTillNoon$Plan", "town", "LOneWayTillNoon$Town;", true)
  | 1 => ("OneWayTillNoon$Plan", "cameFrom", "[I", true)
  | _ => ("OneWayTillNoon$Plan", "nextStreet", "[I", true)
def tyX2 : Nat → FieldType := fun k => match k with
  | 0 => .object "OneWayTillNoon$Town"
  | 1 => .array .int
  | _ => .array .int
abbrev wsX20 : List Cond := u_ws RX2 TX2 3
theorem nmX2 : ∀ a, a < 3 → ∀ b, b < 3 → a ≠ b → (TX2 a).2.1 ≠ (TX2 b).2.1 := by decide +kernel
theorem tyX2_ok : ∀ k, k < 3 → parseFieldDescriptor (TX2 k).2.2.1 = some (tyX2 k) := by decide +kernel
abbrev cX2_init : ByteArray := prog_4_method_1_code
def yX2_init : MethodName := ⟨RX2, "<init>", "(LOneWayTillNoon$Town;)V"⟩
abbrev cX2_hangsTogether : ByteArray := prog_4_method_2_code
def yX2_hangsTogether : MethodName := ⟨RX2, "hangsTogether", "()Z"⟩
abbrev cX2_bridgeOnes : ByteArray := prog_4_method_3_code
def yX2_bridgeOnes : MethodName := ⟨RX2, "bridgeOnes", "()I"⟩
abbrev cX2_cornersFrom : ByteArray := prog_4_method_4_code
def yX2_cornersFrom : MethodName := ⟨RX2, "cornersFrom", "(II)I"⟩
abbrev cX2_walkThrough : ByteArray := prog_4_method_5_code
def yX2_walkThrough : MethodName := ⟨RX2, "walkThrough", "()I"⟩
abbrev cX2_otherEnd : ByteArray := prog_4_method_6_code
def yX2_otherEnd : MethodName := ⟨RX2, "otherEnd", "(II)I"⟩
def RX3 : String := "OneWayTillNoon$Reader"
def TX3 : u_T := fun k => match k with
  | 0 => ("OneWayTillNoon$Reader", "tape", "LOneWayTillNoon$Tape;", true)
  | 1 => ("OneWayTillNoon$Reader", "trial", "LOneWayTillNoon$Town;", true)
  | 2 => ("OneWayTillNoon$Reader", "place", "I", false)
  | 3 => ("OneWayTillNoon$Reader", "letter", "I", false)
  | 4 => ("OneWayTillNoon$Reader", "letterPlace", "I", false)
  | 5 => ("OneWayTillNoon$Reader", "numbers", "[I", true)
  | _ => ("OneWayTillNoon$Reader", "broad", "Z", false)
def tyX3 : Nat → FieldType := fun k => match k with
  | 0 => .object "OneWayTillNoon$Tape"
  | 1 => .object "OneWayTillNoon$Town"
  | 2 => .int
  | 3 => .int
  | 4 => .int
  | 5 => .array .int
  | _ => .boolean
abbrev wsX30 : List Cond := u_ws RX3 TX3 7
theorem nmX3 : ∀ a, a < 7 → ∀ b, b < 7 → a ≠ b → (TX3 a).2.1 ≠ (TX3 b).2.1 := by decide +kernel
theorem tyX3_ok : ∀ k, k < 7 → parseFieldDescriptor (TX3 k).2.2.1 = some (tyX3 k) := by decide +kernel
abbrev cX3_init : ByteArray := prog_5_method_1_code
def yX3_init : MethodName := ⟨RX3, "<init>", "(LOneWayTillNoon$Tape;)V"⟩
abbrev cX3_readInto : ByteArray := prog_5_method_2_code
def yX3_readInto : MethodName := ⟨RX3, "readInto", "(LOneWayTillNoon$Town;)I"⟩
abbrev cX3_statementsWritten : ByteArray := prog_5_method_3_code
def yX3_statementsWritten : MethodName := ⟨RX3, "statementsWritten", "()I"⟩
abbrev cX3_readStatement : ByteArray := prog_5_method_4_code
def yX3_readStatement : MethodName := ⟨RX3, "readStatement", "()Z"⟩
abbrev cX3_number : ByteArray := prog_5_method_5_code
def yX3_number : MethodName := ⟨RX3, "number", "(II)Z"⟩
abbrev cX3_isDigit : ByteArray := prog_5_method_6_code
def yX3_isDigit : MethodName := ⟨RX3, "isDigit", "(I)Z"⟩
abbrev cX3_sign : ByteArray := prog_5_method_7_code
def yX3_sign : MethodName := ⟨RX3, "sign", "(C)Z"⟩
abbrev cX3_broadOrNot : ByteArray := prog_5_method_8_code
def yX3_broadOrNot : MethodName := ⟨RX3, "broadOrNot", "()Z"⟩
abbrev cX3_tell : ByteArray := prog_5_method_9_code
def yX3_tell : MethodName := ⟨RX3, "tell", "()Z"⟩
def RX4 : String := "OneWayTillNoon$Road"
def TX4 : u_T := fun k => match k with
  | 0 => ("OneWayTillNoon$Road", "town", "LOneWayTillNoon$Town;", true)
  | 1 => ("OneWayTillNoon$Road", "traffic", "LOneWayTillNoon$Traffic;", true)
  | 2 => ("OneWayTillNoon$Road", "travel", "LOneWayTillNoon$Travel;", true)
  | 3 => ("OneWayTillNoon$Road", "streets", "[I", true)
  | 4 => ("OneWayTillNoon$Road", "corners", "[I", true)
  | 5 => ("OneWayTillNoon$Road", "comes", "[I", true)
  | 6 => ("OneWayTillNoon$Road", "goes", "[I", true)
  | _ => ("OneWayTillNoon$Road", "length", "I", false)
def tyX4 : Nat → FieldType := fun k => match k with
  | 0 => .object "OneWayTillNoon$Town"
  | 1 => .object "OneWayTillNoon$Traffic"
  | 2 => .object "OneWayTillNoon$Travel"
  | 3 => .array .int
  | 4 => .array .int
  | 5 => .array .int
  | 6 => .array .int
  | _ => .int
abbrev wsX40 : List Cond := u_ws RX4 TX4 8
theorem nmX4 : ∀ a, a < 8 → ∀ b, b < 8 → a ≠ b → (TX4 a).2.1 ≠ (TX4 b).2.1 := by decide +kernel
theorem tyX4_ok : ∀ k, k < 8 → parseFieldDescriptor (TX4 k).2.2.1 = some (tyX4 k) := by decide +kernel
abbrev cX4_init : ByteArray := prog_6_method_1_code
def yX4_init : MethodName := ⟨RX4, "<init>", "(LOneWayTillNoon$Town;LOneWayTillNoon$Traffic;LOneWayTillNoon$Travel;)V"⟩
abbrev cX4_trace : ByteArray := prog_6_method_2_code
def yX4_trace : MethodName := ⟨RX4, "trace", "(III)V"⟩
abbrev cX4_traceBack : ByteArray := prog_6_method_3_code
def yX4_traceBack : MethodName := ⟨RX4, "traceBack", "()Z"⟩
abbrev cX4_cameBy : ByteArray := prog_6_method_4_code
def yX4_cameBy : MethodName := ⟨RX4, "cameBy", "(III)Z"⟩
abbrev cX4_streetAt : ByteArray := prog_6_method_5_code
def yX4_streetAt : MethodName := ⟨RX4, "streetAt", "(I)I"⟩
abbrev cX4_minutesWaited : ByteArray := prog_6_method_6_code
def yX4_minutesWaited : MethodName := ⟨RX4, "minutesWaited", "()I"⟩
abbrev cX4_crosses : ByteArray := prog_6_method_7_code
def yX4_crosses : MethodName := ⟨RX4, "crosses", "(LOneWayTillNoon$Road;)Z"⟩
def RX5 : String := "OneWayTillNoon$Tape"
def TX5 : u_T := fun k => match k with
  | 0 => ("OneWayTillNoon$Tape", "bytes", "[I", true)
  | _ => ("OneWayTillNoon$Tape", "length", "I", false)
def tyX5 : Nat → FieldType := fun k => match k with
  | 0 => .array .int
  | _ => .int
abbrev wsX50 : List Cond := u_ws RX5 TX5 2
theorem nmX5 : ∀ a, a < 2 → ∀ b, b < 2 → a ≠ b → (TX5 a).2.1 ≠ (TX5 b).2.1 := by decide +kernel
theorem tyX5_ok : ∀ k, k < 2 → parseFieldDescriptor (TX5 k).2.2.1 = some (tyX5 k) := by decide +kernel
abbrev cX5_init : ByteArray := prog_7_method_1_code
def yX5_init : MethodName := ⟨RX5, "<init>", "()V"⟩
abbrev cX5_add : ByteArray := prog_7_method_2_code
def yX5_add : MethodName := ⟨RX5, "add", "(I)V"⟩
abbrev cX5_byteAt : ByteArray := prog_7_method_3_code
def yX5_byteAt : MethodName := ⟨RX5, "byteAt", "(I)I"⟩
def RX6 : String := "OneWayTillNoon$Town"
def TX6 : u_T := fun k => match k with
  | 0 => ("OneWayTillNoon$Town", "corners", "I", false)
  | 1 => ("OneWayTillNoon$Town", "streets", "I", false)
  | 2 => ("OneWayTillNoon$Town", "errands", "I", false)
  | 3 => ("OneWayTillNoon$Town", "rowLength", "I", false)
  | 4 => ("OneWayTillNoon$Town", "broadOnes", "I", false)
  | 5 => ("OneWayTillNoon$Town", "shutOnes", "I", false)
  | 6 => ("OneWayTillNoon$Town", "pointing", "I", false)
  | 7 => ("OneWayTillNoon$Town", "tails", "[I", true)
  | 8 => ("OneWayTillNoon$Town", "heads", "[I", true)
  | 9 => ("OneWayTillNoon$Town", "minutes", "[I", true)
  | 10 => ("OneWayTillNoon$Town", "musts", "[I", true)
  | 11 => ("OneWayTillNoon$Town", "froms", "[I", true)
  | 12 => ("OneWayTillNoon$Town", "tos", "[I", true)
  | 13 => ("OneWayTillNoon$Town", "ats", "[I", true)
  | 14 => ("OneWayTillNoon$Town", "worths", "[I", true)
  | 15 => ("OneWayTillNoon$Town", "row", "[I", true)
  | _ => ("OneWayTillNoon$Town", "settings", "[I", true)
def tyX6 : Nat → FieldType := fun k => match k with
  | 0 => .int
  | 1 => .int
  | 2 => .int
  | 3 => .int
  | 4 => .int
  | 5 => .int
  | 6 => .int
  | 7 => .array .int
  | 8 => .array .int
  | 9 => .array .int
  | 10 => .array .int
  | 11 => .array .int
  | 12 => .array .int
  | 13 => .array .int
  | 14 => .array .int
  | 15 => .array .int
  | _ => .array .int
abbrev wsX60 : List Cond := u_ws RX6 TX6 17
theorem nmX6 : ∀ a, a < 17 → ∀ b, b < 17 → a ≠ b → (TX6 a).2.1 ≠ (TX6 b).2.1 := by decide +kernel
theorem tyX6_ok : ∀ k, k < 17 → parseFieldDescriptor (TX6 k).2.2.1 = some (tyX6 k) := by decide +kernel
abbrev cX6_init : ByteArray := prog_8_method_1_code
def yX6_init : MethodName := ⟨RX6, "<init>", "()V"⟩
abbrev cX6_takeFrom : ByteArray := prog_8_method_2_code
def yX6_takeFrom : MethodName := ⟨RX6, "takeFrom", "(LOneWayTillNoon$Town;)V"⟩
abbrev cX6_hasCorner : ByteArray := prog_8_method_3_code
def yX6_hasCorner : MethodName := ⟨RX6, "hasCorner", "(I)Z"⟩
abbrev cX6_hasStreet : ByteArray := prog_8_method_4_code
def yX6_hasStreet : MethodName := ⟨RX6, "hasStreet", "(I)Z"⟩
abbrev cX6_hasErrand : ByteArray := prog_8_method_5_code
def yX6_hasErrand : MethodName := ⟨RX6, "hasErrand", "(I)Z"⟩
abbrev cX6_tellCorners : ByteArray := prog_8_method_6_code
def yX6_tellCorners : MethodName := ⟨RX6, "tellCorners", "(I)Z"⟩
abbrev cX6_cornersToldOf : ByteArray := prog_8_method_7_code
def yX6_cornersToldOf : MethodName := ⟨RX6, "cornersToldOf", "()I"⟩
abbrev cX6_areTwoCorners : ByteArray := prog_8_method_8_code
def yX6_areTwoCorners : MethodName := ⟨RX6, "areTwoCorners", "(II)Z"⟩
abbrev cX6_tellStreet : ByteArray := prog_8_method_9_code
def yX6_tellStreet : MethodName := ⟨RX6, "tellStreet", "(IIIZ)Z"⟩
abbrev cX6_tellErrand : ByteArray := prog_8_method_10_code
def yX6_tellErrand : MethodName := ⟨RX6, "tellErrand", "(IIII)Z"⟩
abbrev cX6_tellMust : ByteArray := prog_8_method_11_code
def yX6_tellMust : MethodName := ⟨RX6, "tellMust", "(II)Z"⟩
abbrev cX6_mustsTold : ByteArray := prog_8_method_12_code
def yX6_mustsTold : MethodName := ⟨RX6, "mustsTold", "()I"⟩
abbrev cX6_mustLets : ByteArray := prog_8_method_13_code
def yX6_mustLets : MethodName := ⟨RX6, "mustLets", "(II)Z"⟩
abbrev cX6_firstMustUnkept : ByteArray := prog_8_method_14_code
def yX6_firstMustUnkept : MethodName := ⟨RX6, "firstMustUnkept", "(I)I"⟩
def RX7 : String := "OneWayTillNoon$Traffic"
def TX7 : u_T := fun k => match k with
  | 0 => ("OneWayTillNoon$Traffic", "town", "LOneWayTillNoon$Town;", true)
  | 1 => ("OneWayTillNoon$Traffic", "rule", "I", false)
  | 2 => ("OneWayTillNoon$Traffic", "noon", "I", false)
  | 3 => ("OneWayTillNoon$Traffic", "every", "I", false)
  | 4 => ("OneWayTillNoon$Traffic", "bits", "I", false)
  | 5 => ("OneWayTillNoon$Traffic", "shutOnes", "I", false)
  | 6 => ("OneWayTillNoon$Traffic", "openOnes", "I", false)
  | 7 => ("OneWayTillNoon$Traffic", "minute", "I", false)
  | 8 => ("OneWayTillNoon$Traffic", "nextTurn", "I", false)
  | _ => ("OneWayTillNoon$Traffic", "bitsThen", "I", false)
def tyX7 : Nat → FieldType := fun k => match k with
  | 0 => .object "OneWayTillNoon$Town"
  | 1 => .int
  | 2 => .int
  | 3 => .int
  | 4 => .int
  | 5 => .int
  | 6 => .int
  | 7 => .int
  | 8 => .int
  | _ => .int
abbrev wsX70 : List Cond := u_ws RX7 TX7 10
theorem nmX7 : ∀ a, a < 10 → ∀ b, b < 10 → a ≠ b → (TX7 a).2.1 ≠ (TX7 b).2.1 := by decide +kernel
theorem tyX7_ok : ∀ k, k < 10 → parseFieldDescriptor (TX7 k).2.2.1 = some (tyX7 k) := by decide +kernel
abbrev cX7_init : ByteArray := prog_9_method_1_code
def yX7_init : MethodName := ⟨RX7, "<init>", "(LOneWayTillNoon$Town;)V"⟩
abbrev cX7_takeAsItIs : ByteArray := prog_9_method_2_code
def yX7_takeAsItIs : MethodName := ⟨RX7, "takeAsItIs", "()V"⟩
abbrev cX7_pointAs : ByteArray := prog_9_method_3_code
def yX7_pointAs : MethodName := ⟨RX7, "pointAs", "(I)V"⟩
abbrev cX7_openBothWays : ByteArray := prog_9_method_4_code
def yX7_openBothWays : MethodName := ⟨RX7, "openBothWays", "(I)V"⟩
abbrev cX7_shutAlso : ByteArray := prog_9_method_5_code
def yX7_shutAlso : MethodName := ⟨RX7, "shutAlso", "(I)V"⟩
abbrev cX7_turnAt : ByteArray := prog_9_method_6_code
def yX7_turnAt : MethodName := ⟨RX7, "turnAt", "(I)V"⟩
abbrev cX7_standAt : ByteArray := prog_9_method_7_code
def yX7_standAt : MethodName := ⟨RX7, "standAt", "(I)V"⟩
abbrev cX7_wayOf : ByteArray := prog_9_method_8_code
def yX7_wayOf : MethodName := ⟨RX7, "wayOf", "(I)I"⟩
abbrev cX7_entryOf : ByteArray := prog_9_method_9_code
def yX7_entryOf : MethodName := ⟨RX7, "entryOf", "(II)I"⟩
def RX8 : String := "OneWayTillNoon$Travel"
def TX8 : u_T := fun k => match k with
  | 0 => ("OneWayTillNoon$Travel", "town", "LOneWayTillNoon$Town;", true)
  | 1 => ("OneWayTillNoon$Travel", "traffic", "LOneWayTillNoon$Traffic;", true)
  | 2 => ("OneWayTillNoon$Travel", "soonestAt", "[I", true)
  | _ => ("OneWayTillNoon$Travel", "settled", "I", false)
def tyX8 : Nat → FieldType := fun k => match k with
  | 0 => .object "OneWayTillNoon$Town"
  | 1 => .object "OneWayTillNoon$Traffic"
  | 2 => .array .int
  | _ => .int
abbrev wsX80 : List Cond := u_ws RX8 TX8 4
theorem nmX8 : ∀ a, a < 4 → ∀ b, b < 4 → a ≠ b → (TX8 a).2.1 ≠ (TX8 b).2.1 := by decide +kernel
theorem tyX8_ok : ∀ k, k < 4 → parseFieldDescriptor (TX8 k).2.2.1 = some (tyX8 k) := by decide +kernel
abbrev cX8_init : ByteArray := prog_10_method_1_code
def yX8_init : MethodName := ⟨RX8, "<init>", "(LOneWayTillNoon$Town;LOneWayTillNoon$Traffic;)V"⟩
abbrev cX8_setOut : ByteArray := prog_10_method_2_code
def yX8_setOut : MethodName := ⟨RX8, "setOut", "(III)V"⟩
abbrev cX8_minuteAt : ByteArray := prog_10_method_3_code
def yX8_minuteAt : MethodName := ⟨RX8, "minuteAt", "(I)I"⟩
abbrev cX8_soonestUnsettled : ByteArray := prog_10_method_4_code
def yX8_soonestUnsettled : MethodName := ⟨RX8, "soonestUnsettled", "()I"⟩
abbrev cX8_goOnFrom : ByteArray := prog_10_method_5_code
def yX8_goOnFrom : MethodName := ⟨RX8, "goOnFrom", "(I)V"⟩
abbrev cX8_goAlong : ByteArray := prog_10_method_6_code
def yX8_goAlong : MethodName := ⟨RX8, "goAlong", "(III)V"⟩
def RX9 : String := "OneWayTillNoon$Trials"
def TX9 : u_T := fun k => match k with
  | 0 => ("OneWayTillNoon$Trials", "town", "LOneWayTillNoon$Town;", true)
  | 1 => ("OneWayTillNoon$Trials", "traffic", "LOneWayTillNoon$Traffic;", true)
  | 2 => ("OneWayTillNoon$Trials", "travel", "LOneWayTillNoon$Travel;", true)
  | 3 => ("OneWayTillNoon$Trials", "frozen", "LOneWayTillNoon$Frozen;", true)
  | _ => ("OneWayTillNoon$Trials", "ledger", "LOneWayTillNoon$Ledger;", true)
def tyX9 : Nat → FieldType := fun k => match k with
  | 0 => .object "OneWayTillNoon$Town"
  | 1 => .object "OneWayTillNoon$Traffic"
  | 2 => .object "OneWayTillNoon$Travel"
  | 3 => .object "OneWayTillNoon$Frozen"
  | _ => .object "OneWayTillNoon$Ledger"
abbrev wsX90 : List Cond := u_ws RX9 TX9 5
theorem nmX9 : ∀ a, a < 5 → ∀ b, b < 5 → a ≠ b → (TX9 a).2.1 ≠ (TX9 b).2.1 := by decide +kernel
theorem tyX9_ok : ∀ k, k < 5 → parseFieldDescriptor (TX9 k).2.2.1 = some (tyX9 k) := by decide +kernel
abbrev cX9_init : ByteArray := prog_11_method_1_code
def yX9_init : MethodName := ⟨RX9, "<init>", "(LOneWayTillNoon$Town;LOneWayTillNoon$Traffic;LOneWayTillNoon$Travel;LOneWayTillNoon$Frozen;LOneWayTillNoon$Ledger;)V"⟩
abbrev cX9_cheapestPointing : ByteArray := prog_11_method_2_code
def yX9_cheapestPointing : MethodName := ⟨RX9, "cheapestPointing", "()I"⟩
abbrev cX9_nearestPointing : ByteArray := prog_11_method_3_code
def yX9_nearestPointing : MethodName := ⟨RX9, "nearestPointing", "()I"⟩
abbrev cX9_turnedPointing : ByteArray := prog_11_method_4_code
def yX9_turnedPointing : MethodName := ⟨RX9, "turnedPointing", "()I"⟩
abbrev cX9_fewestForCost : ByteArray := prog_11_method_5_code
def yX9_fewestForCost : MethodName := ⟨RX9, "fewestForCost", "(I)I"⟩
abbrev cX9_fewestForReach : ByteArray := prog_11_method_6_code
def yX9_fewestForReach : MethodName := ⟨RX9, "fewestForReach", "(III)I"⟩
abbrev cX9_allReachedBy : ByteArray := prog_11_method_7_code
def yX9_allReachedBy : MethodName := ⟨RX9, "allReachedBy", "(I)Z"⟩
abbrev cX9_nextByFewest : ByteArray := prog_11_method_8_code
def yX9_nextByFewest : MethodName := ⟨RX9, "nextByFewest", "(I)I"⟩
abbrev cX9_cheapestNoon : ByteArray := prog_11_method_9_code
def yX9_cheapestNoon : MethodName := ⟨RX9, "cheapestNoon", "()I"⟩
def RX10 : String := "OneWayTillNoon"
def TX10 : u_T := fun k => match k with
  | 0 => ("OneWayTillNoon", "now", "LOneWayTillNoon$Town;", true)
  | 1 => ("OneWayTillNoon", "kept", "LOneWayTillNoon$Town;", true)
  | 2 => ("OneWayTillNoon", "tape", "LOneWayTillNoon$Tape;", true)
  | 3 => ("OneWayTillNoon", "reader", "LOneWayTillNoon$Reader;", true)
  | 4 => ("OneWayTillNoon", "traffic", "LOneWayTillNoon$Traffic;", true)
  | 5 => ("OneWayTillNoon", "travel", "LOneWayTillNoon$Travel;", true)
  | 6 => ("OneWayTillNoon", "frozen", "LOneWayTillNoon$Frozen;", true)
  | 7 => ("OneWayTillNoon", "plan", "LOneWayTillNoon$Plan;", true)
  | 8 => ("OneWayTillNoon", "ledger", "LOneWayTillNoon$Ledger;", true)
  | 9 => ("OneWayTillNoon", "trials", "LOneWayTillNoon$Trials;", true)
  | 10 => ("OneWayTillNoon", "roads", "[LOneWayTillNoon$Road;", true)
  | 11 => ("OneWayTillNoon", "refusals", "[I", true)
  | _ => ("OneWayTillNoon", "imageTaken", "Z", false)
def tyX10 : Nat → FieldType := fun k => match k with
  | 0 => .object "OneWayTillNoon$Town"
  | 1 => .object "OneWayTillNoon$Town"
  | 2 => .object "OneWayTillNoon$Tape"
  | 3 => .object "OneWayTillNoon$Reader"
  | 4 => .object "OneWayTillNoon$Traffic"
  | 5 => .object "OneWayTillNoon$Travel"
  | 6 => .object "OneWayTillNoon$Frozen"
  | 7 => .object "OneWayTillNoon$Plan"
  | 8 => .object "OneWayTillNoon$Ledger"
  | 9 => .object "OneWayTillNoon$Trials"
  | 10 => .array (.object "OneWayTillNoon$Road")
  | 11 => .array .int
  | _ => .boolean
abbrev wsX100 : List Cond := u_ws RX10 TX10 13
theorem nmX10 : ∀ a, a < 13 → ∀ b, b < 13 → a ≠ b → (TX10 a).2.1 ≠ (TX10 b).2.1 := by decide +kernel
theorem tyX10_ok : ∀ k, k < 13 → parseFieldDescriptor (TX10 k).2.2.1 = some (tyX10 k) := by decide +kernel
abbrev cX10_init : ByteArray := prog_1_method_1_code
def yX10_init : MethodName := ⟨RX10, "<init>", "()V"⟩
abbrev cX10_feed : ByteArray := prog_1_method_2_code
def yX10_feed : MethodName := ⟨RX10, "feed", "(IJ)I"⟩
abbrev cX10_town : ByteArray := prog_1_method_3_code
def yX10_town : MethodName := ⟨RX10, "town", "()I"⟩
abbrev cX10_street : ByteArray := prog_1_method_4_code
def yX10_street : MethodName := ⟨RX10, "street", "(II)I"⟩
abbrev cX10_errand : ByteArray := prog_1_method_5_code
def yX10_errand : MethodName := ⟨RX10, "errand", "(II)I"⟩
abbrev cX10_set : ByteArray := prog_1_method_6_code
def yX10_set : MethodName := ⟨RX10, "set", "(II)I"⟩
abbrev cX10_point : ByteArray := prog_1_method_7_code
def yX10_point : MethodName := ⟨RX10, "point", "(I)I"⟩
abbrev cX10_shut : ByteArray := prog_1_method_8_code
def yX10_shut : MethodName := ⟨RX10, "shut", "(IZ)I"⟩
abbrev cX10_way : ByteArray := prog_1_method_9_code
def yX10_way : MethodName := ⟨RX10, "way", "(II)I"⟩
abbrev cX10_soonest : ByteArray := prog_1_method_10_code
def yX10_soonest : MethodName := ⟨RX10, "soonest", "(III)I"⟩
abbrev cX10_waited : ByteArray := prog_1_method_11_code
def yX10_waited : MethodName := ⟨RX10, "waited", "(III)I"⟩
abbrev cX10_road : ByteArray := prog_1_method_12_code
def yX10_road : MethodName := ⟨RX10, "road", "(IIII)I"⟩
abbrev cX10_all : ByteArray := prog_1_method_13_code
def yX10_all : MethodName := ⟨RX10, "all", "(I)I"⟩
abbrev cX10_longest : ByteArray := prog_1_method_14_code
def yX10_longest : MethodName := ⟨RX10, "longest", "(I)I"⟩
abbrev cX10_apart : ByteArray := prog_1_method_15_code
def yX10_apart : MethodName := ⟨RX10, "apart", "(I)I"⟩
abbrev cX10_can : ByteArray := prog_1_method_16_code
def yX10_can : MethodName := ⟨RX10, "can", "()I"⟩
abbrev cX10_bridges : ByteArray := prog_1_method_17_code
def yX10_bridges : MethodName := ⟨RX10, "bridges", "()I"⟩
abbrev cX10_walk : ByteArray := prog_1_method_18_code
def yX10_walk : MethodName := ⟨RX10, "walk", "()I"⟩
abbrev cX10_cost : ByteArray := prog_1_method_19_code
def yX10_cost : MethodName := ⟨RX10, "cost", "()I"⟩
abbrev cX10_best : ByteArray := prog_1_method_20_code
def yX10_best : MethodName := ⟨RX10, "best", "()I"⟩
abbrev cX10_far : ByteArray := prog_1_method_21_code
def yX10_far : MethodName := ⟨RX10, "far", "()I"⟩
abbrev cX10_turning : ByteArray := prog_1_method_22_code
def yX10_turning : MethodName := ⟨RX10, "turning", "()I"⟩
abbrev cX10_bothWays : ByteArray := prog_1_method_23_code
def yX10_bothWays : MethodName := ⟨RX10, "bothWays", "(I)I"⟩
abbrev cX10_corner : ByteArray := prog_1_method_24_code
def yX10_corner : MethodName := ⟨RX10, "corner", "(I)I"⟩
abbrev cX10_procession : ByteArray := prog_1_method_25_code
def yX10_procession : MethodName := ⟨RX10, "procession", "()I"⟩
abbrev cX10_bestNoon : ByteArray := prog_1_method_26_code
def yX10_bestNoon : MethodName := ⟨RX10, "bestNoon", "()I"⟩
abbrev cX10_lives : ByteArray := prog_1_method_27_code
def yX10_lives : MethodName := ⟨RX10, "lives", "()I"⟩
abbrev cX10_meets : ByteArray := prog_1_method_28_code
def yX10_meets : MethodName := ⟨RX10, "meets", "(II)I"⟩
abbrev cX10_pairs : ByteArray := prog_1_method_29_code
def yX10_pairs : MethodName := ⟨RX10, "pairs", "()I"⟩
abbrev cX10_lanes : ByteArray := prog_1_method_30_code
def yX10_lanes : MethodName := ⟨RX10, "lanes", "(III)I"⟩
abbrev cX10_shuts : ByteArray := prog_1_method_31_code
def yX10_shuts : MethodName := ⟨RX10, "shuts", "(I)I"⟩
abbrev cX10_days : ByteArray := prog_1_method_32_code
def yX10_days : MethodName := ⟨RX10, "days", "(II)I"⟩
abbrev cX10_judge : ByteArray := prog_1_method_33_code
def yX10_judge : MethodName := ⟨RX10, "judge", "()I"⟩
abbrev cX10_image : ByteArray := prog_1_method_34_code
def yX10_image : MethodName := ⟨RX10, "image", "()I"⟩
abbrev cX10_on : ByteArray := prog_1_method_35_code
def yX10_on : MethodName := ⟨RX10, "on", "()I"⟩
abbrev cX10_count : ByteArray := prog_1_method_36_code
def yX10_count : MethodName := ⟨RX10, "count", "(I)I"⟩
abbrev cX10_refuse : ByteArray := prog_1_method_37_code
def yX10_refuse : MethodName := ⟨RX10, "refuse", "(I)I"⟩
abbrev cX10_refusalOfMinute : ByteArray := prog_1_method_38_code
def yX10_refusalOfMinute : MethodName := ⟨RX10, "refusalOfMinute", "(I)I"⟩
abbrev cX10_refusalOfWay : ByteArray := prog_1_method_39_code
def yX10_refusalOfWay : MethodName := ⟨RX10, "refusalOfWay", "(III)I"⟩
abbrev cX10_refusalOfTrying : ByteArray := prog_1_method_40_code
def yX10_refusalOfTrying : MethodName := ⟨RX10, "refusalOfTrying", "()I"⟩
abbrev cX10_freezeAsItIs : ByteArray := prog_1_method_41_code
def yX10_freezeAsItIs : MethodName := ⟨RX10, "freezeAsItIs", "(I)V"⟩
abbrev cX10_traceErrand : ByteArray := prog_1_method_42_code
def yX10_traceErrand : MethodName := ⟨RX10, "traceErrand", "(I)V"⟩
abbrev cX10_bitOf : ByteArray := prog_1_method_43_code
def yX10_bitOf : MethodName := ⟨RX10, "bitOf", "(II)I"⟩
def RX11 : String := "OneWayTillNoonModel"
def TX11 : u_T := fun k => match k with
  | 0 => ("OneWayTillNoonModel", "refusals", "[I", true)
  | 1 => ("OneWayTillNoonModel", "s", "[I", true)
  | 2 => ("OneWayTillNoonModel", "image", "[I", true)
  | 3 => ("OneWayTillNoonModel", "read", "[I", true)
  | 4 => ("OneWayTillNoonModel", "isImage", "Z", false)
  | 5 => ("OneWayTillNoonModel", "tape", "[I", true)
  | 6 => ("OneWayTillNoonModel", "told", "[I", true)
  | 7 => ("OneWayTillNoonModel", "taped", "I", false)
  | 8 => ("OneWayTillNoonModel", "at", "I", false)
  | 9 => ("OneWayTillNoonModel", "times", "[I", true)
  | 10 => ("OneWayTillNoonModel", "settled", "[Z", true)
  | 11 => ("OneWayTillNoonModel", "corner", "[I", true)
  | 12 => ("OneWayTillNoonModel", "by", "[I", true)
  | 13 => ("OneWayTillNoonModel", "entered", "[I", true)
  | 14 => ("OneWayTillNoonModel", "steps", "I", false)
  | 15 => ("OneWayTillNoonModel", "waits", "I", false)
  | 16 => ("OneWayTillNoonModel", "far", "[I", true)
  | 17 => ("OneWayTillNoonModel", "walked", "I", false)
  | 18 => ("OneWayTillNoonModel", "walkBits", "I", false)
  | 19 => ("OneWayTillNoonModel", "seen", "I", false)
  | 20 => ("OneWayTillNoonModel", "kept", "[I", true)
  | 21 => ("OneWayTillNoonModel", "comesAt", "[I", true)
  | 22 => ("OneWayTillNoonModel", "goesAt", "[I", true)
  | 23 => ("OneWayTillNoonModel", "firstComes", "[I", true)
  | _ => ("OneWayTillNoonModel", "firstGoes", "[I", true)
def tyX11 : Nat → FieldType := fun k => match k with
  | 0 => .array .int
  | 1 => .array .int
  | 2 => .array .int
  | 3 => .array .int
  | 4 => .boolean
  | 5 => .array .int
  | 6 => .array .int
  | 7 => .int
  | 8 => .int
  | 9 => .array .int
  | 10 => .array .boolean
  | 11 => .array .int
  | 12 => .array .int
  | 13 => .array .int
  | 14 => .int
  | 15 => .int
  | 16 => .array .int
  | 17 => .int
  | 18 => .int
  | 19 => .int
  | 20 => .array .int
  | 21 => .array .int
  | 22 => .array .int
  | 23 => .array .int
  | _ => .array .int
abbrev wsX110 : List Cond := u_ws RX11 TX11 25
theorem nmX11 : ∀ a, a < 25 → ∀ b, b < 25 → a ≠ b → (TX11 a).2.1 ≠ (TX11 b).2.1 := by decide +kernel
theorem tyX11_ok : ∀ k, k < 25 → parseFieldDescriptor (TX11 k).2.2.1 = some (tyX11 k) := by decide +kernel
abbrev cX11_init : ByteArray := prog_13_method_1_code
def yX11_init : MethodName := ⟨RX11, "<init>", "()V"⟩
abbrev cX11_refuse : ByteArray := prog_13_method_2_code
def yX11_refuse : MethodName := ⟨RX11, "refuse", "(I)I"⟩
abbrev cX11_isIn : ByteArray := prog_13_method_3_code
def yX11_isIn : MethodName := ⟨RX11, "isIn", "(II)Z"⟩
abbrev cX11_within : ByteArray := prog_13_method_4_code
def yX11_within : MethodName := ⟨RX11, "within", "(III)I"⟩
abbrev cX11_isCorner : ByteArray := prog_13_method_5_code
def yX11_isCorner : MethodName := ⟨RX11, "isCorner", "(I)Z"⟩
abbrev cX11_isStreet : ByteArray := prog_13_method_6_code
def yX11_isStreet : MethodName := ⟨RX11, "isStreet", "(I)Z"⟩
abbrev cX11_isErrand : ByteArray := prog_13_method_7_code
def yX11_isErrand : MethodName := ⟨RX11, "isErrand", "(I)Z"⟩
abbrev cX11_get : ByteArray := prog_13_method_8_code
def yX11_get : MethodName := ⟨RX11, "get", "(II)I"⟩
abbrev cX11_of : ByteArray := prog_13_method_9_code
def yX11_of : MethodName := ⟨RX11, "of", "(II)I"⟩
abbrev cX11_feed : ByteArray := prog_13_method_10_code
def yX11_feed : MethodName := ⟨RX11, "feed", "(IJ)I"⟩
abbrev cX11_sign : ByteArray := prog_13_method_11_code
def yX11_sign : MethodName := ⟨RX11, "sign", "()I"⟩
abbrev cX11_takes : ByteArray := prog_13_method_12_code
def yX11_takes : MethodName := ⟨RX11, "takes", "(I)Z"⟩
abbrev cX11_readsNumber : ByteArray := prog_13_method_13_code
def yX11_readsNumber : MethodName := ⟨RX11, "readsNumber", "(II)Z"⟩
abbrev cX11_readsStatement : ByteArray := prog_13_method_14_code
def yX11_readsStatement : MethodName := ⟨RX11, "readsStatement", "()Z"⟩
abbrev cX11_toldOf : ByteArray := prog_13_method_15_code
def yX11_toldOf : MethodName := ⟨RX11, "toldOf", "()I"⟩
abbrev cX11_comes : ByteArray := prog_13_method_16_code
def yX11_comes : MethodName := ⟨RX11, "comes", "(I)Z"⟩
abbrev cX11_reads : ByteArray := prog_13_method_17_code
def yX11_reads : MethodName := ⟨RX11, "reads", "()I"⟩
abbrev cX11_town : ByteArray := prog_13_method_18_code
def yX11_town : MethodName := ⟨RX11, "town", "()I"⟩
abbrev cX11_street : ByteArray := prog_13_method_19_code
def yX11_street : MethodName := ⟨RX11, "street", "(II)I"⟩
abbrev cX11_errand : ByteArray := prog_13_method_20_code
def yX11_errand : MethodName := ⟨RX11, "errand", "(II)I"⟩
abbrev cX11_becomes : ByteArray := prog_13_method_21_code
def yX11_becomes : MethodName := ⟨RX11, "becomes", "(II)I"⟩
abbrev cX11_most : ByteArray := prog_13_method_22_code
def yX11_most : MethodName := ⟨RX11, "most", "(I)I"⟩
abbrev cX11_set : ByteArray := prog_13_method_23_code
def yX11_set : MethodName := ⟨RX11, "set", "(II)I"⟩
abbrev cX11_point : ByteArray := prog_13_method_24_code
def yX11_point : MethodName := ⟨RX11, "point", "(I)I"⟩
abbrev cX11_shut : ByteArray := prog_13_method_25_code
def yX11_shut : MethodName := ⟨RX11, "shut", "(IZ)I"⟩
abbrev cX11_wayOf : ByteArray := prog_13_method_26_code
def yX11_wayOf : MethodName := ⟨RX11, "wayOf", "(II)I"⟩
abbrev cX11_way : ByteArray := prog_13_method_27_code
def yX11_way : MethodName := ⟨RX11, "way", "(II)I"⟩
abbrev cX11_goesFrom : ByteArray := prog_13_method_28_code
def yX11_goesFrom : MethodName := ⟨RX11, "goesFrom", "(III)Z"⟩
abbrev cX11_enters : ByteArray := prog_13_method_29_code
def yX11_enters : MethodName := ⟨RX11, "enters", "(III)I"⟩
abbrev cX11_finds : ByteArray := prog_13_method_30_code
def yX11_finds : MethodName := ⟨RX11, "finds", "(II)V"⟩
abbrev cX11_wrongWay : ByteArray := prog_13_method_31_code
def yX11_wrongWay : MethodName := ⟨RX11, "wrongWay", "(III)I"⟩
abbrev cX11_soonest : ByteArray := prog_13_method_32_code
def yX11_soonest : MethodName := ⟨RX11, "soonest", "(III)I"⟩
abbrev cX11_findsRoad : ByteArray := prog_13_method_33_code
def yX11_findsRoad : MethodName := ⟨RX11, "findsRoad", "(III)Z"⟩
abbrev cX11_waited : ByteArray := prog_13_method_34_code
def yX11_waited : MethodName := ⟨RX11, "waited", "(III)I"⟩
abbrev cX11_road : ByteArray := prog_13_method_35_code
def yX11_road : MethodName := ⟨RX11, "road", "(IIII)I"⟩
abbrev cX11_findsFar : ByteArray := prog_13_method_36_code
def yX11_findsFar : MethodName := ⟨RX11, "findsFar", "(I)V"⟩
abbrev cX11_apartAt : ByteArray := prog_13_method_37_code
def yX11_apartAt : MethodName := ⟨RX11, "apartAt", "(I)I"⟩
abbrev cX11_longestAt : ByteArray := prog_13_method_38_code
def yX11_longestAt : MethodName := ⟨RX11, "longestAt", "(I)I"⟩
abbrev cX11_all : ByteArray := prog_13_method_39_code
def yX11_all : MethodName := ⟨RX11, "all", "(I)I"⟩
abbrev cX11_longest : ByteArray := prog_13_method_40_code
def yX11_longest : MethodName := ⟨RX11, "longest", "(I)I"⟩
abbrev cX11_apart : ByteArray := prog_13_method_41_code
def yX11_apart : MethodName := ⟨RX11, "apart", "(I)I"⟩
abbrev cX11_hang : ByteArray := prog_13_method_42_code
def yX11_hang : MethodName := ⟨RX11, "hang", "(II)I"⟩
abbrev cX11_isBridge : ByteArray := prog_13_method_43_code
def yX11_isBridge : MethodName := ⟨RX11, "isBridge", "(I)Z"⟩
abbrev cX11_bridgeBits : ByteArray := prog_13_method_44_code
def yX11_bridgeBits : MethodName := ⟨RX11, "bridgeBits", "()I"⟩
abbrev cX11_can : ByteArray := prog_13_method_45_code
def yX11_can : MethodName := ⟨RX11, "can", "()I"⟩
abbrev cX11_bridges : ByteArray := prog_13_method_46_code
def yX11_bridges : MethodName := ⟨RX11, "bridges", "()I"⟩
abbrev cX11_walks : ByteArray := prog_13_method_47_code
def yX11_walks : MethodName := ⟨RX11, "walks", "(I)V"⟩
abbrev cX11_walk : ByteArray := prog_13_method_48_code
def yX11_walk : MethodName := ⟨RX11, "walk", "()I"⟩
abbrev cX11_costOf : ByteArray := prog_13_method_49_code
def yX11_costOf : MethodName := ⟨RX11, "costOf", "()I"⟩
abbrev cX11_cost : ByteArray := prog_13_method_50_code
def yX11_cost : MethodName := ⟨RX11, "cost", "()I"⟩
abbrev cX11_keepsMusts : ByteArray := prog_13_method_51_code
def yX11_keepsMusts : MethodName := ⟨RX11, "keepsMusts", "(I)Z"⟩
abbrev cX11_wrongFew : ByteArray := prog_13_method_52_code
def yX11_wrongFew : MethodName := ⟨RX11, "wrongFew", "()I"⟩
abbrev cX11_bestOf : ByteArray := prog_13_method_53_code
def yX11_bestOf : MethodName := ⟨RX11, "bestOf", "(Z)I"⟩
abbrev cX11_best : ByteArray := prog_13_method_54_code
def yX11_best : MethodName := ⟨RX11, "best", "()I"⟩
abbrev cX11_far : ByteArray := prog_13_method_55_code
def yX11_far : MethodName := ⟨RX11, "far", "()I"⟩
abbrev cX11_turning : ByteArray := prog_13_method_56_code
def yX11_turning : MethodName := ⟨RX11, "turning", "()I"⟩
abbrev cX11_bits : ByteArray := prog_13_method_57_code
def yX11_bits : MethodName := ⟨RX11, "bits", "(I)I"⟩
abbrev cX11_bothWays : ByteArray := prog_13_method_58_code
def yX11_bothWays : MethodName := ⟨RX11, "bothWays", "(I)I"⟩
abbrev cX11_corner : ByteArray := prog_13_method_59_code
def yX11_corner : MethodName := ⟨RX11, "corner", "(I)I"⟩
abbrev cX11_along : ByteArray := prog_13_method_60_code
def yX11_along : MethodName := ⟨RX11, "along", "(II)I"⟩
abbrev cX11_procession : ByteArray := prog_13_method_61_code
def yX11_procession : MethodName := ⟨RX11, "procession", "()I"⟩
abbrev cX11_bestNoon : ByteArray := prog_13_method_62_code
def yX11_bestNoon : MethodName := ⟨RX11, "bestNoon", "()I"⟩
abbrev cX11_lives : ByteArray := prog_13_method_63_code
def yX11_lives : MethodName := ⟨RX11, "lives", "()I"⟩
abbrev cX11_stays : ByteArray := prog_13_method_64_code
def yX11_stays : MethodName := ⟨RX11, "stays", "(I)V"⟩
abbrev cX11_areMet : ByteArray := prog_13_method_65_code
def yX11_areMet : MethodName := ⟨RX11, "areMet", "(II)Z"⟩
abbrev cX11_meets : ByteArray := prog_13_method_66_code
def yX11_meets : MethodName := ⟨RX11, "meets", "(II)I"⟩
abbrev cX11_pairs : ByteArray := prog_13_method_67_code
def yX11_pairs : MethodName := ⟨RX11, "pairs", "()I"⟩
abbrev cX11_isReached : ByteArray := prog_13_method_68_code
def yX11_isReached : MethodName := ⟨RX11, "isReached", "(III)Z"⟩
abbrev cX11_lanes : ByteArray := prog_13_method_69_code
def yX11_lanes : MethodName := ⟨RX11, "lanes", "(III)I"⟩
abbrev cX11_shuts : ByteArray := prog_13_method_70_code
def yX11_shuts : MethodName := ⟨RX11, "shuts", "(I)I"⟩
abbrev cX11_days : ByteArray := prog_13_method_71_code
def yX11_days : MethodName := ⟨RX11, "days", "(II)I"⟩
abbrev cX11_judge : ByteArray := prog_13_method_72_code
def yX11_judge : MethodName := ⟨RX11, "judge", "()I"⟩
abbrev cX11_image : ByteArray := prog_13_method_73_code
def yX11_image : MethodName := ⟨RX11, "image", "()I"⟩
abbrev cX11_on : ByteArray := prog_13_method_74_code
def yX11_on : MethodName := ⟨RX11, "on", "()I"⟩
abbrev cX11_count : ByteArray := prog_13_method_75_code
def yX11_count : MethodName := ⟨RX11, "count", "(I)I"⟩
def RJ6 : String := "java/lang/Integer"
abbrev cJ6_bitCount_0f7a4 : ByteArray := prog_14_method_49_code
def yJ6_bitCount_0f7a4 : MethodName := ⟨RJ6, "bitCount", "(I)I"⟩
def RJ9 : String := "java/lang/Math"
abbrev cJ9_max_7cf53 : ByteArray := prog_15_method_65_code
def yJ9_max_7cf53 : MethodName := ⟨RJ9, "max", "(II)I"⟩
abbrev cJ9_min_7cf53 : ByteArray := prog_15_method_69_code
def yJ9_min_7cf53 : MethodName := ⟨RJ9, "min", "(II)I"⟩
def RJ10 : String := "java/lang/System"
def RJ7 : String := "java/util/Arrays"
abbrev cJ7_fill_53178 : ByteArray := prog_17_method_103_code
def yJ7_fill_53178 : MethodName := ⟨RJ7, "fill", "([II)V"⟩
def RL : String := "OneWayTillNoonLaw"
abbrev cL_law : ByteArray := code
def yL_law : MethodName := ⟨RL, "law", "([I)Z"⟩
end
section
/-! the machine's numbers as Ints -/
abbrev Hp : Type := Nat → Nat → Nat → Int
abbrev AV : Type := Int ⊕ ((Nat × Nat) ⊕ (Int64 ⊕ Unit))
abbrev zI (z : Int) : AV := .inl z
abbrev zR (g i : Nat) : AV := .inr (.inl (g, i))
abbrev zJ (x : Int64) : AV := .inr (.inr (.inl x))
abbrev zU : AV := .inr (.inr (.inr ()))
def wrap (z : Int) : Int := (z + 2147483648) % 4294967296 - 2147483648
def inR (z : Int) : Prop := -2147483648 ≤ z ∧ z ≤ 2147483647
def zup (σ : Hp) (g i j : Nat) (v : Int) : Hp := fun g' i' j' => if g' = g ∧ i' = i ∧ j' = j then v else σ g' i' j'
abbrev n32 (z : Int) : Int32 := Int32.ofInt z
theorem wrap_in (z : Int) : inR (wrap z) := by unfold inR wrap; omega
theorem wrap_eq {z : Int} (h : inR z) : wrap z = z := by unfold inR at h; unfold wrap; omega
theorem wrap_bmod (z : Int) : wrap z = z.bmod (2 ^ 32) := by
  unfold wrap
  rw [Int.bmod_def]
  split <;> omega
theorem n32_toInt (z : Int) : (n32 z).toInt = wrap z := by rw [wrap_bmod]; exact Int32.toInt_ofInt
theorem n32_canon {z : Int} (h : inR z) : (n32 z).toInt = z := by rw [n32_toInt, wrap_eq h]
theorem n32_of (x : Int32) : n32 x.toInt = x := Int32.ofInt_toInt x
theorem toInt_in (x : Int32) : inR x.toInt := by
  have h : (n32 x.toInt).toInt = x.toInt := by rw [n32_of]
  rw [n32_toInt] at h
  rw [← h]
  exact wrap_in _
theorem n32_wrap (z : Int) : n32 (wrap z) = n32 z := by rw [← n32_toInt, n32_of]
theorem n32_add (a b : Int) : n32 a + n32 b = n32 (wrap (a + b)) := by rw [n32_wrap]; exact (Int32.ofInt_add a b).symm
theorem n32_sub (a b : Int) : n32 a - n32 b = n32 (wrap (a - b)) := by rw [n32_wrap]; exact (Int32.ofInt_sub a b).symm
theorem n32_mul (a b : Int) : n32 a * n32 b = n32 (wrap (a * b)) := by rw [n32_wrap]; exact (Int32.ofInt_mul a b).symm
theorem n32_neg (a : Int) : - n32 a = n32 (wrap (- a)) := by rw [n32_wrap]; exact (Int32.ofInt_neg a).symm
theorem n32_lt {a b : Int} (ha : inR a) (hb : inR b) : n32 a < n32 b ↔ a < b := by rw [Int32.lt_iff_toInt_lt, n32_canon ha, n32_canon hb]
theorem n32_le {a b : Int} (ha : inR a) (hb : inR b) : n32 a ≤ n32 b ↔ a ≤ b := by rw [Int32.le_iff_toInt_le, n32_canon ha, n32_canon hb]
theorem n32_inj {a b : Int} (ha : inR a) (hb : inR b) : n32 a = n32 b ↔ a = b := by
  constructor
  · intro h
    rw [← n32_canon ha, ← n32_canon hb, h]
  · intro h; rw [h]
theorem n32_nat {z : Int} (h0 : 0 ≤ z) (h : inR z) : (n32 z).toNatClampNeg = z.toNat := by
  show (n32 z).toInt.toNat = z.toNat
  rw [n32_canon h]
theorem n32_in {z : Int} {N : Nat} (h : inR z) (hi : 0 ≤ z ∧ z < (N : Int)) : vp_in (n32 z) N := by
  intro q
  rcases q with q | q
  · have : n32 z < n32 0 := q
    rw [n32_lt h ⟨by omega, by omega⟩] at this
    omega
  · rw [n32_nat hi.1 h] at q
    omega
theorem inR_0 : inR 0 := ⟨by omega, by omega⟩
def zand (a b : Int) : Int := (n32 a &&& n32 b).toInt
def zor (a b : Int) : Int := (n32 a ||| n32 b).toInt
def zxor (a b : Int) : Int := (n32 a ^^^ n32 b).toInt
def zshl (a b : Int) : Int := (n32 a <<< (n32 b &&& 31)).toInt
def zshr (a b : Int) : Int := (n32 a >>> (n32 b &&& 31)).toInt
def zushr (a b : Int) : Int := (((n32 a).toUInt32 >>> ((n32 b).toUInt32 &&& Int32.toUInt32 31)).toInt32).toInt
def zdiv (a b : Int) : Int := (n32 a / n32 b).toInt
def zrem (a b : Int) : Int := (n32 a - n32 a / n32 b * n32 b).toInt
def zi2l (a : Int) : Int64 := (n32 a).toInt64
def zl2i (x : Int64) : Int := x.toInt32.toInt
def zlshl (x : Int64) (b : Int) : Int64 := x <<< ((n32 b).toInt64 &&& 63)
def zlshr (x : Int64) (b : Int) : Int64 := x >>> ((n32 b).toInt64 &&& 63)
def zlushr (x : Int64) (b : Int) : Int64 := (x.toUInt64 >>> ((n32 b).toInt64.toUInt64 &&& Int64.toUInt64 63)).toInt64
/-! values, locals -/
def cvv (ad : Nat → Nat → Nat) : AV → Value
  | .inl z => .int (n32 z)
  | .inr (.inl q) => .ref (ad q.1 q.2)
  | .inr (.inr (.inl x)) => .long x
  | .inr (.inr (.inr _)) => .null
def lvl (ad : Nat → Nat → Nat) : Nat → List AV → List (Nat × Value)
  | _, [] => []
  | k, .inr (.inr (.inr _)) :: r => lvl ad (k + 1) r
  | k, v :: r => (k, cvv ad v) :: lvl ad (k + 1) r
theorem lvl_mem {ad : Nat → Nat → Nat} {i : Nat} {w : Value} : ∀ (L : List AV) (k : Nat), (i, w) ∈ lvl ad k L ↔ ∃ v, k ≤ i ∧ L[i - k]? = some v ∧ v ≠ zU ∧ w = cvv ad v
  | [], k => by simp [lvl]
  | v :: r, k => by
    have key : (i, w) ∈ lvl ad (k + 1) r ↔ ∃ v, k + 1 ≤ i ∧ r[i - (k + 1)]? = some v ∧ v ≠ zU ∧ w = cvv ad v := lvl_mem r (k + 1)
    have shift : k + 1 ≤ i → (v :: r)[i - k]? = r[i - (k + 1)]? := fun h => by
      rw [show i - k = (i - (k + 1)) + 1 by omega, List.getElem?_cons_succ]
    have main : (v ≠ zU ∧ i = k ∧ w = cvv ad v) ∨ (i, w) ∈ lvl ad (k + 1) r ↔ ∃ u, k ≤ i ∧ (v :: r)[i - k]? = some u ∧ u ≠ zU ∧ w = cvv ad u := by
      rw [key]
      constructor
      · rintro (⟨h1, h2, h3⟩ | ⟨u, h1, h2, h3⟩)
        · exact ⟨v, by omega, by rw [h2, Nat.sub_self]; rfl, h1, h3⟩
        · exact ⟨u, by omega, by rw [shift h1]; exact h2, h3⟩
      · rintro ⟨u, h1, h2, h3, h4⟩
        by_cases e : i = k
        · subst e
          rw [Nat.sub_self] at h2
          cases h2
          exact Or.inl ⟨h3, rfl, h4⟩
        · exact Or.inr ⟨u, by omega, by rw [← shift (by omega)]; exact h2, h3, h4⟩
    rw [← main]
    rcases v with z | q | x | u
    · simp [lvl]
    · simp [lvl]
    · simp [lvl]
    · simp [lvl]
def lrel (ad : Nat → Nat → Nat) (ls : Array Slot) (n : Nat) (L : List AV) : Prop := L.length = n ∧ lv_has ls n (lvl ad 0 L)
theorem lrel_at {ad : Nat → Nat → Nat} {ls : Array Slot} {n : Nat} {L : List AV} (h : lrel ad ls n L) {i : Nat} {v : AV} (hi : L[i]? = some v) (hv : v ≠ zU) : ls[i]? = some (.val (cvv ad v)) :=
  h.2.2.2 (i, cvv ad v) ((lvl_mem L 0).mpr ⟨v, Nat.zero_le _, by simpa using hi, hv, rfl⟩)
/-- no long at the place before -/
def noJ (L : List AV) : Nat → Bool
  | 0 => true
  | k + 1 => match L[k]? with
    | some (.inr (.inr (.inl _))) => false
    | _ => true
theorem lrel_set {ad : Nat → Nat → Nat} {ls' : Array Slot} {n : Nat} {L : List AV} {i : Nat} {z : Int} (hn : noJ L i = true) (hi : i < L.length) (hL : L.length = n)
    (h : lv_has ls' n ((i, Value.int (n32 z)) :: (lvl ad 0 L).filter (fun q => !(q.1 == i) && !(q.1 + 1 == i && q.2.category == 2)))) : lrel ad ls' n (L.set i (zI z)) := by
  refine ⟨by simp [hL], h.1, h.2.1, fun q hq => ?_⟩
  obtain ⟨j, w⟩ := q
  obtain ⟨v, -, h2, h3, h4⟩ := (lvl_mem _ 0).mp hq
  rw [Nat.sub_zero] at h2
  by_cases e : j = i
  · subst e
    rw [List.getElem?_set_self hi] at h2
    cases h2
    subst h4
    exact h.2.2 _ List.mem_cons_self
  · rw [List.getElem?_set_ne (Ne.symm e)] at h2
    refine h.2.2 _ (List.mem_cons_of_mem _ (List.mem_filter.mpr ⟨(lvl_mem L 0).mpr ⟨v, Nat.zero_le _, by simpa using h2, h3, h4⟩, ?_⟩))
    have hj : (j == i) = false := by simpa using e
    by_cases e2 : j + 1 = i
    · subst e2
      have hc : w.category = 1 := by
        rw [h4]
        simp only [noJ, h2] at hn
        rcases v with z | q | x | u
        · rfl
        · rfl
        · simp at hn
        · exact absurd rfl h3
      simp [hj, hc]
    · simp [hj, e2]
theorem lrel_forget {ad : Nat → Nat → Nat} {ls : Array Slot} {n : Nat} {L L' : List AV} (h : lrel ad ls n L) (hl : L'.length = L.length) (hf : ∀ (i : Nat) (v : AV), L'[i]? = some v → v = zU ∨ L[i]? = some v) : lrel ad ls n L' := by
  refine ⟨hl.trans h.1, h.2.1, h.2.2.1, fun q hq => ?_⟩
  obtain ⟨j, w⟩ := q
  obtain ⟨v, -, h2, h3, h4⟩ := (lvl_mem _ 0).mp hq
  rw [Nat.sub_zero] at h2
  rcases hf j v h2 with e | e
  · exact absurd e h3
  · subst h4
    exact lrel_at h e h3
abbrev bitz (a b : Int) : Int := zand (zshr a b) 1
end
section
/-! which cells there are: a group's kind (0 ints, 1 booleans, 2 references, 3 + class: objects, 40 the script, 41 static ints), how many, length, fields (0 int, 1 boolean, 2 a cell, 3 the cell of the same place) -/
def shL : List (Nat × Nat × Nat × List (Nat × Nat × Nat)) := [
  (13, 1, 13, [(2, 1, 0), (2, 1, 1), (2, 12, 0), (2, 14, 0), (2, 16, 0), (2, 17, 0), (2, 19, 0), (2, 22, 0), (2, 25, 0), (2, 26, 0), (2, 27, 0), (2, 33, 0), (1, 0, 0)]),
  (9, 3, 17, [(0, 0, 0), (0, 0, 0), (0, 0, 0), (0, 0, 0), (0, 0, 0), (0, 0, 0), (0, 0, 0), (3, 2, 0), (3, 3, 0), (3, 4, 0), (3, 5, 0), (3, 6, 0), (3, 7, 0), (3, 8, 0), (3, 9, 0), (3, 10, 0), (3, 11, 0)]),
  (0, 3, 14, []),
  (0, 3, 14, []),
  (0, 3, 14, []),
  (0, 3, 14, []),
  (0, 3, 8, []),
  (0, 3, 8, []),
  (0, 3, 8, []),
  (0, 3, 8, []),
  (0, 3, 10, []),
  (0, 3, 4, []),
  (8, 1, 2, [(2, 13, 0), (0, 0, 0)]),
  (0, 1, 64, []),
  (6, 1, 7, [(2, 12, 0), (2, 1, 2), (0, 0, 0), (0, 0, 0), (0, 0, 0), (2, 15, 0), (1, 0, 0)]),
  (0, 1, 4, []),
  (10, 1, 10, [(2, 1, 0), (0, 0, 0), (0, 0, 0), (0, 0, 0), (0, 0, 0), (0, 0, 0), (0, 0, 0), (0, 0, 0), (0, 0, 0), (0, 0, 0)]),
  (11, 1, 4, [(2, 1, 0), (2, 16, 0), (2, 18, 0), (0, 0, 0)]),
  (0, 1, 10, []),
  (3, 1, 3, [(2, 1, 0), (2, 16, 0), (2, 20, 0)]),
  (2, 1, 10, [(2, 21, 0)]),
  (0, 10, 10, []),
  (5, 1, 3, [(2, 1, 0), (2, 23, 0), (2, 24, 0)]),
  (0, 1, 10, []),
  (0, 1, 10, []),
  (4, 1, 3, [(2, 1, 0), (2, 17, 0), (0, 0, 0)]),
  (12, 1, 5, [(2, 1, 0), (2, 16, 0), (2, 17, 0), (2, 19, 0), (2, 25, 0)]),
  (2, 1, 8, [(2, 28, 0)]),
  (7, 8, 8, [(2, 1, 0), (2, 16, 0), (2, 17, 0), (3, 29, 0), (3, 30, 0), (3, 31, 0), (3, 32, 0), (0, 0, 0)]),
  (0, 8, 10, []),
  (0, 8, 10, []),
  (0, 8, 10, []),
  (0, 8, 10, []),
  (0, 1, 7, []),
  (14, 1, 25, [(2, 35, 0), (2, 36, 0), (2, 37, 0), (2, 38, 0), (1, 0, 0), (2, 39, 0), (2, 40, 0), (0, 0, 0), (0, 0, 0), (2, 41, 0), (2, 42, 0), (2, 43, 0), (2, 44, 0), (2, 45, 0), (0, 0, 0), (0, 0, 0), (2, 46, 0), (0, 0, 0), (0, 0, 0), (0, 0, 0), (2, 47, 0), (2, 48, 0), (2, 49, 0), (2, 50, 0), (2, 51, 0)]),
  (0, 1, 7, []),
  (0, 1, 123, []),
  (0, 1, 123, []),
  (0, 1, 123, []),
  (0, 1, 64, []),
  (0, 1, 4, []),
  (0, 1, 10, []),
  (1, 1, 10, []),
  (0, 1, 11, []),
  (0, 1, 10, []),
  (0, 1, 10, []),
  (0, 1, 100, []),
  (0, 1, 8, []),
  (0, 1, 10, []),
  (0, 1, 10, []),
  (0, 1, 10, []),
  (0, 1, 10, []),
  (50, 0, 0, []),
  (50, 0, 0, []),
  (50, 0, 0, []),
  (50, 0, 0, []),
  (50, 0, 0, []),
  (50, 0, 0, []),
  (50, 0, 0, []),
  (50, 0, 0, []),
  (40, 1, 0, []),
  (41, 1, 4, []),
  (41, 1, 4, [])]
def shp (g : Nat) : Nat × Nat × Nat × List (Nat × Nat × Nat) := shL.getD g (50, 0, 0, [])
def ownL : List String := [RX0, RX1, RX2, RX3, RX4, RX5, RX6, RX7, RX8, RX9, RX10, RX11, RL, RJ6, RJ9, RJ10, RJ7]
def ownN (k : Nat) : String := ownL.getD k ""
def clsL : List vw_C := [(RX0, TX0, 3), (RX1, TX1, 3), (RX2, TX2, 3), (RX3, TX3, 7), (RX4, TX4, 8), (RX5, TX5, 2), (RX6, TX6, 17), (RX7, TX7, 10), (RX8, TX8, 4), (RX9, TX9, 5), (RX10, TX10, 13), (RX11, TX11, 25)]
def gTbl : List Cond := lw_tbl.filter goodWord
theorem gTbl_in {w : Cond} {i : Nat} (h : lw_tbl[i]? = some w) (hg : goodWord w = true) : w ∈ gTbl := List.mem_filter.mpr ⟨List.mem_of_getElem? h, hg⟩
def clsT (ci : Nat) : vw_C := clsL.getD ci (RX0, TX0, 0)
def fTab : List (Nat × Nat × Nat × Nat × Nat) := [(6, 9, 6, 0, 94), (2, 26, 6, 0, 95), (8, 34, 6, 0, 96), (0, 67, 6, 0, 97), (1, 56, 6, 0, 98), (9, 97, 6, 0, 99), (10, 295, 6, 0, 100), (6, 46, 6, 1, 101), (9, 32, 6, 1, 102), (0, 37, 6, 1, 103), (4, 54, 6, 1, 104), (2, 32, 6, 1, 105), (8, 56, 6, 1, 106), (10, 164, 6, 1, 107), (6, 49, 6, 2, 108), (1, 24, 6, 2, 109), (10, 269, 6, 2, 110), (6, 52, 6, 3, 111), (0, 81, 6, 3, 112), (10, 244, 6, 3, 113), (6, 55, 6, 4, 114), (7, 48, 6, 4, 115), (10, 127, 6, 4, 116), (6, 58, 6, 5, 117), (7, 31, 6, 5, 118), (10, 137, 6, 5, 119), (6, 61, 6, 6, 120), (7, 39, 6, 6, 121), (9, 65, 6, 6, 122), (10, 167, 6, 6, 123), (6, 15, 6, 7, 124), (0, 47, 6, 7, 125), (2, 35, 6, 7, 126), (4, 61, 6, 7, 127), (10, 118, 6, 7, 128), (8, 59, 6, 7, 129), (6, 19, 6, 8, 130), (0, 51, 6, 8, 131), (4, 58, 6, 8, 132), (2, 38, 6, 8, 133), (10, 121, 6, 8, 134), (8, 62, 6, 8, 135), (6, 22, 6, 9, 136), (0, 54, 6, 9, 137), (4, 78, 6, 9, 138), (10, 124, 6, 9, 139), (8, 72, 6, 9, 140), (6, 25, 6, 10, 141), (10, 134, 6, 10, 142), (6, 28, 6, 11, 143), (1, 34, 6, 11, 144), (10, 143, 6, 11, 145), (6, 31, 6, 12, 146), (1, 37, 6, 12, 147), (10, 146, 6, 12, 148), (6, 34, 6, 13, 149), (1, 40, 6, 13, 150), (10, 149, 6, 13, 151), (6, 37, 6, 14, 152), (1, 30, 6, 14, 153), (10, 152, 6, 14, 154), (6, 40, 6, 15, 155), (0, 84, 6, 15, 156), (10, 247, 6, 15, 157), (6, 43, 6, 16, 158), (7, 15, 6, 16, 159), (10, 161, 6, 16, 160), (5, 9, 5, 0, 203), (5, 15, 5, 1, 204), (10, 102, 5, 1, 205), (3, 48, 5, 1, 206), (3, 22, 3, 0, 220), (3, 12, 3, 1, 221), (3, 34, 3, 2, 222), (3, 57, 3, 3, 223), (3, 45, 3, 4, 224), (3, 18, 3, 5, 225), (3, 75, 3, 6, 226), (7, 9, 7, 0, 248), (7, 21, 7, 1, 249), (7, 25, 7, 2, 250), (7, 28, 7, 3, 251), (7, 45, 7, 4, 252), (7, 34, 7, 5, 253), (7, 51, 7, 6, 254), (7, 54, 7, 7, 255), (7, 57, 7, 8, 256), (7, 60, 7, 9, 257), (8, 15, 8, 0, 285), (8, 19, 8, 1, 286), (8, 9, 8, 2, 287), (8, 30, 8, 3, 288), (0, 16, 0, 0, 306), (0, 20, 0, 1, 307), (0, 11, 0, 2, 308), (2, 18, 2, 0, 322), (2, 9, 2, 1, 323), (2, 15, 2, 2, 324), (1, 9, 1, 0, 338), (1, 15, 1, 1, 339), (1, 59, 1, 2, 340), (9, 9, 9, 0, 354), (9, 15, 9, 1, 355), (9, 19, 9, 2, 356), (9, 23, 9, 3, 357), (9, 27, 9, 4, 358), (4, 24, 4, 0, 377), (4, 28, 4, 1, 378), (4, 32, 4, 2, 379), (4, 9, 4, 3, 380), (4, 15, 4, 4, 381), (4, 18, 4, 5, 382), (4, 21, 4, 6, 383), (4, 42, 4, 7, 384), (10, 200, 4, 7, 385), (10, 10, 10, 0, 403), (10, 16, 10, 1, 404), (10, 22, 10, 2, 405), (10, 31, 10, 3, 406), (10, 40, 10, 4, 407), (10, 49, 10, 5, 408), (10, 56, 10, 6, 409), (10, 63, 10, 7, 410), (10, 72, 10, 8, 411), (10, 81, 10, 9, 412), (10, 87, 10, 10, 413), (10, 91, 10, 11, 414), (10, 291, 10, 12, 415), (11, 7, 11, 0, 958), (11, 13, 11, 1, 959), (11, 16, 11, 2, 960), (11, 19, 11, 3, 961), (11, 218, 11, 4, 962), (11, 22, 11, 5, 963), (11, 25, 11, 6, 964), (11, 70, 11, 7, 965), (11, 76, 11, 8, 966), (11, 28, 11, 9, 967), (11, 31, 11, 10, 968), (11, 35, 11, 11, 969), (11, 38, 11, 12, 970), (11, 41, 11, 13, 971), (11, 146, 11, 14, 972), (11, 149, 11, 15, 973), (11, 44, 11, 16, 974), (11, 178, 11, 17, 975), (11, 181, 11, 18, 976), (11, 175, 11, 19, 977), (11, 47, 11, 20, 978), (11, 50, 11, 21, 979), (11, 53, 11, 22, 980), (11, 56, 11, 23, 981), (11, 59, 11, 24, 982)]
def fW (e : Nat × Nat × Nat × Nat × Nat) : Cond := .fieldLink (ownN e.1) e.2.1 ((clsT e.2.2.1).2.1 e.2.2.2.1).1 ((clsT e.2.2.1).2.1 e.2.2.2.1).2.1 ((clsT e.2.2.1).2.1 e.2.2.2.1).2.2.1
theorem fTab_ok : fTab.all (fun e => decide (lw_tbl[e.2.2.2.2]? = some (fW e)) && goodWord (fW e) && decide (e.2.2.2.1 < (clsT e.2.2.1).2.2) && decide (e.2.2.1 < 12)) = true := by decide +kernel
def sTab : List (Nat × Nat × Nat × Nat) := [(10, 155, 61, 556), (10, 158, 62, 558)]
def sNm (g : Nat) : String := if g = 61 then "LEAST_SETTING" else "GREATEST_SETTING"
def sW (e : Nat × Nat × Nat × Nat) : Cond := .fieldLink (ownN e.1) e.2.1 RX10 (sNm e.2.2.1) "[I"
theorem sTab_ok : sTab.all (fun e => decide (lw_tbl[e.2.2.2]? = some (sW e)) && goodWord (sW e) && (e.2.2.1 == 61 || e.2.2.1 == 62)) = true := by decide +kernel
def cTab : List (Nat × Nat × Int × Nat) := [(8, 23, 1000000, 610), (0, 24, 1000000, 683), (1, 19, 1000000, 763), (9, 31, 1000000, 786), (13, 265, 1431655765, 836), (13, 266, 858993459, 837), (13, 267, 252645135, 838), (10, 275, 1000000000, 905), (1, 65, 1664525, 922), (1, 66, 1013904223, 923), (1, 67, 2147483647, 924), (11, 155, 1000000000, 1181), (11, 215, 1664525, 1313), (11, 216, 1013904223, 1314), (11, 217, 2147483647, 1315)]
def cW (e : Nat × Nat × Int × Nat) : Cond := .constant (ownN e.1) e.2.1 (n32 e.2.2.1)
theorem cTab_ok : cTab.all (fun e => decide (lw_tbl[e.2.2.2]? = some (cW e)) && goodWord (cW e) && (decide (-2147483648 ≤ e.2.2.1) && decide (e.2.2.1 ≤ 2147483647))) = true := by decide +kernel
def jTab : List (Nat × Nat × Int × Nat) := [(11, 74, 255, 1043), (12, 13, 4294967295, 1332)]
def jW (e : Nat × Nat × Int × Nat) : Cond := .constantLong (ownN e.1) e.2.1 (Int64.ofInt e.2.2.1)
theorem jTab_ok : jTab.all (fun e => decide (lw_tbl[e.2.2.2]? = some (jW e)) && goodWord (jW e)) = true := by decide +kernel
theorem inX0 : ∀ w ∈ u_ws RX0 TX0 3, w ∈ gTbl := by
  have h : (List.range 3).all (fun k => decide (lw_tbl[([309, 311, 313] : List Nat).getD k 0]? = some (u_lay RX0 TX0 k)) && goodWord (u_lay RX0 TX0 k)) = true := by decide +kernel
  intro w hw
  obtain ⟨k, hk, rfl⟩ := List.mem_map.mp hw
  have h1 := List.all_eq_true.mp h k hk
  simp only [Bool.and_eq_true, decide_eq_true_eq] at h1
  exact gTbl_in h1.1 h1.2
theorem inX1 : ∀ w ∈ u_ws RX1 TX1 3, w ∈ gTbl := by
  have h : (List.range 3).all (fun k => decide (lw_tbl[([341, 343, 345] : List Nat).getD k 0]? = some (u_lay RX1 TX1 k)) && goodWord (u_lay RX1 TX1 k)) = true := by decide +kernel
  intro w hw
  obtain ⟨k, hk, rfl⟩ := List.mem_map.mp hw
  have h1 := List.all_eq_true.mp h k hk
  simp only [Bool.and_eq_true, decide_eq_true_eq] at h1
  exact gTbl_in h1.1 h1.2
theorem inX2 : ∀ w ∈ u_ws RX2 TX2 3, w ∈ gTbl := by
  have h : (List.range 3).all (fun k => decide (lw_tbl[([325, 327, 329] : List Nat).getD k 0]? = some (u_lay RX2 TX2 k)) && goodWord (u_lay RX2 TX2 k)) = true := by decide +kernel
  intro w hw
  obtain ⟨k, hk, rfl⟩ := List.mem_map.mp hw
  have h1 := List.all_eq_true.mp h k hk
  simp only [Bool.and_eq_true, decide_eq_true_eq] at h1
  exact gTbl_in h1.1 h1.2
theorem inX3 : ∀ w ∈ u_ws RX3 TX3 7, w ∈ gTbl := by
  have h : (List.range 7).all (fun k => decide (lw_tbl[([227, 229, 231, 233, 235, 237, 239] : List Nat).getD k 0]? = some (u_lay RX3 TX3 k)) && goodWord (u_lay RX3 TX3 k)) = true := by decide +kernel
  intro w hw
  obtain ⟨k, hk, rfl⟩ := List.mem_map.mp hw
  have h1 := List.all_eq_true.mp h k hk
  simp only [Bool.and_eq_true, decide_eq_true_eq] at h1
  exact gTbl_in h1.1 h1.2
theorem inX4 : ∀ w ∈ u_ws RX4 TX4 8, w ∈ gTbl := by
  have h : (List.range 8).all (fun k => decide (lw_tbl[([386, 388, 390, 392, 394, 396, 398, 400] : List Nat).getD k 0]? = some (u_lay RX4 TX4 k)) && goodWord (u_lay RX4 TX4 k)) = true := by decide +kernel
  intro w hw
  obtain ⟨k, hk, rfl⟩ := List.mem_map.mp hw
  have h1 := List.all_eq_true.mp h k hk
  simp only [Bool.and_eq_true, decide_eq_true_eq] at h1
  exact gTbl_in h1.1 h1.2
theorem inX5 : ∀ w ∈ u_ws RX5 TX5 2, w ∈ gTbl := by
  have h : (List.range 2).all (fun k => decide (lw_tbl[([207, 209] : List Nat).getD k 0]? = some (u_lay RX5 TX5 k)) && goodWord (u_lay RX5 TX5 k)) = true := by decide +kernel
  intro w hw
  obtain ⟨k, hk, rfl⟩ := List.mem_map.mp hw
  have h1 := List.all_eq_true.mp h k hk
  simp only [Bool.and_eq_true, decide_eq_true_eq] at h1
  exact gTbl_in h1.1 h1.2
theorem inX6 : ∀ w ∈ u_ws RX6 TX6 17, w ∈ gTbl := by
  have h : (List.range 17).all (fun k => decide (lw_tbl[([161, 163, 165, 167, 169, 171, 173, 175, 177, 179, 181, 183, 185, 187, 189, 191, 193] : List Nat).getD k 0]? = some (u_lay RX6 TX6 k)) && goodWord (u_lay RX6 TX6 k)) = true := by decide +kernel
  intro w hw
  obtain ⟨k, hk, rfl⟩ := List.mem_map.mp hw
  have h1 := List.all_eq_true.mp h k hk
  simp only [Bool.and_eq_true, decide_eq_true_eq] at h1
  exact gTbl_in h1.1 h1.2
theorem inX7 : ∀ w ∈ u_ws RX7 TX7 10, w ∈ gTbl := by
  have h : (List.range 10).all (fun k => decide (lw_tbl[([258, 260, 262, 264, 266, 268, 270, 272, 274, 276] : List Nat).getD k 0]? = some (u_lay RX7 TX7 k)) && goodWord (u_lay RX7 TX7 k)) = true := by decide +kernel
  intro w hw
  obtain ⟨k, hk, rfl⟩ := List.mem_map.mp hw
  have h1 := List.all_eq_true.mp h k hk
  simp only [Bool.and_eq_true, decide_eq_true_eq] at h1
  exact gTbl_in h1.1 h1.2
theorem inX8 : ∀ w ∈ u_ws RX8 TX8 4, w ∈ gTbl := by
  have h : (List.range 4).all (fun k => decide (lw_tbl[([289, 291, 293, 295] : List Nat).getD k 0]? = some (u_lay RX8 TX8 k)) && goodWord (u_lay RX8 TX8 k)) = true := by decide +kernel
  intro w hw
  obtain ⟨k, hk, rfl⟩ := List.mem_map.mp hw
  have h1 := List.all_eq_true.mp h k hk
  simp only [Bool.and_eq_true, decide_eq_true_eq] at h1
  exact gTbl_in h1.1 h1.2
theorem inX9 : ∀ w ∈ u_ws RX9 TX9 5, w ∈ gTbl := by
  have h : (List.range 5).all (fun k => decide (lw_tbl[([359, 361, 363, 365, 367] : List Nat).getD k 0]? = some (u_lay RX9 TX9 k)) && goodWord (u_lay RX9 TX9 k)) = true := by decide +kernel
  intro w hw
  obtain ⟨k, hk, rfl⟩ := List.mem_map.mp hw
  have h1 := List.all_eq_true.mp h k hk
  simp only [Bool.and_eq_true, decide_eq_true_eq] at h1
  exact gTbl_in h1.1 h1.2
theorem inX10 : ∀ w ∈ u_ws RX10 TX10 13, w ∈ gTbl := by
  have h : (List.range 13).all (fun k => decide (lw_tbl[([416, 418, 420, 422, 424, 426, 428, 430, 432, 434, 436, 438, 440] : List Nat).getD k 0]? = some (u_lay RX10 TX10 k)) && goodWord (u_lay RX10 TX10 k)) = true := by decide +kernel
  intro w hw
  obtain ⟨k, hk, rfl⟩ := List.mem_map.mp hw
  have h1 := List.all_eq_true.mp h k hk
  simp only [Bool.and_eq_true, decide_eq_true_eq] at h1
  exact gTbl_in h1.1 h1.2
theorem inX11 : ∀ w ∈ u_ws RX11 TX11 25, w ∈ gTbl := by
  have h : (List.range 25).all (fun k => decide (lw_tbl[([983, 985, 987, 989, 991, 993, 995, 997, 999, 1001, 1003, 1005, 1007, 1009, 1011, 1013, 1015, 1017, 1019, 1021, 1023, 1025, 1027, 1029, 1031] : List Nat).getD k 0]? = some (u_lay RX11 TX11 k)) && goodWord (u_lay RX11 TX11 k)) = true := by decide +kernel
  intro w hw
  obtain ⟨k, hk, rfl⟩ := List.mem_map.mp hw
  have h1 := List.all_eq_true.mp h k hk
  simp only [Bool.and_eq_true, decide_eq_true_eq] at h1
  exact gTbl_in h1.1 h1.2
def tyT (ci : Nat) : Nat → FieldType := match ci with
  | 0 => tyX0
  | 1 => tyX1
  | 2 => tyX2
  | 3 => tyX3
  | 4 => tyX4
  | 5 => tyX5
  | 6 => tyX6
  | 7 => tyX7
  | 8 => tyX8
  | 9 => tyX9
  | 10 => tyX10
  | _ => tyX11
theorem cls_in : ∀ ci, ci < 12 → (∀ w ∈ u_ws (clsT ci).1 (clsT ci).2.1 (clsT ci).2.2, w ∈ gTbl) ∧ (∀ k, k < (clsT ci).2.2 → parseFieldDescriptor ((clsT ci).2.1 k).2.2.1 = some (tyT ci k)) ∧ (∀ a, a < (clsT ci).2.2 → ∀ b, b < (clsT ci).2.2 → a ≠ b → ((clsT ci).2.1 a).2.1 ≠ ((clsT ci).2.1 b).2.1) ∧ clsL[ci]? = some ((clsT ci).1, (clsT ci).2.1, (clsT ci).2.2)
  | 0, _ => ⟨inX0, tyX0_ok, nmX0, rfl⟩
  | 1, _ => ⟨inX1, tyX1_ok, nmX1, rfl⟩
  | 2, _ => ⟨inX2, tyX2_ok, nmX2, rfl⟩
  | 3, _ => ⟨inX3, tyX3_ok, nmX3, rfl⟩
  | 4, _ => ⟨inX4, tyX4_ok, nmX4, rfl⟩
  | 5, _ => ⟨inX5, tyX5_ok, nmX5, rfl⟩
  | 6, _ => ⟨inX6, tyX6_ok, nmX6, rfl⟩
  | 7, _ => ⟨inX7, tyX7_ok, nmX7, rfl⟩
  | 8, _ => ⟨inX8, tyX8_ok, nmX8, rfl⟩
  | 9, _ => ⟨inX9, tyX9_ok, nmX9, rfl⟩
  | 10, _ => ⟨inX10, tyX10_ok, nmX10, rfl⟩
  | 11, _ => ⟨inX11, tyX11_ok, nmX11, rfl⟩
  | n + 12, h => absurd h (by omega)
end
section
/-! the world of all cells, in one picture -/
abbrev Gw : Type := (Nat → Nat → Nat) × va_G × (Nat → ClassId) × Nat
abbrev Mt : Type := MethodName × ByteArray × Nat × Option FieldType × Nat
def cntG (g : Nat) : Nat := (shp g).2.1
def tgtG (g : Nat) : Nat := ((shp g).2.2.2.getD 0 (0, 0, 0)).2.1
def IDX : List (Nat × Nat) := (List.range 52).flatMap (fun g => (List.range (cntG g)).map (fun i => (g, i)))
theorem IDX_mem {g i : Nat} : (g, i) ∈ IDX ↔ g < 52 ∧ i < cntG g := by
  simp [IDX, List.mem_flatMap]
theorem IDX_nodup : va_nd (IDX.map (fun q => q.1 * 100 + q.2)) = true := by decide +kernel
theorem IDX_inj {i j : Nat} {q : Nat × Nat} (h1 : IDX[i]? = some q) (h2 : IDX[j]? = some q) : i = j :=
  va_nd_inj _ IDX_nodup i j (q.1 * 100 + q.2) (by rw [List.getElem?_map, h1]; rfl) (by rw [List.getElem?_map, h2]; rfl)
def fval (ad : Nat → Nat → Nat) (σ : Hp) (g i k : Nat) (f : Nat × Nat × Nat) : Value := match f.1 with
  | 0 => .int (n32 (σ g i k))
  | 1 => .int (n32 (σ g i k))
  | 2 => .ref (ad f.2.1 f.2.2)
  | _ => .ref (ad f.2.1 i)
def fvals (ad : Nat → Nat → Nat) (σ : Hp) (g i : Nat) : List Value := (shp g).2.2.2.mapIdx (fun k f => fval ad σ g i k f)
def cellOf (G : Gw) (σ : Hp) (g i : Nat) : va_E := match (shp g).1 with
  | 0 => .inl (G.2.2.1 g, (shp g).2.2.1, .inl (fun j => n32 (σ g i j)))
  | 1 => .inl (G.2.2.1 g, (shp g).2.2.1, .inl (fun j => n32 (σ g i j)))
  | 2 => .inl (G.2.2.1 g, (shp g).2.2.1, .inr (.inr (.inr (.inr (fun j => if j < (shp g).2.2.1 then some (G.1 (tgtG g) j) else none)))))
  | c + 3 => .inr (c, fvals G.1 σ g i)
def wsOf (G : Gw) (σ : Hp) : va_W := IDX.map (fun q => (G.1 q.1 q.2, cellOf G σ q.1 q.2))
def atyG (g : Nat) : FieldType := match (shp g).1 with
  | 0 => .int
  | 1 => .boolean
  | _ => match (shp (tgtG g)).1 with
    | 0 => .array .int
    | c => .object (clsT (c - 3)).1
def aGs : List Nat := (List.range 52).filter (fun g => decide ((shp g).1 < 3))
def tysOf (G : Gw) : List (ClassId × FieldType) := aGs.map (fun g => (G.2.2.1 g, atyG g))
def AD (G : Gw) : Nat → Prop := fun q => ∃ g i, (g, i) ∈ IDX ∧ q = G.1 g i
theorem kind_lt {g : Nat} (h : (shp g).1 < 40) : g < 52 := by
  by_cases h1 : g < 63
  · have hd : ∀ g, g < 63 → (shp g).1 < 40 → g < 52 := by decide +kernel
    exact hd g h1 h
  · exfalso
    have : shp g = (50, 0, 0, []) := by
      unfold shp
      rw [List.getD_eq_getElem?_getD, List.getElem?_eq_none (by show 63 ≤ g; omega)]
      rfl
    rw [this] at h
    omega
theorem ws_at (G : Gw) (σ : Hp) {g i : Nat} (hg : g < 52) (hi : i < cntG g) : ∃ k : Nat, (wsOf G σ)[k]? = some (G.1 g i, cellOf G σ g i) ∧ IDX[k]? = some (g, i) := by
  obtain ⟨k, hk⟩ := List.getElem?_of_mem (IDX_mem.mpr ⟨hg, hi⟩)
  exact ⟨k, by unfold wsOf; rw [List.getElem?_map, hk]; rfl, hk⟩
theorem ws_set {G : Gw} {σ σ' : Hp} {g i k : Nat} (hk : IDX[k]? = some (g, i)) (h : ∀ g' i', (g', i') ≠ (g, i) → cellOf G σ' g' i' = cellOf G σ g' i') : (wsOf G σ).set k (G.1 g i, cellOf G σ' g i) = wsOf G σ' := by
  apply List.ext_getElem?
  intro j
  by_cases hj : j = k
  · subst hj
    have hl : j < (wsOf G σ).length := by unfold wsOf; rw [List.length_map]; exact (List.getElem?_eq_some_iff.mp hk).1
    rw [List.getElem?_set_self hl]
    unfold wsOf
    rw [List.getElem?_map, hk]
    rfl
  · rw [List.getElem?_set_ne (Ne.symm hj)]
    unfold wsOf
    rw [List.getElem?_map, List.getElem?_map]
    cases hq : IDX[j]? with
    | none => rfl
    | some q =>
      obtain ⟨g', i'⟩ := q
      simp only [Option.map_some]
      rw [h g' i' (fun e => hj (IDX_inj hq (by rw [e]; exact hk)))]
theorem ty_at (G : Gw) {g : Nat} (hg : g < 52) (hk : (shp g).1 < 3) : ∃ k : Nat, (tysOf G)[k]? = some (G.2.2.1 g, atyG g) := by
  have hm : g ∈ aGs := List.mem_filter.mpr ⟨List.mem_range.mpr hg, by simpa using hk⟩
  obtain ⟨k, hk⟩ := List.getElem?_of_mem hm
  exact ⟨k, by unfold tysOf; rw [List.getElem?_map, hk]; rfl⟩
theorem zup_ne {σ : Hp} {g i j : Nat} {v : Int} {g' i' : Nat} (h : (g', i') ≠ (g, i)) : (zup σ g i j v) g' i' = σ g' i' := by
  funext j'
  unfold zup
  rw [if_neg]
  rintro ⟨rfl, rfl, -⟩
  exact h rfl
theorem cell_ne {G : Gw} {σ σ' : Hp} {g i : Nat} (h : σ' g i = σ g i) : cellOf G σ' g i = cellOf G σ g i := by
  unfold cellOf fvals
  rw [h]
  have : (fun k f => fval G.1 σ' g i k f) = (fun k f => fval G.1 σ g i k f) := by
    funext k f
    unfold fval
    rw [h]
  rw [this]
theorem cell_up {G : Gw} {σ : Hp} {g i j : Nat} {v : Int} {g' i' : Nat} (h : (g', i') ≠ (g, i)) : cellOf G (zup σ g i j v) g' i' = cellOf G σ g' i' := cell_ne (zup_ne h)
/-- read only: the script, and two static arrays -/
def RO (G : Gw) (A : Nat → Prop) (σ : Hp) (U : State) : Prop :=
  (va_X (G.1 60 0) G.2.2.2 (fun j => n32 (σ 60 0 j)) U U.heap ∧ G.1 60 0 < U.heap.size ∧ ¬ A (G.1 60 0)) ∧ (σ 60 1 0 = (G.2.2.2 : Int) ∧ G.2.2.2 ≤ 320) ∧
  ∀ g, g = 61 ∨ g = 62 → va_Z RX10 (sNm g) "[I" (.ref (G.1 g 0)) A U U.heap ∧ va_T .int (G.1 g 0) 4 (fun j => .int (n32 (σ g 0 j))) A U U.heap
theorem RO.moved {G : Gw} {A : Nat → Prop} {σ : Hp} {u U : State} (hvm : u.vm.Alike U.vm) (hh : U.heap = u.heap) (h : RO G A σ u) : RO G A σ U := by
  obtain ⟨⟨h1, h2, h3⟩, h4, h5⟩ := h
  unfold RO
  rw [hh]
  exact ⟨⟨h1.moved hvm, h2, h3⟩, h4, fun g hg => ⟨(h5 g hg).1.moved hvm, (h5 g hg).2.moved hvm⟩⟩
theorem RO.same {G : Gw} {A : Nat → Prop} {σ σ' : Hp} {u : State} (h0 : σ' 60 = σ 60) (h1 : σ' 61 = σ 61) (h2 : σ' 62 = σ 62) (h : RO G A σ u) : RO G A σ' u := by
  obtain ⟨⟨h3, h4, h5⟩, h6, h7⟩ := h
  refine ⟨⟨?_, h4, h5⟩, ?_, ?_⟩
  · rw [h0]; exact h3
  · rw [h0]; exact h6
  · intro g hg
    have e : σ' g = σ g := by rcases hg with rfl | rfl <;> assumption
    rw [e]
    exact h7 g hg
/-- into a call: the heap has moved on, but not what is read only -/
theorem RO.kept {G : Gw} {A B : Nat → Prop} {σ : Hp} {s U : State} {H : Heap} {locs : List Loc} (hS : va_S A s.heap H locs) (hU : U.heap = H) (hvm : s.vm.Alike U.vm) (hAB : ∀ q, B q → A q) (h : RO G A σ s) : RO G B σ U := by
  obtain ⟨⟨h1, h2, h3⟩, h4, h5⟩ := h
  subst hU
  refine ⟨⟨(h1.moved hvm).kept (hS.2.1 _ h2 h3), Nat.lt_of_lt_of_le h2 hS.1, fun q => h3 (hAB _ q)⟩, h4, fun g hg => ⟨?_, ?_⟩⟩
  · exact (((h5 g hg).1.moved hvm).kept (fun a h1 h2 => hS.2.1 a h1 h2)).narrow hAB
  · exact (((h5 g hg).2.moved hvm).kept (fun a h1 h2 => hS.2.1 a h1 h2)).narrow hAB
/-- out of a call: the callee's world speaks of its own start -/
theorem RO.out {G : Gw} {A : Nat → Prop} {σ σ' : Hp} {s : State} (h : RO G A σ s) (h0 : ∀ j : Nat, j < G.2.2.2 → n32 (σ' 60 0 j) = n32 (σ 60 0 j)) (h00 : σ' 60 1 0 = σ 60 1 0) (h1 : ∀ g, g = 61 ∨ g = 62 → ∀ j : Nat, j < 4 → n32 (σ' g 0 j) = n32 (σ g 0 j)) : RO G A σ' s := by
  obtain ⟨⟨⟨scr, a1, a2, a3, a4, a5⟩, h4, h5⟩, h6, h7⟩ := h
  refine ⟨⟨⟨scr, a1, a2, a3, a4, fun j hj => (a5 j hj).trans (congrArg (fun z => some (Value.int z)) (h0 j hj).symm)⟩, h4, h5⟩, ⟨by rw [h00]; exact h6.1, h6.2⟩, fun g hg => ⟨(h7 g hg).1, ?_⟩⟩
  obtain ⟨cell, b1, b2, b3, b4, b5, b6, b7⟩ := (h7 g hg).2
  exact ⟨cell, b1, b2, b3, b4, b5, fun j hj => (b6 j hj).trans (congrArg (fun z => some (Value.int z)) (h1 g hg j hj).symm), b7⟩
def okH (σ : Hp) : Prop := ∀ g i j, inR (σ g i j)
theorem okH_up {σ : Hp} {g i j : Nat} {v : Int} (h : okH σ) (hv : inR v) : okH (zup σ g i j v) := by
  intro g' i' j'
  unfold zup
  split
  · exact hv
  · exact h g' i' j'
def okV : AV → Prop
  | .inl z => inR z
  | .inr (.inl q) => q.2 < cntG q.1
  | _ => True
def okVs (L : List AV) : Prop := ∀ v ∈ L, okV v
theorem okVs_cons {v : AV} {L : List AV} (h : okV v) (hL : okVs L) : okVs (v :: L) := fun w hw => by
  rcases List.mem_cons.mp hw with rfl | hw
  · exact h
  · exact hL w hw
theorem okVs_hd {v : AV} {L : List AV} (h : okVs (v :: L)) : okV v := h v List.mem_cons_self
theorem okVs_tl {v : AV} {L : List AV} (h : okVs (v :: L)) : okVs L := fun w hw => h w (List.mem_cons_of_mem _ hw)
theorem okVs_set {L : List AV} {k : Nat} {v : AV} (h : okVs L) (hv : okV v) : okVs (L.set k v) := fun w hw => by
  rcases List.mem_or_eq_of_mem_set hw with q | q
  · exact h w q
  · rw [q]; exact hv
theorem okVs_at {L : List AV} {k : Nat} {v : AV} (h : okVs L) (hk : L[k]? = some v) : okV v := h v (List.mem_of_getElem? hk)
def Wld (G : Gw) (A : Nat → Prop) (σ : Hp) (s : State) (H : Heap) (locs : List Loc) : Prop :=
  va_P G.2.1 clsL (wsOf G σ) H ∧ va_D A (wsOf G σ) ∧ va_S A s.heap H locs ∧ RO G A σ s ∧ okH σ
def NW (s : State) : Prop := ∀ a i x h, Cond.methodLinkNest a i x h ∈ lw_tbl → va_Nw (.methodLinkNest a i x h) s
def Ctx (d : Nat) (M : Mt) (G : Gw) (p : Program) (R : Room) (s : State) (m : MethodId) (args : Array Value) (c : Code) (cells slots : Nat) : Prop :=
  p.tables.exec = Jvm.exec ∧ c.code = M.2.1 ∧ c.maxLocals = M.2.2.1 ∧ s.vm.findClass M.1.cls = some m.cls ∧ (∀ w ∈ gTbl, w.before args s = true) ∧ (d ≤ R.frames ∧ 64 * d ≤ R.locals ∧ cells ≤ R.cells ∧ slots ≤ R.slots ∧ NW s) ∧ va_K G.2.1 clsL (tysOf G) s
def rvS (rv : Option Int) : List Value := match rv with
  | none => []
  | some z => [.int (n32 z)]
def okRv (M : Mt) (rv : Option Int) : Prop := match rv with
  | none => M.2.2.2.1 = none
  | some z => inR z ∧ (M.2.2.2.1 = some .int ∨ (M.2.2.2.1 = some .boolean ∧ (z = 0 ∨ z = 1)))
def retOK (M : Mt) (pc : Nat) (rv : Option Int) : Prop := okRv M rv ∧ match rv with
  | none => decode M.2.1 pc = .ok (.return_, 1)
  | some _ => decode M.2.1 pc = .ok (.ireturn, 1)
/-- FROM HERE THE METHOD ENDS, with Q of its answer and of the cells then -/
def Runs (d : Nat) (M : Mt) (pc : Nat) (L S : List AV) (σ : Hp) (Q : Option Int → Hp → Prop) : Prop :=
  okVs L → okVs S → ∀ (G : Gw) (p : Program) (l : Launch) (e : Env) (R : Room) (s : State) (m : MethodId) (args : Array Value) (below : List Frame) (meth : Method) (c : Code) (cells slots : Nat) (A : Nat → Prop) (QQ : State → Prop), Ctx d M G p R s m args c cells slots →
    ∀ (H : Heap) (locs : List Loc) (ls : Array Slot), Wld G A σ s H locs → lrel G.1 ls M.2.2.1 L →
    (∀ (rv : Option Int) (σ' : Hp) (H' : Heap) (locs' : List Loc) (ls' : Array Slot) (pc' : Nat), Q rv σ' → retOK M pc' rv → Wld G A σ' s H' locs' → W p l e R s m args below meth c H' locs' cells slots QQ (F0 m pc' ls' (rvS rv))) →
    W p l e R s m args below meth c H locs cells slots QQ (F0 m pc ls (S.map (cvv G.1)))
theorem Runs.mono {d : Nat} {M : Mt} {pc : Nat} {L S : List AV} {σ : Hp} {Q Q' : Option Int → Hp → Prop} (h : Runs d M pc L S σ Q) (hq : ∀ rv σ', Q rv σ' → Q' rv σ') : Runs d M pc L S σ Q' := by
  intro h1 h2 G p l e R s m args below meth c cells slots A QQ C H locs ls hW hl hk
  exact h h1 h2 G p l e R s m args below meth c cells slots A QQ C H locs ls hW hl (fun rv σ' H' locs' ls' pc' q => hk rv σ' H' locs' ls' pc' (hq rv σ' q))
theorem Runs.deep {d d' : Nat} {M : Mt} {pc : Nat} {L S : List AV} {σ : Hp} {Q : Option Int → Hp → Prop} (h : Runs d M pc L S σ Q) (hd : d ≤ d') : Runs d' M pc L S σ Q := by
  intro h1 h2 G p l e R s m args below meth c cells slots A QQ C H locs ls hW hl hk
  obtain ⟨c1, c2, c3, c4, c5, ⟨r1, r2, r3⟩, c7⟩ := C
  exact h h1 h2 G p l e R s m args below meth c cells slots A QQ ⟨c1, c2, c3, c4, c5, ⟨Nat.le_trans hd r1, by omega, r3⟩, c7⟩ H locs ls hW hl hk
theorem Runs.forget {d : Nat} {M : Mt} {pc : Nat} {L L' S : List AV} {σ : Hp} {Q : Option Int → Hp → Prop} (hl : L'.length = L.length) (hf : ∀ (i : Nat) (v : AV), L'[i]? = some v → v = zU ∨ L[i]? = some v) (h : Runs d M pc L' S σ Q) : Runs d M pc L S σ Q := by
  intro h1 h2 G p l e R s m args below meth c cells slots A QQ C H locs ls hW hl' hk
  refine h (fun v hv => ?_) h2 G p l e R s m args below meth c cells slots A QQ C H locs ls hW (lrel_forget hl' hl hf) hk
  obtain ⟨i, hi⟩ := List.getElem?_of_mem hv
  rcases hf i v hi with e | e
  · rw [e]; trivial
  · exact h1 v (List.mem_of_getElem? e)
/-- what is known of all cells and numbers -/
theorem Runs.okh {d : Nat} {M : Mt} {pc : Nat} {L S : List AV} {σ : Hp} {Q : Option Int → Hp → Prop} (h : okH σ → okVs L → okVs S → Runs d M pc L S σ Q) : Runs d M pc L S σ Q := by
  intro h1 h2 G p l e R s m args below meth c cells slots A QQ C H locs ls hW hl hk
  exact h hW.2.2.2.2 h1 h2 h1 h2 G p l e R s m args below meth c cells slots A QQ C H locs ls hW hl hk
def okMc (Mc : Mt) (n : Nat) : Prop := plainName Mc.1.cls = true ∧ Cond.code Mc.1 Mc.2.1 Mc.2.2.1 Mc.2.2.2.1 ∈ gTbl ∧ Cond.initialized Mc.1.cls ∈ gTbl ∧ (Mc.1.cls ≠ "java/lang/invoke/MethodHandle" ∧ Mc.1.cls ≠ "java/lang/invoke/VarHandle") ∧ (parseMethodDescriptor Mc.1.desc).map (fun d => d.parameters.length) = some n ∧ Mc.2.2.1 ≤ 45
def okVc (Mc : Mt) : Prop := Cond.instanceMethod Mc.1 ∈ gTbl ∧ Cond.selects Mc.1.cls Mc.1 Mc.1 ∈ gTbl
end
section
theorem lT1 {w : Cond} {i : Nat} (h : tables_1_1[i]? = some w) : w ∈ lw_tbl := List.mem_append_right _ (List.mem_append_left _ (List.mem_of_getElem? h))
theorem gT1 {w : Cond} {i : Nat} (h : tables_1_1[i]? = some w) (hg : goodWord w = true) : w ∈ gTbl := List.mem_filter.mpr ⟨lT1 h, hg⟩
theorem lT2 {w : Cond} {i : Nat} (h : tables_1_2[i]? = some w) : w ∈ lw_tbl := List.mem_append_right _ (List.mem_append_right _ (List.mem_append_left _ (List.mem_of_getElem? h)))
theorem gT2 {w : Cond} {i : Nat} (h : tables_1_2[i]? = some w) (hg : goodWord w = true) : w ∈ gTbl := List.mem_filter.mpr ⟨lT2 h, hg⟩
theorem lT3 {w : Cond} {i : Nat} (h : tables_1_3[i]? = some w) : w ∈ lw_tbl := List.mem_append_right _ (List.mem_append_right _ (List.mem_append_right _ (List.mem_append_left _ (List.mem_of_getElem? h))))
theorem gT3 {w : Cond} {i : Nat} (h : tables_1_3[i]? = some w) (hg : goodWord w = true) : w ∈ gTbl := List.mem_filter.mpr ⟨lT3 h, hg⟩
theorem lT4 {w : Cond} {i : Nat} (h : tables_1_4[i]? = some w) : w ∈ lw_tbl := List.mem_append_right _ (List.mem_append_right _ (List.mem_append_right _ (List.mem_append_right _ (List.mem_append_left _ (List.mem_of_getElem? h)))))
theorem gT4 {w : Cond} {i : Nat} (h : tables_1_4[i]? = some w) (hg : goodWord w = true) : w ∈ gTbl := List.mem_filter.mpr ⟨lT4 h, hg⟩
theorem lT5 {w : Cond} {i : Nat} (h : tables_1_5[i]? = some w) : w ∈ lw_tbl := List.mem_append_right _ (List.mem_append_right _ (List.mem_append_right _ (List.mem_append_right _ (List.mem_append_right _ (List.mem_append_left _ (List.mem_of_getElem? h))))))
theorem gT5 {w : Cond} {i : Nat} (h : tables_1_5[i]? = some w) (hg : goodWord w = true) : w ∈ gTbl := List.mem_filter.mpr ⟨lT5 h, hg⟩
theorem lT6 {w : Cond} {i : Nat} (h : tables_1_6[i]? = some w) : w ∈ lw_tbl := List.mem_append_right _ (List.mem_append_right _ (List.mem_append_right _ (List.mem_append_right _ (List.mem_append_right _ (List.mem_append_right _ (List.mem_of_getElem? h))))))
theorem gT6 {w : Cond} {i : Nat} (h : tables_1_6[i]? = some w) (hg : goodWord w = true) : w ∈ gTbl := List.mem_filter.mpr ⟨lT6 h, hg⟩
abbrev mX0_lay : Mt := (yX0_lay, cX0_lay, 4, none, 0)
theorem kX0_lay : okMc mX0_lay 1 := ⟨by decide +kernel, gT3 (i := 139) (by decide +kernel) rfl, gT1 (i := 7) (by decide +kernel) rfl, ⟨by decide +kernel, by decide +kernel⟩, by decide +kernel, by decide⟩
theorem vX0_lay : okVc mX0_lay := ⟨gT3 (i := 137) (by decide +kernel) rfl, gT3 (i := 138) (by decide +kernel) rfl⟩
abbrev mX0_layStep : Mt := (yX0_layStep, cX0_layStep, 4, none, 0)
theorem kX0_layStep : okMc mX0_layStep 3 := ⟨by decide +kernel, gT3 (i := 147) (by decide +kernel) rfl, gT1 (i := 7) (by decide +kernel) rfl, ⟨by decide +kernel, by decide +kernel⟩, by decide +kernel, by decide⟩
theorem vX0_layStep : okVc mX0_layStep := ⟨gT3 (i := 146) (by decide +kernel) rfl, gTbl_in (i := 17) (by decide +kernel) rfl⟩
abbrev mX0_join : Mt := (yX0_join, cX0_join, 3, none, 0)
theorem kX0_join : okMc mX0_join 0 := ⟨by decide +kernel, gT3 (i := 152) (by decide +kernel) rfl, gT1 (i := 7) (by decide +kernel) rfl, ⟨by decide +kernel, by decide +kernel⟩, by decide +kernel, by decide⟩
theorem vX0_join : okVc mX0_join := ⟨gT3 (i := 150) (by decide +kernel) rfl, gT3 (i := 151) (by decide +kernel) rfl⟩
abbrev mX0_joinBy : Mt := (yX0_joinBy, cX0_joinBy, 5, none, 0)
theorem kX0_joinBy : okMc mX0_joinBy 3 := ⟨by decide +kernel, gT3 (i := 156) (by decide +kernel) rfl, gT1 (i := 7) (by decide +kernel) rfl, ⟨by decide +kernel, by decide +kernel⟩, by decide +kernel, by decide⟩
theorem vX0_joinBy : okVc mX0_joinBy := ⟨gT3 (i := 155) (by decide +kernel) rfl, gTbl_in (i := 18) (by decide +kernel) rfl⟩
abbrev mX0_pairsApart : Mt := (yX0_pairsApart, cX0_pairsApart, 4, some .int, 0)
theorem kX0_pairsApart : okMc mX0_pairsApart 0 := ⟨by decide +kernel, gT3 (i := 160) (by decide +kernel) rfl, gT1 (i := 7) (by decide +kernel) rfl, ⟨by decide +kernel, by decide +kernel⟩, by decide +kernel, by decide⟩
theorem vX0_pairsApart : okVc mX0_pairsApart := ⟨gT3 (i := 158) (by decide +kernel) rfl, gT3 (i := 159) (by decide +kernel) rfl⟩
abbrev mX0_firstApart : Mt := (yX0_firstApart, cX0_firstApart, 3, some .int, 0)
theorem kX0_firstApart : okMc mX0_firstApart 0 := ⟨by decide +kernel, gT4 (i := 150) (by decide +kernel) rfl, gT1 (i := 7) (by decide +kernel) rfl, ⟨by decide +kernel, by decide +kernel⟩, by decide +kernel, by decide⟩
theorem vX0_firstApart : okVc mX0_firstApart := ⟨gT4 (i := 148) (by decide +kernel) rfl, gT4 (i := 149) (by decide +kernel) rfl⟩
abbrev mX0_isApart : Mt := (yX0_isApart, cX0_isApart, 3, some .boolean, 0)
theorem kX0_isApart : okMc mX0_isApart 2 := ⟨by decide +kernel, gT3 (i := 164) (by decide +kernel) rfl, gT1 (i := 7) (by decide +kernel) rfl, ⟨by decide +kernel, by decide +kernel⟩, by decide +kernel, by decide⟩
theorem vX0_isApart : okVc mX0_isApart := ⟨gT3 (i := 163) (by decide +kernel) rfl, gTbl_in (i := 19) (by decide +kernel) rfl⟩
abbrev mX0_farthest : Mt := (yX0_farthest, cX0_farthest, 4, some .int, 0)
theorem kX0_farthest : okMc mX0_farthest 0 := ⟨by decide +kernel, gT3 (i := 172) (by decide +kernel) rfl, gT1 (i := 7) (by decide +kernel) rfl, ⟨by decide +kernel, by decide +kernel⟩, by decide +kernel, by decide⟩
theorem vX0_farthest : okVc mX0_farthest := ⟨gT3 (i := 170) (by decide +kernel) rfl, gT3 (i := 171) (by decide +kernel) rfl⟩
abbrev mX0_roundOfRow : Mt := (yX0_roundOfRow, cX0_roundOfRow, 5, some .int, 0)
theorem kX0_roundOfRow : okMc mX0_roundOfRow 0 := ⟨by decide +kernel, gT4 (i := 67) (by decide +kernel) rfl, gT1 (i := 7) (by decide +kernel) rfl, ⟨by decide +kernel, by decide +kernel⟩, by decide +kernel, by decide⟩
theorem vX0_roundOfRow : okVc mX0_roundOfRow := ⟨gT4 (i := 65) (by decide +kernel) rfl, gT4 (i := 66) (by decide +kernel) rfl⟩
abbrev mX1_total : Mt := (yX1_total, cX1_total, 1, some .int, 1)
theorem kX1_total : okMc mX1_total 0 := ⟨by decide +kernel, gT3 (i := 219) (by decide +kernel) rfl, gT1 (i := 9) (by decide +kernel) rfl, ⟨by decide +kernel, by decide +kernel⟩, by decide +kernel, by decide⟩
theorem vX1_total : okVc mX1_total := ⟨gT3 (i := 217) (by decide +kernel) rfl, gT3 (i := 218) (by decide +kernel) rfl⟩
abbrev mX1_totalUpTo : Mt := (yX1_totalUpTo, cX1_totalUpTo, 4, some .int, 1)
theorem kX1_totalUpTo : okMc mX1_totalUpTo 1 := ⟨by decide +kernel, gT3 (i := 224) (by decide +kernel) rfl, gT1 (i := 9) (by decide +kernel) rfl, ⟨by decide +kernel, by decide +kernel⟩, by decide +kernel, by decide⟩
theorem vX1_totalUpTo : okVc mX1_totalUpTo := ⟨gT3 (i := 222) (by decide +kernel) rfl, gT3 (i := 223) (by decide +kernel) rfl⟩
abbrev mX1_minutesOf : Mt := (yX1_minutesOf, cX1_minutesOf, 5, some .int, 1)
theorem kX1_minutesOf : okMc mX1_minutesOf 3 := ⟨by decide +kernel, gT3 (i := 228) (by decide +kernel) rfl, gT1 (i := 9) (by decide +kernel) rfl, ⟨by decide +kernel, by decide +kernel⟩, by decide +kernel, by decide⟩
theorem vX1_minutesOf : okVc mX1_minutesOf := ⟨gT3 (i := 227) (by decide +kernel) rfl, gTbl_in (i := 22) (by decide +kernel) rfl⟩
abbrev mX1_cheapestHome : Mt := (yX1_cheapestHome, cX1_cheapestHome, 6, some .int, 1)
theorem kX1_cheapestHome : okMc mX1_cheapestHome 0 := ⟨by decide +kernel, gT4 (i := 87) (by decide +kernel) rfl, gT1 (i := 9) (by decide +kernel) rfl, ⟨by decide +kernel, by decide +kernel⟩, by decide +kernel, by decide⟩
theorem vX1_cheapestHome : okVc mX1_cheapestHome := ⟨gT4 (i := 85) (by decide +kernel) rfl, gT4 (i := 86) (by decide +kernel) rfl⟩
abbrev mX1_totalOfDays : Mt := (yX1_totalOfDays, cX1_totalOfDays, 6, some .int, 1)
theorem kX1_totalOfDays : okMc mX1_totalOfDays 2 := ⟨by decide +kernel, gT4 (i := 134) (by decide +kernel) rfl, gT1 (i := 9) (by decide +kernel) rfl, ⟨by decide +kernel, by decide +kernel⟩, by decide +kernel, by decide⟩
theorem vX1_totalOfDays : okVc mX1_totalOfDays := ⟨gT4 (i := 132) (by decide +kernel) rfl, gT4 (i := 133) (by decide +kernel) rfl⟩
abbrev mX1_drawBelow : Mt := (yX1_drawBelow, cX1_drawBelow, 2, some .int, 1)
theorem kX1_drawBelow : okMc mX1_drawBelow 1 := ⟨by decide +kernel, gT4 (i := 138) (by decide +kernel) rfl, gT1 (i := 9) (by decide +kernel) rfl, ⟨by decide +kernel, by decide +kernel⟩, by decide +kernel, by decide⟩
theorem vX1_drawBelow : okVc mX1_drawBelow := ⟨gT4 (i := 137) (by decide +kernel) rfl, gTbl_in (i := 27) (by decide +kernel) rfl⟩
abbrev mX2_hangsTogether : Mt := (yX2_hangsTogether, cX2_hangsTogether, 1, some .boolean, 2)
theorem kX2_hangsTogether : okMc mX2_hangsTogether 0 := ⟨by decide +kernel, gT3 (i := 185) (by decide +kernel) rfl, gT1 (i := 8) (by decide +kernel) rfl, ⟨by decide +kernel, by decide +kernel⟩, by decide +kernel, by decide⟩
theorem vX2_hangsTogether : okVc mX2_hangsTogether := ⟨gT3 (i := 183) (by decide +kernel) rfl, gT3 (i := 184) (by decide +kernel) rfl⟩
abbrev mX2_bridgeOnes : Mt := (yX2_bridgeOnes, cX2_bridgeOnes, 4, some .int, 2)
theorem kX2_bridgeOnes : okMc mX2_bridgeOnes 0 := ⟨by decide +kernel, gT3 (i := 193) (by decide +kernel) rfl, gT1 (i := 8) (by decide +kernel) rfl, ⟨by decide +kernel, by decide +kernel⟩, by decide +kernel, by decide⟩
theorem vX2_bridgeOnes : okVc mX2_bridgeOnes := ⟨gT3 (i := 191) (by decide +kernel) rfl, gT3 (i := 192) (by decide +kernel) rfl⟩
abbrev mX2_cornersFrom : Mt := (yX2_cornersFrom, cX2_cornersFrom, 7, some .int, 2)
theorem kX2_cornersFrom : okMc mX2_cornersFrom 2 := ⟨by decide +kernel, gT3 (i := 189) (by decide +kernel) rfl, gT1 (i := 8) (by decide +kernel) rfl, ⟨by decide +kernel, by decide +kernel⟩, by decide +kernel, by decide⟩
theorem vX2_cornersFrom : okVc mX2_cornersFrom := ⟨gT3 (i := 188) (by decide +kernel) rfl, gTbl_in (i := 20) (by decide +kernel) rfl⟩
abbrev mX2_walkThrough : Mt := (yX2_walkThrough, cX2_walkThrough, 8, some .int, 2)
theorem kX2_walkThrough : okMc mX2_walkThrough 0 := ⟨by decide +kernel, gT3 (i := 206) (by decide +kernel) rfl, gT1 (i := 8) (by decide +kernel) rfl, ⟨by decide +kernel, by decide +kernel⟩, by decide +kernel, by decide⟩
theorem vX2_walkThrough : okVc mX2_walkThrough := ⟨gT3 (i := 204) (by decide +kernel) rfl, gT3 (i := 205) (by decide +kernel) rfl⟩
abbrev mX2_otherEnd : Mt := (yX2_otherEnd, cX2_otherEnd, 3, some .int, 2)
theorem kX2_otherEnd : okMc mX2_otherEnd 2 := ⟨by decide +kernel, gT3 (i := 211) (by decide +kernel) rfl, gT1 (i := 8) (by decide +kernel) rfl, ⟨by decide +kernel, by decide +kernel⟩, by decide +kernel, by decide⟩
theorem vX2_otherEnd : okVc mX2_otherEnd := ⟨gT3 (i := 210) (by decide +kernel) rfl, gTbl_in (i := 21) (by decide +kernel) rfl⟩
abbrev mX3_readInto : Mt := (yX3_readInto, cX3_readInto, 4, some .int, 3)
theorem kX3_readInto : okMc mX3_readInto 1 := ⟨by decide +kernel, gT2 (i := 159) (by decide +kernel) rfl, gT1 (i := 4) (by decide +kernel) rfl, ⟨by decide +kernel, by decide +kernel⟩, by decide +kernel, by decide⟩
theorem vX3_readInto : okVc mX3_readInto := ⟨gT2 (i := 157) (by decide +kernel) rfl, gT2 (i := 158) (by decide +kernel) rfl⟩
abbrev mX3_statementsWritten : Mt := (yX3_statementsWritten, cX3_statementsWritten, 2, some .int, 3)
theorem kX3_statementsWritten : okMc mX3_statementsWritten 0 := ⟨by decide +kernel, gT2 (i := 163) (by decide +kernel) rfl, gT1 (i := 4) (by decide +kernel) rfl, ⟨by decide +kernel, by decide +kernel⟩, by decide +kernel, by decide⟩
theorem vX3_statementsWritten : okVc mX3_statementsWritten := ⟨gT2 (i := 162) (by decide +kernel) rfl, gTbl_in (i := 1) (by decide +kernel) rfl⟩
abbrev mX3_readStatement : Mt := (yX3_readStatement, cX3_readStatement, 1, some .boolean, 3)
theorem kX3_readStatement : okMc mX3_readStatement 0 := ⟨by decide +kernel, gT2 (i := 167) (by decide +kernel) rfl, gT1 (i := 4) (by decide +kernel) rfl, ⟨by decide +kernel, by decide +kernel⟩, by decide +kernel, by decide⟩
theorem vX3_readStatement : okVc mX3_readStatement := ⟨gT2 (i := 166) (by decide +kernel) rfl, gTbl_in (i := 2) (by decide +kernel) rfl⟩
abbrev mX3_number : Mt := (yX3_number, cX3_number, 5, some .boolean, 3)
theorem kX3_number : okMc mX3_number 2 := ⟨by decide +kernel, gT2 (i := 175) (by decide +kernel) rfl, gT1 (i := 4) (by decide +kernel) rfl, ⟨by decide +kernel, by decide +kernel⟩, by decide +kernel, by decide⟩
theorem vX3_number : okVc mX3_number := ⟨gT2 (i := 174) (by decide +kernel) rfl, gTbl_in (i := 3) (by decide +kernel) rfl⟩
abbrev mX3_isDigit : Mt := (yX3_isDigit, cX3_isDigit, 1, some .boolean, 3)
theorem kX3_isDigit : okMc mX3_isDigit 1 := ⟨by decide +kernel, gT2 (i := 178) (by decide +kernel) rfl, gT1 (i := 4) (by decide +kernel) rfl, ⟨by decide +kernel, by decide +kernel⟩, by decide +kernel, by decide⟩
theorem vX3_isDigit : Cond.static mX3_isDigit.1 ∈ gTbl := gT2 (i := 177) (by decide +kernel) rfl
abbrev mX3_sign : Mt := (yX3_sign, cX3_sign, 2, some .boolean, 3)
theorem kX3_sign : okMc mX3_sign 1 := ⟨by decide +kernel, gT2 (i := 182) (by decide +kernel) rfl, gT1 (i := 4) (by decide +kernel) rfl, ⟨by decide +kernel, by decide +kernel⟩, by decide +kernel, by decide⟩
theorem vX3_sign : okVc mX3_sign := ⟨gT2 (i := 181) (by decide +kernel) rfl, gTbl_in (i := 4) (by decide +kernel) rfl⟩
abbrev mX3_broadOrNot : Mt := (yX3_broadOrNot, cX3_broadOrNot, 1, some .boolean, 3)
theorem kX3_broadOrNot : okMc mX3_broadOrNot 0 := ⟨by decide +kernel, gT2 (i := 186) (by decide +kernel) rfl, gT1 (i := 4) (by decide +kernel) rfl, ⟨by decide +kernel, by decide +kernel⟩, by decide +kernel, by decide⟩
theorem vX3_broadOrNot : okVc mX3_broadOrNot := ⟨gT2 (i := 185) (by decide +kernel) rfl, gTbl_in (i := 5) (by decide +kernel) rfl⟩
abbrev mX3_tell : Mt := (yX3_tell, cX3_tell, 1, some .boolean, 3)
theorem kX3_tell : okMc mX3_tell 0 := ⟨by decide +kernel, gT2 (i := 197) (by decide +kernel) rfl, gT1 (i := 4) (by decide +kernel) rfl, ⟨by decide +kernel, by decide +kernel⟩, by decide +kernel, by decide⟩
theorem vX3_tell : okVc mX3_tell := ⟨gT2 (i := 196) (by decide +kernel) rfl, gTbl_in (i := 6) (by decide +kernel) rfl⟩
abbrev mX4_trace : Mt := (yX4_trace, cX4_trace, 5, none, 4)
theorem kX4_trace : okMc mX4_trace 3 := ⟨by decide +kernel, gT3 (i := 103) (by decide +kernel) rfl, gT1 (i := 11) (by decide +kernel) rfl, ⟨by decide +kernel, by decide +kernel⟩, by decide +kernel, by decide⟩
theorem vX4_trace : okVc mX4_trace := ⟨gT3 (i := 101) (by decide +kernel) rfl, gT3 (i := 102) (by decide +kernel) rfl⟩
abbrev mX4_traceBack : Mt := (yX4_traceBack, cX4_traceBack, 2, some .boolean, 4)
theorem kX4_traceBack : okMc mX4_traceBack 0 := ⟨by decide +kernel, gT3 (i := 109) (by decide +kernel) rfl, gT1 (i := 11) (by decide +kernel) rfl, ⟨by decide +kernel, by decide +kernel⟩, by decide +kernel, by decide⟩
theorem vX4_traceBack : okVc mX4_traceBack := ⟨gT3 (i := 108) (by decide +kernel) rfl, gTbl_in (i := 14) (by decide +kernel) rfl⟩
abbrev mX4_cameBy : Mt := (yX4_cameBy, cX4_cameBy, 6, some .boolean, 4)
theorem kX4_cameBy : okMc mX4_cameBy 3 := ⟨by decide +kernel, gT3 (i := 113) (by decide +kernel) rfl, gT1 (i := 11) (by decide +kernel) rfl, ⟨by decide +kernel, by decide +kernel⟩, by decide +kernel, by decide⟩
theorem vX4_cameBy : okVc mX4_cameBy := ⟨gT3 (i := 112) (by decide +kernel) rfl, gTbl_in (i := 15) (by decide +kernel) rfl⟩
abbrev mX4_streetAt : Mt := (yX4_streetAt, cX4_streetAt, 2, some .int, 4)
theorem kX4_streetAt : okMc mX4_streetAt 1 := ⟨by decide +kernel, gT3 (i := 127) (by decide +kernel) rfl, gT1 (i := 11) (by decide +kernel) rfl, ⟨by decide +kernel, by decide +kernel⟩, by decide +kernel, by decide⟩
theorem vX4_streetAt : okVc mX4_streetAt := ⟨gT3 (i := 125) (by decide +kernel) rfl, gT3 (i := 126) (by decide +kernel) rfl⟩
abbrev mX4_minutesWaited : Mt := (yX4_minutesWaited, cX4_minutesWaited, 3, some .int, 4)
theorem kX4_minutesWaited : okMc mX4_minutesWaited 0 := ⟨by decide +kernel, gT3 (i := 119) (by decide +kernel) rfl, gT1 (i := 11) (by decide +kernel) rfl, ⟨by decide +kernel, by decide +kernel⟩, by decide +kernel, by decide⟩
theorem vX4_minutesWaited : okVc mX4_minutesWaited := ⟨gT3 (i := 117) (by decide +kernel) rfl, gT3 (i := 118) (by decide +kernel) rfl⟩
abbrev mX4_crosses : Mt := (yX4_crosses, cX4_crosses, 4, some .boolean, 4)
theorem kX4_crosses : okMc mX4_crosses 1 := ⟨by decide +kernel, gT4 (i := 99) (by decide +kernel) rfl, gT1 (i := 11) (by decide +kernel) rfl, ⟨by decide +kernel, by decide +kernel⟩, by decide +kernel, by decide⟩
theorem vX4_crosses : okVc mX4_crosses := ⟨gT4 (i := 97) (by decide +kernel) rfl, gT4 (i := 98) (by decide +kernel) rfl⟩
abbrev mX5_add : Mt := (yX5_add, cX5_add, 2, none, 5)
theorem kX5_add : okMc mX5_add 1 := ⟨by decide +kernel, gT2 (i := 151) (by decide +kernel) rfl, gT1 (i := 3) (by decide +kernel) rfl, ⟨by decide +kernel, by decide +kernel⟩, by decide +kernel, by decide⟩
theorem vX5_add : okVc mX5_add := ⟨gT2 (i := 149) (by decide +kernel) rfl, gT2 (i := 150) (by decide +kernel) rfl⟩
abbrev mX5_byteAt : Mt := (yX5_byteAt, cX5_byteAt, 2, some .int, 5)
theorem kX5_byteAt : okMc mX5_byteAt 1 := ⟨by decide +kernel, gT2 (i := 171) (by decide +kernel) rfl, gT1 (i := 3) (by decide +kernel) rfl, ⟨by decide +kernel, by decide +kernel⟩, by decide +kernel, by decide⟩
theorem vX5_byteAt : okVc mX5_byteAt := ⟨gT2 (i := 169) (by decide +kernel) rfl, gT2 (i := 170) (by decide +kernel) rfl⟩
abbrev mX6_takeFrom : Mt := (yX6_takeFrom, cX6_takeFrom, 2, none, 6)
theorem kX6_takeFrom : okMc mX6_takeFrom 1 := ⟨by decide +kernel, gT2 (i := 190) (by decide +kernel) rfl, gT1 (i := 2) (by decide +kernel) rfl, ⟨by decide +kernel, by decide +kernel⟩, by decide +kernel, by decide⟩
theorem vX6_takeFrom : okVc mX6_takeFrom := ⟨gT2 (i := 188) (by decide +kernel) rfl, gT2 (i := 189) (by decide +kernel) rfl⟩
abbrev mX6_hasCorner : Mt := (yX6_hasCorner, cX6_hasCorner, 2, some .boolean, 6)
theorem kX6_hasCorner : okMc mX6_hasCorner 1 := ⟨by decide +kernel, gT2 (i := 220) (by decide +kernel) rfl, gT1 (i := 2) (by decide +kernel) rfl, ⟨by decide +kernel, by decide +kernel⟩, by decide +kernel, by decide⟩
theorem vX6_hasCorner : okVc mX6_hasCorner := ⟨gT2 (i := 218) (by decide +kernel) rfl, gT2 (i := 219) (by decide +kernel) rfl⟩
abbrev mX6_hasStreet : Mt := (yX6_hasStreet, cX6_hasStreet, 2, some .boolean, 6)
theorem kX6_hasStreet : okMc mX6_hasStreet 1 := ⟨by decide +kernel, gT2 (i := 232) (by decide +kernel) rfl, gT1 (i := 2) (by decide +kernel) rfl, ⟨by decide +kernel, by decide +kernel⟩, by decide +kernel, by decide⟩
theorem vX6_hasStreet : okVc mX6_hasStreet := ⟨gT2 (i := 230) (by decide +kernel) rfl, gT2 (i := 231) (by decide +kernel) rfl⟩
abbrev mX6_hasErrand : Mt := (yX6_hasErrand, cX6_hasErrand, 2, some .boolean, 6)
theorem kX6_hasErrand : okMc mX6_hasErrand 1 := ⟨by decide +kernel, gT3 (i := 8) (by decide +kernel) rfl, gT1 (i := 2) (by decide +kernel) rfl, ⟨by decide +kernel, by decide +kernel⟩, by decide +kernel, by decide⟩
theorem vX6_hasErrand : okVc mX6_hasErrand := ⟨gT3 (i := 6) (by decide +kernel) rfl, gT3 (i := 7) (by decide +kernel) rfl⟩
abbrev mX6_tellCorners : Mt := (yX6_tellCorners, cX6_tellCorners, 2, some .boolean, 6)
theorem kX6_tellCorners : okMc mX6_tellCorners 1 := ⟨by decide +kernel, gT2 (i := 201) (by decide +kernel) rfl, gT1 (i := 2) (by decide +kernel) rfl, ⟨by decide +kernel, by decide +kernel⟩, by decide +kernel, by decide⟩
theorem vX6_tellCorners : okVc mX6_tellCorners := ⟨gT2 (i := 199) (by decide +kernel) rfl, gT2 (i := 200) (by decide +kernel) rfl⟩
abbrev mX6_cornersToldOf : Mt := (yX6_cornersToldOf, cX6_cornersToldOf, 3, some .int, 6)
theorem kX6_cornersToldOf : okMc mX6_cornersToldOf 0 := ⟨by decide +kernel, gT2 (i := 205) (by decide +kernel) rfl, gT1 (i := 2) (by decide +kernel) rfl, ⟨by decide +kernel, by decide +kernel⟩, by decide +kernel, by decide⟩
theorem vX6_cornersToldOf : okVc mX6_cornersToldOf := ⟨gT2 (i := 204) (by decide +kernel) rfl, gTbl_in (i := 7) (by decide +kernel) rfl⟩
abbrev mX6_areTwoCorners : Mt := (yX6_areTwoCorners, cX6_areTwoCorners, 3, some .boolean, 6)
theorem kX6_areTwoCorners : okMc mX6_areTwoCorners 2 := ⟨by decide +kernel, gT2 (i := 216) (by decide +kernel) rfl, gT1 (i := 2) (by decide +kernel) rfl, ⟨by decide +kernel, by decide +kernel⟩, by decide +kernel, by decide⟩
theorem vX6_areTwoCorners : okVc mX6_areTwoCorners := ⟨gT2 (i := 215) (by decide +kernel) rfl, gTbl_in (i := 8) (by decide +kernel) rfl⟩
abbrev mX6_tellStreet : Mt := (yX6_tellStreet, cX6_tellStreet, 5, some .boolean, 6)
theorem kX6_tellStreet : okMc mX6_tellStreet 4 := ⟨by decide +kernel, gT2 (i := 212) (by decide +kernel) rfl, gT1 (i := 2) (by decide +kernel) rfl, ⟨by decide +kernel, by decide +kernel⟩, by decide +kernel, by decide⟩
theorem vX6_tellStreet : okVc mX6_tellStreet := ⟨gT2 (i := 210) (by decide +kernel) rfl, gT2 (i := 211) (by decide +kernel) rfl⟩
abbrev mX6_tellErrand : Mt := (yX6_tellErrand, cX6_tellErrand, 5, some .boolean, 6)
theorem kX6_tellErrand : okMc mX6_tellErrand 4 := ⟨by decide +kernel, gT2 (i := 224) (by decide +kernel) rfl, gT1 (i := 2) (by decide +kernel) rfl, ⟨by decide +kernel, by decide +kernel⟩, by decide +kernel, by decide⟩
theorem vX6_tellErrand : okVc mX6_tellErrand := ⟨gT2 (i := 222) (by decide +kernel) rfl, gT2 (i := 223) (by decide +kernel) rfl⟩
abbrev mX6_tellMust : Mt := (yX6_tellMust, cX6_tellMust, 3, some .boolean, 6)
theorem kX6_tellMust : okMc mX6_tellMust 2 := ⟨by decide +kernel, gT2 (i := 228) (by decide +kernel) rfl, gT1 (i := 2) (by decide +kernel) rfl, ⟨by decide +kernel, by decide +kernel⟩, by decide +kernel, by decide⟩
theorem vX6_tellMust : okVc mX6_tellMust := ⟨gT2 (i := 226) (by decide +kernel) rfl, gT2 (i := 227) (by decide +kernel) rfl⟩
abbrev mX6_mustsTold : Mt := (yX6_mustsTold, cX6_mustsTold, 3, some .int, 6)
theorem kX6_mustsTold : okMc mX6_mustsTold 0 := ⟨by decide +kernel, gT4 (i := 168) (by decide +kernel) rfl, gT1 (i := 2) (by decide +kernel) rfl, ⟨by decide +kernel, by decide +kernel⟩, by decide +kernel, by decide⟩
theorem vX6_mustsTold : okVc mX6_mustsTold := ⟨gT4 (i := 166) (by decide +kernel) rfl, gT4 (i := 167) (by decide +kernel) rfl⟩
abbrev mX6_mustLets : Mt := (yX6_mustLets, cX6_mustLets, 3, some .boolean, 6)
theorem kX6_mustLets : okMc mX6_mustLets 2 := ⟨by decide +kernel, gT4 (i := 12) (by decide +kernel) rfl, gT1 (i := 2) (by decide +kernel) rfl, ⟨by decide +kernel, by decide +kernel⟩, by decide +kernel, by decide⟩
theorem vX6_mustLets : okVc mX6_mustLets := ⟨gT4 (i := 10) (by decide +kernel) rfl, gT4 (i := 11) (by decide +kernel) rfl⟩
abbrev mX6_firstMustUnkept : Mt := (yX6_firstMustUnkept, cX6_firstMustUnkept, 3, some .int, 6)
theorem kX6_firstMustUnkept : okMc mX6_firstMustUnkept 1 := ⟨by decide +kernel, gT4 (i := 7) (by decide +kernel) rfl, gT1 (i := 2) (by decide +kernel) rfl, ⟨by decide +kernel, by decide +kernel⟩, by decide +kernel, by decide⟩
theorem vX6_firstMustUnkept : okVc mX6_firstMustUnkept := ⟨gT4 (i := 5) (by decide +kernel) rfl, gT4 (i := 6) (by decide +kernel) rfl⟩
abbrev mX7_takeAsItIs : Mt := (yX7_takeAsItIs, cX7_takeAsItIs, 1, none, 7)
theorem kX7_takeAsItIs : okMc mX7_takeAsItIs 0 := ⟨by decide +kernel, gT3 (i := 36) (by decide +kernel) rfl, gT1 (i := 5) (by decide +kernel) rfl, ⟨by decide +kernel, by decide +kernel⟩, by decide +kernel, by decide⟩
theorem vX7_takeAsItIs : okVc mX7_takeAsItIs := ⟨gT3 (i := 34) (by decide +kernel) rfl, gT3 (i := 35) (by decide +kernel) rfl⟩
abbrev mX7_pointAs : Mt := (yX7_pointAs, cX7_pointAs, 3, none, 7)
theorem kX7_pointAs : okMc mX7_pointAs 1 := ⟨by decide +kernel, gT3 (i := 44) (by decide +kernel) rfl, gT1 (i := 5) (by decide +kernel) rfl, ⟨by decide +kernel, by decide +kernel⟩, by decide +kernel, by decide⟩
theorem vX7_pointAs : okVc mX7_pointAs := ⟨gT3 (i := 42) (by decide +kernel) rfl, gT3 (i := 43) (by decide +kernel) rfl⟩
abbrev mX7_openBothWays : Mt := (yX7_openBothWays, cX7_openBothWays, 2, none, 7)
theorem kX7_openBothWays : okMc mX7_openBothWays 1 := ⟨by decide +kernel, gT3 (i := 40) (by decide +kernel) rfl, gT1 (i := 5) (by decide +kernel) rfl, ⟨by decide +kernel, by decide +kernel⟩, by decide +kernel, by decide⟩
theorem vX7_openBothWays : okVc mX7_openBothWays := ⟨gT3 (i := 38) (by decide +kernel) rfl, gT3 (i := 39) (by decide +kernel) rfl⟩
abbrev mX7_shutAlso : Mt := (yX7_shutAlso, cX7_shutAlso, 2, none, 7)
theorem kX7_shutAlso : okMc mX7_shutAlso 1 := ⟨by decide +kernel, gT4 (i := 126) (by decide +kernel) rfl, gT1 (i := 5) (by decide +kernel) rfl, ⟨by decide +kernel, by decide +kernel⟩, by decide +kernel, by decide⟩
theorem vX7_shutAlso : okVc mX7_shutAlso := ⟨gT4 (i := 124) (by decide +kernel) rfl, gT4 (i := 125) (by decide +kernel) rfl⟩
abbrev mX7_turnAt : Mt := (yX7_turnAt, cX7_turnAt, 2, none, 7)
theorem kX7_turnAt : okMc mX7_turnAt 1 := ⟨by decide +kernel, gT4 (i := 79) (by decide +kernel) rfl, gT1 (i := 5) (by decide +kernel) rfl, ⟨by decide +kernel, by decide +kernel⟩, by decide +kernel, by decide⟩
theorem vX7_turnAt : okVc mX7_turnAt := ⟨gT4 (i := 77) (by decide +kernel) rfl, gT4 (i := 78) (by decide +kernel) rfl⟩
abbrev mX7_standAt : Mt := (yX7_standAt, cX7_standAt, 4, none, 7)
theorem kX7_standAt : okMc mX7_standAt 1 := ⟨by decide +kernel, gT3 (i := 48) (by decide +kernel) rfl, gT1 (i := 5) (by decide +kernel) rfl, ⟨by decide +kernel, by decide +kernel⟩, by decide +kernel, by decide⟩
theorem vX7_standAt : okVc mX7_standAt := ⟨gT3 (i := 46) (by decide +kernel) rfl, gT3 (i := 47) (by decide +kernel) rfl⟩
abbrev mX7_wayOf : Mt := (yX7_wayOf, cX7_wayOf, 2, some .int, 7)
theorem kX7_wayOf : okMc mX7_wayOf 1 := ⟨by decide +kernel, gT3 (i := 52) (by decide +kernel) rfl, gT1 (i := 5) (by decide +kernel) rfl, ⟨by decide +kernel, by decide +kernel⟩, by decide +kernel, by decide⟩
theorem vX7_wayOf : okVc mX7_wayOf := ⟨gT3 (i := 50) (by decide +kernel) rfl, gT3 (i := 51) (by decide +kernel) rfl⟩
abbrev mX7_entryOf : Mt := (yX7_entryOf, cX7_entryOf, 3, some .int, 7)
theorem kX7_entryOf : okMc mX7_entryOf 2 := ⟨by decide +kernel, gT3 (i := 84) (by decide +kernel) rfl, gT1 (i := 5) (by decide +kernel) rfl, ⟨by decide +kernel, by decide +kernel⟩, by decide +kernel, by decide⟩
theorem vX7_entryOf : okVc mX7_entryOf := ⟨gT3 (i := 82) (by decide +kernel) rfl, gT3 (i := 83) (by decide +kernel) rfl⟩
abbrev mX8_setOut : Mt := (yX8_setOut, cX8_setOut, 6, none, 8)
theorem kX8_setOut : okMc mX8_setOut 3 := ⟨by decide +kernel, gT3 (i := 66) (by decide +kernel) rfl, gT1 (i := 6) (by decide +kernel) rfl, ⟨by decide +kernel, by decide +kernel⟩, by decide +kernel, by decide⟩
theorem vX8_setOut : okVc mX8_setOut := ⟨gT3 (i := 64) (by decide +kernel) rfl, gT3 (i := 65) (by decide +kernel) rfl⟩
abbrev mX8_minuteAt : Mt := (yX8_minuteAt, cX8_minuteAt, 2, some .int, 8)
theorem kX8_minuteAt : okMc mX8_minuteAt 1 := ⟨by decide +kernel, gT3 (i := 95) (by decide +kernel) rfl, gT1 (i := 6) (by decide +kernel) rfl, ⟨by decide +kernel, by decide +kernel⟩, by decide +kernel, by decide⟩
theorem vX8_minuteAt : okVc mX8_minuteAt := ⟨gT3 (i := 93) (by decide +kernel) rfl, gT3 (i := 94) (by decide +kernel) rfl⟩
abbrev mX8_soonestUnsettled : Mt := (yX8_soonestUnsettled, cX8_soonestUnsettled, 4, some .int, 8)
theorem kX8_soonestUnsettled : okMc mX8_soonestUnsettled 0 := ⟨by decide +kernel, gT3 (i := 74) (by decide +kernel) rfl, gT1 (i := 6) (by decide +kernel) rfl, ⟨by decide +kernel, by decide +kernel⟩, by decide +kernel, by decide⟩
theorem vX8_soonestUnsettled : okVc mX8_soonestUnsettled := ⟨gT3 (i := 73) (by decide +kernel) rfl, gTbl_in (i := 11) (by decide +kernel) rfl⟩
abbrev mX8_goOnFrom : Mt := (yX8_goOnFrom, cX8_goOnFrom, 3, none, 8)
theorem kX8_goOnFrom : okMc mX8_goOnFrom 1 := ⟨by decide +kernel, gT3 (i := 79) (by decide +kernel) rfl, gT1 (i := 6) (by decide +kernel) rfl, ⟨by decide +kernel, by decide +kernel⟩, by decide +kernel, by decide⟩
theorem vX8_goOnFrom : okVc mX8_goOnFrom := ⟨gT3 (i := 78) (by decide +kernel) rfl, gTbl_in (i := 12) (by decide +kernel) rfl⟩
abbrev mX8_goAlong : Mt := (yX8_goAlong, cX8_goAlong, 4, none, 8)
theorem kX8_goAlong : okMc mX8_goAlong 3 := ⟨by decide +kernel, gT3 (i := 88) (by decide +kernel) rfl, gT1 (i := 6) (by decide +kernel) rfl, ⟨by decide +kernel, by decide +kernel⟩, by decide +kernel, by decide⟩
theorem vX8_goAlong : okVc mX8_goAlong := ⟨gT3 (i := 87) (by decide +kernel) rfl, gTbl_in (i := 13) (by decide +kernel) rfl⟩
abbrev mX9_cheapestPointing : Mt := (yX9_cheapestPointing, cX9_cheapestPointing, 5, some .int, 9)
theorem kX9_cheapestPointing : okMc mX9_cheapestPointing 0 := ⟨by decide +kernel, gT4 (i := 2) (by decide +kernel) rfl, gT1 (i := 10) (by decide +kernel) rfl, ⟨by decide +kernel, by decide +kernel⟩, by decide +kernel, by decide⟩
theorem vX9_cheapestPointing : okVc mX9_cheapestPointing := ⟨gT4 (i := 0) (by decide +kernel) rfl, gT4 (i := 1) (by decide +kernel) rfl⟩
abbrev mX9_nearestPointing : Mt := (yX9_nearestPointing, cX9_nearestPointing, 5, some .int, 9)
theorem kX9_nearestPointing : okMc mX9_nearestPointing 0 := ⟨by decide +kernel, gT4 (i := 22) (by decide +kernel) rfl, gT1 (i := 10) (by decide +kernel) rfl, ⟨by decide +kernel, by decide +kernel⟩, by decide +kernel, by decide⟩
theorem vX9_nearestPointing : okVc mX9_nearestPointing := ⟨gT4 (i := 20) (by decide +kernel) rfl, gT4 (i := 21) (by decide +kernel) rfl⟩
abbrev mX9_turnedPointing : Mt := (yX9_turnedPointing, cX9_turnedPointing, 8, some .int, 9)
theorem kX9_turnedPointing : okMc mX9_turnedPointing 0 := ⟨by decide +kernel, gT4 (i := 33) (by decide +kernel) rfl, gT1 (i := 10) (by decide +kernel) rfl, ⟨by decide +kernel, by decide +kernel⟩, by decide +kernel, by decide⟩
theorem vX9_turnedPointing : okVc mX9_turnedPointing := ⟨gT4 (i := 31) (by decide +kernel) rfl, gT4 (i := 32) (by decide +kernel) rfl⟩
abbrev mX9_fewestForCost : Mt := (yX9_fewestForCost, cX9_fewestForCost, 5, some .int, 9)
theorem kX9_fewestForCost : okMc mX9_fewestForCost 1 := ⟨by decide +kernel, gT4 (i := 43) (by decide +kernel) rfl, gT1 (i := 10) (by decide +kernel) rfl, ⟨by decide +kernel, by decide +kernel⟩, by decide +kernel, by decide⟩
theorem vX9_fewestForCost : okVc mX9_fewestForCost := ⟨gT4 (i := 41) (by decide +kernel) rfl, gT4 (i := 42) (by decide +kernel) rfl⟩
abbrev mX9_fewestForReach : Mt := (yX9_fewestForReach, cX9_fewestForReach, 6, some .int, 9)
theorem kX9_fewestForReach : okMc mX9_fewestForReach 3 := ⟨by decide +kernel, gT4 (i := 111) (by decide +kernel) rfl, gT1 (i := 10) (by decide +kernel) rfl, ⟨by decide +kernel, by decide +kernel⟩, by decide +kernel, by decide⟩
theorem vX9_fewestForReach : okVc mX9_fewestForReach := ⟨gT4 (i := 109) (by decide +kernel) rfl, gT4 (i := 110) (by decide +kernel) rfl⟩
abbrev mX9_allReachedBy : Mt := (yX9_allReachedBy, cX9_allReachedBy, 4, some .boolean, 9)
theorem kX9_allReachedBy : okMc mX9_allReachedBy 1 := ⟨by decide +kernel, gT4 (i := 116) (by decide +kernel) rfl, gT1 (i := 10) (by decide +kernel) rfl, ⟨by decide +kernel, by decide +kernel⟩, by decide +kernel, by decide⟩
theorem vX9_allReachedBy : okVc mX9_allReachedBy := ⟨gT4 (i := 115) (by decide +kernel) rfl, gTbl_in (i := 26) (by decide +kernel) rfl⟩
abbrev mX9_nextByFewest : Mt := (yX9_nextByFewest, cX9_nextByFewest, 5, some .int, 9)
theorem kX9_nextByFewest : okMc mX9_nextByFewest 1 := ⟨by decide +kernel, gT4 (i := 49) (by decide +kernel) rfl, gT1 (i := 10) (by decide +kernel) rfl, ⟨by decide +kernel, by decide +kernel⟩, by decide +kernel, by decide⟩
theorem vX9_nextByFewest : okVc mX9_nextByFewest := ⟨gT4 (i := 48) (by decide +kernel) rfl, gTbl_in (i := 24) (by decide +kernel) rfl⟩
abbrev mX9_cheapestNoon : Mt := (yX9_cheapestNoon, cX9_cheapestNoon, 5, some .int, 9)
theorem kX9_cheapestNoon : okMc mX9_cheapestNoon 0 := ⟨by decide +kernel, gT4 (i := 75) (by decide +kernel) rfl, gT1 (i := 10) (by decide +kernel) rfl, ⟨by decide +kernel, by decide +kernel⟩, by decide +kernel, by decide⟩
theorem vX9_cheapestNoon : okVc mX9_cheapestNoon := ⟨gT4 (i := 73) (by decide +kernel) rfl, gT4 (i := 74) (by decide +kernel) rfl⟩
abbrev mX10_feed : Mt := (yX10_feed, cX10_feed, 5, some .int, 10)
theorem kX10_feed : okMc mX10_feed 2 := ⟨by decide +kernel, gT2 (i := 143) (by decide +kernel) rfl, gT1 (i := 1) (by decide +kernel) rfl, ⟨by decide +kernel, by decide +kernel⟩, by decide +kernel, by decide⟩
theorem vX10_feed : okVc mX10_feed := ⟨gT2 (i := 141) (by decide +kernel) rfl, gT2 (i := 142) (by decide +kernel) rfl⟩
abbrev mX10_town : Mt := (yX10_town, cX10_town, 2, some .int, 10)
theorem kX10_town : okMc mX10_town 0 := ⟨by decide +kernel, gT2 (i := 155) (by decide +kernel) rfl, gT1 (i := 1) (by decide +kernel) rfl, ⟨by decide +kernel, by decide +kernel⟩, by decide +kernel, by decide⟩
theorem vX10_town : okVc mX10_town := ⟨gT2 (i := 153) (by decide +kernel) rfl, gT2 (i := 154) (by decide +kernel) rfl⟩
abbrev mX10_street : Mt := (yX10_street, cX10_street, 3, some .int, 10)
theorem kX10_street : okMc mX10_street 2 := ⟨by decide +kernel, gT2 (i := 236) (by decide +kernel) rfl, gT1 (i := 1) (by decide +kernel) rfl, ⟨by decide +kernel, by decide +kernel⟩, by decide +kernel, by decide⟩
theorem vX10_street : okVc mX10_street := ⟨gT2 (i := 234) (by decide +kernel) rfl, gT2 (i := 235) (by decide +kernel) rfl⟩
abbrev mX10_errand : Mt := (yX10_errand, cX10_errand, 3, some .int, 10)
theorem kX10_errand : okMc mX10_errand 2 := ⟨by decide +kernel, gT3 (i := 4) (by decide +kernel) rfl, gT1 (i := 1) (by decide +kernel) rfl, ⟨by decide +kernel, by decide +kernel⟩, by decide +kernel, by decide⟩
theorem vX10_errand : okVc mX10_errand := ⟨gT3 (i := 2) (by decide +kernel) rfl, gT3 (i := 3) (by decide +kernel) rfl⟩
abbrev mX10_set : Mt := (yX10_set, cX10_set, 4, some .int, 10)
theorem kX10_set : okMc mX10_set 2 := ⟨by decide +kernel, gT3 (i := 12) (by decide +kernel) rfl, gT1 (i := 1) (by decide +kernel) rfl, ⟨by decide +kernel, by decide +kernel⟩, by decide +kernel, by decide⟩
theorem vX10_set : okVc mX10_set := ⟨gT3 (i := 10) (by decide +kernel) rfl, gT3 (i := 11) (by decide +kernel) rfl⟩
abbrev mX10_point : Mt := (yX10_point, cX10_point, 3, some .int, 10)
theorem kX10_point : okMc mX10_point 1 := ⟨by decide +kernel, gT3 (i := 20) (by decide +kernel) rfl, gT1 (i := 1) (by decide +kernel) rfl, ⟨by decide +kernel, by decide +kernel⟩, by decide +kernel, by decide⟩
theorem vX10_point : okVc mX10_point := ⟨gT3 (i := 18) (by decide +kernel) rfl, gT3 (i := 19) (by decide +kernel) rfl⟩
abbrev mX10_shut : Mt := (yX10_shut, cX10_shut, 4, some .int, 10)
theorem kX10_shut : okMc mX10_shut 2 := ⟨by decide +kernel, gT3 (i := 24) (by decide +kernel) rfl, gT1 (i := 1) (by decide +kernel) rfl, ⟨by decide +kernel, by decide +kernel⟩, by decide +kernel, by decide⟩
theorem vX10_shut : okVc mX10_shut := ⟨gT3 (i := 22) (by decide +kernel) rfl, gT3 (i := 23) (by decide +kernel) rfl⟩
abbrev mX10_way : Mt := (yX10_way, cX10_way, 4, some .int, 10)
theorem kX10_way : okMc mX10_way 2 := ⟨by decide +kernel, gT3 (i := 28) (by decide +kernel) rfl, gT1 (i := 1) (by decide +kernel) rfl, ⟨by decide +kernel, by decide +kernel⟩, by decide +kernel, by decide⟩
theorem vX10_way : okVc mX10_way := ⟨gT3 (i := 26) (by decide +kernel) rfl, gT3 (i := 27) (by decide +kernel) rfl⟩
abbrev mX10_soonest : Mt := (yX10_soonest, cX10_soonest, 5, some .int, 10)
theorem kX10_soonest : okMc mX10_soonest 3 := ⟨by decide +kernel, gT3 (i := 57) (by decide +kernel) rfl, gT1 (i := 1) (by decide +kernel) rfl, ⟨by decide +kernel, by decide +kernel⟩, by decide +kernel, by decide⟩
theorem vX10_soonest : okVc mX10_soonest := ⟨gT3 (i := 55) (by decide +kernel) rfl, gT3 (i := 56) (by decide +kernel) rfl⟩
abbrev mX10_waited : Mt := (yX10_waited, cX10_waited, 5, some .int, 10)
theorem kX10_waited : okMc mX10_waited 3 := ⟨by decide +kernel, gT3 (i := 99) (by decide +kernel) rfl, gT1 (i := 1) (by decide +kernel) rfl, ⟨by decide +kernel, by decide +kernel⟩, by decide +kernel, by decide⟩
theorem vX10_waited : okVc mX10_waited := ⟨gT3 (i := 97) (by decide +kernel) rfl, gT3 (i := 98) (by decide +kernel) rfl⟩
abbrev mX10_road : Mt := (yX10_road, cX10_road, 6, some .int, 10)
theorem kX10_road : okMc mX10_road 4 := ⟨by decide +kernel, gT3 (i := 123) (by decide +kernel) rfl, gT1 (i := 1) (by decide +kernel) rfl, ⟨by decide +kernel, by decide +kernel⟩, by decide +kernel, by decide⟩
theorem vX10_road : okVc mX10_road := ⟨gT3 (i := 121) (by decide +kernel) rfl, gT3 (i := 122) (by decide +kernel) rfl⟩
abbrev mX10_all : Mt := (yX10_all, cX10_all, 3, some .int, 10)
theorem kX10_all : okMc mX10_all 1 := ⟨by decide +kernel, gT3 (i := 131) (by decide +kernel) rfl, gT1 (i := 1) (by decide +kernel) rfl, ⟨by decide +kernel, by decide +kernel⟩, by decide +kernel, by decide⟩
theorem vX10_all : okVc mX10_all := ⟨gT3 (i := 129) (by decide +kernel) rfl, gT3 (i := 130) (by decide +kernel) rfl⟩
abbrev mX10_longest : Mt := (yX10_longest, cX10_longest, 3, some .int, 10)
theorem kX10_longest : okMc mX10_longest 1 := ⟨by decide +kernel, gT3 (i := 168) (by decide +kernel) rfl, gT1 (i := 1) (by decide +kernel) rfl, ⟨by decide +kernel, by decide +kernel⟩, by decide +kernel, by decide⟩
theorem vX10_longest : okVc mX10_longest := ⟨gT3 (i := 166) (by decide +kernel) rfl, gT3 (i := 167) (by decide +kernel) rfl⟩
abbrev mX10_apart : Mt := (yX10_apart, cX10_apart, 3, some .int, 10)
theorem kX10_apart : okMc mX10_apart 1 := ⟨by decide +kernel, gT3 (i := 177) (by decide +kernel) rfl, gT1 (i := 1) (by decide +kernel) rfl, ⟨by decide +kernel, by decide +kernel⟩, by decide +kernel, by decide⟩
theorem vX10_apart : okVc mX10_apart := ⟨gT3 (i := 175) (by decide +kernel) rfl, gT3 (i := 176) (by decide +kernel) rfl⟩
abbrev mX10_can : Mt := (yX10_can, cX10_can, 1, some .int, 10)
theorem kX10_can : okMc mX10_can 0 := ⟨by decide +kernel, gT3 (i := 181) (by decide +kernel) rfl, gT1 (i := 1) (by decide +kernel) rfl, ⟨by decide +kernel, by decide +kernel⟩, by decide +kernel, by decide⟩
theorem vX10_can : okVc mX10_can := ⟨gT3 (i := 179) (by decide +kernel) rfl, gT3 (i := 180) (by decide +kernel) rfl⟩
abbrev mX10_bridges : Mt := (yX10_bridges, cX10_bridges, 1, some .int, 10)
theorem kX10_bridges : okMc mX10_bridges 0 := ⟨by decide +kernel, gT3 (i := 198) (by decide +kernel) rfl, gT1 (i := 1) (by decide +kernel) rfl, ⟨by decide +kernel, by decide +kernel⟩, by decide +kernel, by decide⟩
theorem vX10_bridges : okVc mX10_bridges := ⟨gT3 (i := 196) (by decide +kernel) rfl, gT3 (i := 197) (by decide +kernel) rfl⟩
abbrev mX10_walk : Mt := (yX10_walk, cX10_walk, 1, some .int, 10)
theorem kX10_walk : okMc mX10_walk 0 := ⟨by decide +kernel, gT3 (i := 202) (by decide +kernel) rfl, gT1 (i := 1) (by decide +kernel) rfl, ⟨by decide +kernel, by decide +kernel⟩, by decide +kernel, by decide⟩
theorem vX10_walk : okVc mX10_walk := ⟨gT3 (i := 200) (by decide +kernel) rfl, gT3 (i := 201) (by decide +kernel) rfl⟩
abbrev mX10_cost : Mt := (yX10_cost, cX10_cost, 1, some .int, 10)
theorem kX10_cost : okMc mX10_cost 0 := ⟨by decide +kernel, gT3 (i := 215) (by decide +kernel) rfl, gT1 (i := 1) (by decide +kernel) rfl, ⟨by decide +kernel, by decide +kernel⟩, by decide +kernel, by decide⟩
theorem vX10_cost : okVc mX10_cost := ⟨gT3 (i := 213) (by decide +kernel) rfl, gT3 (i := 214) (by decide +kernel) rfl⟩
abbrev mX10_best : Mt := (yX10_best, cX10_best, 2, some .int, 10)
theorem kX10_best : okMc mX10_best 0 := ⟨by decide +kernel, gT3 (i := 234) (by decide +kernel) rfl, gT1 (i := 1) (by decide +kernel) rfl, ⟨by decide +kernel, by decide +kernel⟩, by decide +kernel, by decide⟩
theorem vX10_best : okVc mX10_best := ⟨gT3 (i := 232) (by decide +kernel) rfl, gT3 (i := 233) (by decide +kernel) rfl⟩
abbrev mX10_far : Mt := (yX10_far, cX10_far, 2, some .int, 10)
theorem kX10_far : okMc mX10_far 0 := ⟨by decide +kernel, gT4 (i := 18) (by decide +kernel) rfl, gT1 (i := 1) (by decide +kernel) rfl, ⟨by decide +kernel, by decide +kernel⟩, by decide +kernel, by decide⟩
theorem vX10_far : okVc mX10_far := ⟨gT4 (i := 16) (by decide +kernel) rfl, gT4 (i := 17) (by decide +kernel) rfl⟩
abbrev mX10_turning : Mt := (yX10_turning, cX10_turning, 1, some .int, 10)
theorem kX10_turning : okMc mX10_turning 0 := ⟨by decide +kernel, gT4 (i := 29) (by decide +kernel) rfl, gT1 (i := 1) (by decide +kernel) rfl, ⟨by decide +kernel, by decide +kernel⟩, by decide +kernel, by decide⟩
theorem vX10_turning : okVc mX10_turning := ⟨gT4 (i := 27) (by decide +kernel) rfl, gT4 (i := 28) (by decide +kernel) rfl⟩
abbrev mX10_bothWays : Mt := (yX10_bothWays, cX10_bothWays, 2, some .int, 10)
theorem kX10_bothWays : okMc mX10_bothWays 1 := ⟨by decide +kernel, gT4 (i := 39) (by decide +kernel) rfl, gT1 (i := 1) (by decide +kernel) rfl, ⟨by decide +kernel, by decide +kernel⟩, by decide +kernel, by decide⟩
theorem vX10_bothWays : okVc mX10_bothWays := ⟨gT4 (i := 37) (by decide +kernel) rfl, gT4 (i := 38) (by decide +kernel) rfl⟩
abbrev mX10_corner : Mt := (yX10_corner, cX10_corner, 2, some .int, 10)
theorem kX10_corner : okMc mX10_corner 1 := ⟨by decide +kernel, gT4 (i := 59) (by decide +kernel) rfl, gT1 (i := 1) (by decide +kernel) rfl, ⟨by decide +kernel, by decide +kernel⟩, by decide +kernel, by decide⟩
theorem vX10_corner : okVc mX10_corner := ⟨gT4 (i := 57) (by decide +kernel) rfl, gT4 (i := 58) (by decide +kernel) rfl⟩
abbrev mX10_procession : Mt := (yX10_procession, cX10_procession, 2, some .int, 10)
theorem kX10_procession : okMc mX10_procession 0 := ⟨by decide +kernel, gT4 (i := 63) (by decide +kernel) rfl, gT1 (i := 1) (by decide +kernel) rfl, ⟨by decide +kernel, by decide +kernel⟩, by decide +kernel, by decide⟩
theorem vX10_procession : okVc mX10_procession := ⟨gT4 (i := 61) (by decide +kernel) rfl, gT4 (i := 62) (by decide +kernel) rfl⟩
abbrev mX10_bestNoon : Mt := (yX10_bestNoon, cX10_bestNoon, 1, some .int, 10)
theorem kX10_bestNoon : okMc mX10_bestNoon 0 := ⟨by decide +kernel, gT4 (i := 71) (by decide +kernel) rfl, gT1 (i := 1) (by decide +kernel) rfl, ⟨by decide +kernel, by decide +kernel⟩, by decide +kernel, by decide⟩
theorem vX10_bestNoon : okVc mX10_bestNoon := ⟨gT4 (i := 69) (by decide +kernel) rfl, gT4 (i := 70) (by decide +kernel) rfl⟩
abbrev mX10_lives : Mt := (yX10_lives, cX10_lives, 1, some .int, 10)
theorem kX10_lives : okMc mX10_lives 0 := ⟨by decide +kernel, gT4 (i := 83) (by decide +kernel) rfl, gT1 (i := 1) (by decide +kernel) rfl, ⟨by decide +kernel, by decide +kernel⟩, by decide +kernel, by decide⟩
theorem vX10_lives : okVc mX10_lives := ⟨gT4 (i := 81) (by decide +kernel) rfl, gT4 (i := 82) (by decide +kernel) rfl⟩
abbrev mX10_meets : Mt := (yX10_meets, cX10_meets, 3, some .int, 10)
theorem kX10_meets : okMc mX10_meets 2 := ⟨by decide +kernel, gT4 (i := 91) (by decide +kernel) rfl, gT1 (i := 1) (by decide +kernel) rfl, ⟨by decide +kernel, by decide +kernel⟩, by decide +kernel, by decide⟩
theorem vX10_meets : okVc mX10_meets := ⟨gT4 (i := 89) (by decide +kernel) rfl, gT4 (i := 90) (by decide +kernel) rfl⟩
abbrev mX10_pairs : Mt := (yX10_pairs, cX10_pairs, 4, some .int, 10)
theorem kX10_pairs : okMc mX10_pairs 0 := ⟨by decide +kernel, gT4 (i := 103) (by decide +kernel) rfl, gT1 (i := 1) (by decide +kernel) rfl, ⟨by decide +kernel, by decide +kernel⟩, by decide +kernel, by decide⟩
theorem vX10_pairs : okVc mX10_pairs := ⟨gT4 (i := 101) (by decide +kernel) rfl, gT4 (i := 102) (by decide +kernel) rfl⟩
abbrev mX10_lanes : Mt := (yX10_lanes, cX10_lanes, 4, some .int, 10)
theorem kX10_lanes : okMc mX10_lanes 3 := ⟨by decide +kernel, gT4 (i := 107) (by decide +kernel) rfl, gT1 (i := 1) (by decide +kernel) rfl, ⟨by decide +kernel, by decide +kernel⟩, by decide +kernel, by decide⟩
theorem vX10_lanes : okVc mX10_lanes := ⟨gT4 (i := 105) (by decide +kernel) rfl, gT4 (i := 106) (by decide +kernel) rfl⟩
abbrev mX10_shuts : Mt := (yX10_shuts, cX10_shuts, 3, some .int, 10)
theorem kX10_shuts : okMc mX10_shuts 1 := ⟨by decide +kernel, gT4 (i := 121) (by decide +kernel) rfl, gT1 (i := 1) (by decide +kernel) rfl, ⟨by decide +kernel, by decide +kernel⟩, by decide +kernel, by decide⟩
theorem vX10_shuts : okVc mX10_shuts := ⟨gT4 (i := 119) (by decide +kernel) rfl, gT4 (i := 120) (by decide +kernel) rfl⟩
abbrev mX10_days : Mt := (yX10_days, cX10_days, 3, some .int, 10)
theorem kX10_days : okMc mX10_days 2 := ⟨by decide +kernel, gT4 (i := 130) (by decide +kernel) rfl, gT1 (i := 1) (by decide +kernel) rfl, ⟨by decide +kernel, by decide +kernel⟩, by decide +kernel, by decide⟩
theorem vX10_days : okVc mX10_days := ⟨gT4 (i := 128) (by decide +kernel) rfl, gT4 (i := 129) (by decide +kernel) rfl⟩
abbrev mX10_judge : Mt := (yX10_judge, cX10_judge, 2, some .int, 10)
theorem kX10_judge : okMc mX10_judge 0 := ⟨by decide +kernel, gT4 (i := 145) (by decide +kernel) rfl, gT1 (i := 1) (by decide +kernel) rfl, ⟨by decide +kernel, by decide +kernel⟩, by decide +kernel, by decide⟩
theorem vX10_judge : okVc mX10_judge := ⟨gT4 (i := 143) (by decide +kernel) rfl, gT4 (i := 144) (by decide +kernel) rfl⟩
abbrev mX10_image : Mt := (yX10_image, cX10_image, 1, some .int, 10)
theorem kX10_image : okMc mX10_image 0 := ⟨by decide +kernel, gT4 (i := 154) (by decide +kernel) rfl, gT1 (i := 1) (by decide +kernel) rfl, ⟨by decide +kernel, by decide +kernel⟩, by decide +kernel, by decide⟩
theorem vX10_image : okVc mX10_image := ⟨gT4 (i := 152) (by decide +kernel) rfl, gT4 (i := 153) (by decide +kernel) rfl⟩
abbrev mX10_on : Mt := (yX10_on, cX10_on, 1, some .int, 10)
theorem kX10_on : okMc mX10_on 0 := ⟨by decide +kernel, gT4 (i := 159) (by decide +kernel) rfl, gT1 (i := 1) (by decide +kernel) rfl, ⟨by decide +kernel, by decide +kernel⟩, by decide +kernel, by decide⟩
theorem vX10_on : okVc mX10_on := ⟨gT4 (i := 157) (by decide +kernel) rfl, gT4 (i := 158) (by decide +kernel) rfl⟩
abbrev mX10_count : Mt := (yX10_count, cX10_count, 2, some .int, 10)
theorem kX10_count : okMc mX10_count 1 := ⟨by decide +kernel, gT4 (i := 163) (by decide +kernel) rfl, gT1 (i := 1) (by decide +kernel) rfl, ⟨by decide +kernel, by decide +kernel⟩, by decide +kernel, by decide⟩
theorem vX10_count : okVc mX10_count := ⟨gT4 (i := 161) (by decide +kernel) rfl, gT4 (i := 162) (by decide +kernel) rfl⟩
abbrev mX10_refuse : Mt := (yX10_refuse, cX10_refuse, 2, some .int, 10)
theorem kX10_refuse : okMc mX10_refuse 1 := ⟨by decide +kernel, gT2 (i := 147) (by decide +kernel) rfl, gT1 (i := 1) (by decide +kernel) rfl, ⟨by decide +kernel, by decide +kernel⟩, by decide +kernel, by decide⟩
theorem vX10_refuse : okVc mX10_refuse := ⟨gT2 (i := 146) (by decide +kernel) rfl, gTbl_in (i := 0) (by decide +kernel) rfl⟩
abbrev mX10_refusalOfMinute : Mt := (yX10_refusalOfMinute, cX10_refusalOfMinute, 2, some .int, 10)
theorem kX10_refusalOfMinute : okMc mX10_refusalOfMinute 1 := ⟨by decide +kernel, gT3 (i := 32) (by decide +kernel) rfl, gT1 (i := 1) (by decide +kernel) rfl, ⟨by decide +kernel, by decide +kernel⟩, by decide +kernel, by decide⟩
theorem vX10_refusalOfMinute : okVc mX10_refusalOfMinute := ⟨gT3 (i := 31) (by decide +kernel) rfl, gTbl_in (i := 9) (by decide +kernel) rfl⟩
abbrev mX10_refusalOfWay : Mt := (yX10_refusalOfWay, cX10_refusalOfWay, 4, some .int, 10)
theorem kX10_refusalOfWay : okMc mX10_refusalOfWay 3 := ⟨by decide +kernel, gT3 (i := 61) (by decide +kernel) rfl, gT1 (i := 1) (by decide +kernel) rfl, ⟨by decide +kernel, by decide +kernel⟩, by decide +kernel, by decide⟩
theorem vX10_refusalOfWay : okVc mX10_refusalOfWay := ⟨gT3 (i := 60) (by decide +kernel) rfl, gTbl_in (i := 10) (by decide +kernel) rfl⟩
abbrev mX10_refusalOfTrying : Mt := (yX10_refusalOfTrying, cX10_refusalOfTrying, 1, some .int, 10)
theorem kX10_refusalOfTrying : okMc mX10_refusalOfTrying 0 := ⟨by decide +kernel, gT3 (i := 238) (by decide +kernel) rfl, gT1 (i := 1) (by decide +kernel) rfl, ⟨by decide +kernel, by decide +kernel⟩, by decide +kernel, by decide⟩
theorem vX10_refusalOfTrying : okVc mX10_refusalOfTrying := ⟨gT3 (i := 237) (by decide +kernel) rfl, gTbl_in (i := 23) (by decide +kernel) rfl⟩
abbrev mX10_freezeAsItIs : Mt := (yX10_freezeAsItIs, cX10_freezeAsItIs, 2, none, 10)
theorem kX10_freezeAsItIs : okMc mX10_freezeAsItIs 1 := ⟨by decide +kernel, gT3 (i := 135) (by decide +kernel) rfl, gT1 (i := 1) (by decide +kernel) rfl, ⟨by decide +kernel, by decide +kernel⟩, by decide +kernel, by decide⟩
theorem vX10_freezeAsItIs : okVc mX10_freezeAsItIs := ⟨gT3 (i := 134) (by decide +kernel) rfl, gTbl_in (i := 16) (by decide +kernel) rfl⟩
abbrev mX10_traceErrand : Mt := (yX10_traceErrand, cX10_traceErrand, 2, none, 10)
theorem kX10_traceErrand : okMc mX10_traceErrand 1 := ⟨by decide +kernel, gT4 (i := 95) (by decide +kernel) rfl, gT1 (i := 1) (by decide +kernel) rfl, ⟨by decide +kernel, by decide +kernel⟩, by decide +kernel, by decide⟩
theorem vX10_traceErrand : okVc mX10_traceErrand := ⟨gT4 (i := 94) (by decide +kernel) rfl, gTbl_in (i := 25) (by decide +kernel) rfl⟩
abbrev mX10_bitOf : Mt := (yX10_bitOf, cX10_bitOf, 2, some .int, 10)
theorem kX10_bitOf : okMc mX10_bitOf 2 := ⟨by decide +kernel, gT3 (i := 0) (by decide +kernel) rfl, gT1 (i := 1) (by decide +kernel) rfl, ⟨by decide +kernel, by decide +kernel⟩, by decide +kernel, by decide⟩
theorem vX10_bitOf : Cond.static mX10_bitOf.1 ∈ gTbl := gT2 (i := 239) (by decide +kernel) rfl
abbrev mX11_refuse : Mt := (yX11_refuse, cX11_refuse, 2, some .int, 11)
theorem kX11_refuse : okMc mX11_refuse 1 := ⟨by decide +kernel, gT5 (i := 19) (by decide +kernel) rfl, gT1 (i := 12) (by decide +kernel) rfl, ⟨by decide +kernel, by decide +kernel⟩, by decide +kernel, by decide⟩
theorem vX11_refuse : okVc mX11_refuse := ⟨gT5 (i := 18) (by decide +kernel) rfl, gTbl_in (i := 28) (by decide +kernel) rfl⟩
abbrev mX11_isIn : Mt := (yX11_isIn, cX11_isIn, 2, some .boolean, 11)
theorem kX11_isIn : okMc mX11_isIn 2 := ⟨by decide +kernel, gT5 (i := 63) (by decide +kernel) rfl, gT1 (i := 12) (by decide +kernel) rfl, ⟨by decide +kernel, by decide +kernel⟩, by decide +kernel, by decide⟩
theorem vX11_isIn : Cond.static mX11_isIn.1 ∈ gTbl := gT5 (i := 62) (by decide +kernel) rfl
abbrev mX11_within : Mt := (yX11_within, cX11_within, 3, some .int, 11)
theorem kX11_within : okMc mX11_within 3 := ⟨by decide +kernel, gT5 (i := 89) (by decide +kernel) rfl, gT1 (i := 12) (by decide +kernel) rfl, ⟨by decide +kernel, by decide +kernel⟩, by decide +kernel, by decide⟩
theorem vX11_within : Cond.static mX11_within.1 ∈ gTbl := gT5 (i := 88) (by decide +kernel) rfl
abbrev mX11_isCorner : Mt := (yX11_isCorner, cX11_isCorner, 2, some .boolean, 11)
theorem kX11_isCorner : okMc mX11_isCorner 1 := ⟨by decide +kernel, gT5 (i := 121) (by decide +kernel) rfl, gT1 (i := 12) (by decide +kernel) rfl, ⟨by decide +kernel, by decide +kernel⟩, by decide +kernel, by decide⟩
theorem vX11_isCorner : okVc mX11_isCorner := ⟨gT5 (i := 120) (by decide +kernel) rfl, gTbl_in (i := 43) (by decide +kernel) rfl⟩
abbrev mX11_isStreet : Mt := (yX11_isStreet, cX11_isStreet, 2, some .boolean, 11)
theorem kX11_isStreet : okMc mX11_isStreet 1 := ⟨by decide +kernel, gT5 (i := 60) (by decide +kernel) rfl, gT1 (i := 12) (by decide +kernel) rfl, ⟨by decide +kernel, by decide +kernel⟩, by decide +kernel, by decide⟩
theorem vX11_isStreet : okVc mX11_isStreet := ⟨gT5 (i := 59) (by decide +kernel) rfl, gTbl_in (i := 36) (by decide +kernel) rfl⟩
abbrev mX11_isErrand : Mt := (yX11_isErrand, cX11_isErrand, 2, some .boolean, 11)
theorem kX11_isErrand : okMc mX11_isErrand 1 := ⟨by decide +kernel, gT5 (i := 75) (by decide +kernel) rfl, gT1 (i := 12) (by decide +kernel) rfl, ⟨by decide +kernel, by decide +kernel⟩, by decide +kernel, by decide⟩
theorem vX11_isErrand : okVc mX11_isErrand := ⟨gT5 (i := 74) (by decide +kernel) rfl, gTbl_in (i := 38) (by decide +kernel) rfl⟩
abbrev mX11_get : Mt := (yX11_get, cX11_get, 3, some .int, 11)
theorem kX11_get : okMc mX11_get 2 := ⟨by decide +kernel, gT5 (i := 67) (by decide +kernel) rfl, gT1 (i := 12) (by decide +kernel) rfl, ⟨by decide +kernel, by decide +kernel⟩, by decide +kernel, by decide⟩
theorem vX11_get : okVc mX11_get := ⟨gT5 (i := 66) (by decide +kernel) rfl, gTbl_in (i := 37) (by decide +kernel) rfl⟩
abbrev mX11_of : Mt := (yX11_of, cX11_of, 3, some .int, 11)
theorem kX11_of : okMc mX11_of 2 := ⟨by decide +kernel, gT5 (i := 79) (by decide +kernel) rfl, gT1 (i := 12) (by decide +kernel) rfl, ⟨by decide +kernel, by decide +kernel⟩, by decide +kernel, by decide⟩
theorem vX11_of : okVc mX11_of := ⟨gT5 (i := 78) (by decide +kernel) rfl, gTbl_in (i := 39) (by decide +kernel) rfl⟩
abbrev mX11_feed : Mt := (yX11_feed, cX11_feed, 5, some .int, 11)
theorem kX11_feed : okMc mX11_feed 2 := ⟨by decide +kernel, gT5 (i := 15) (by decide +kernel) rfl, gT1 (i := 12) (by decide +kernel) rfl, ⟨by decide +kernel, by decide +kernel⟩, by decide +kernel, by decide⟩
theorem vX11_feed : okVc mX11_feed := ⟨gT5 (i := 13) (by decide +kernel) rfl, gT5 (i := 14) (by decide +kernel) rfl⟩
abbrev mX11_sign : Mt := (yX11_sign, cX11_sign, 1, some .int, 11)
theorem kX11_sign : okMc mX11_sign 0 := ⟨by decide +kernel, gT5 (i := 36) (by decide +kernel) rfl, gT1 (i := 12) (by decide +kernel) rfl, ⟨by decide +kernel, by decide +kernel⟩, by decide +kernel, by decide⟩
theorem vX11_sign : okVc mX11_sign := ⟨gT5 (i := 35) (by decide +kernel) rfl, gTbl_in (i := 31) (by decide +kernel) rfl⟩
abbrev mX11_takes : Mt := (yX11_takes, cX11_takes, 2, some .boolean, 11)
theorem kX11_takes : okMc mX11_takes 1 := ⟨by decide +kernel, gT5 (i := 44) (by decide +kernel) rfl, gT1 (i := 12) (by decide +kernel) rfl, ⟨by decide +kernel, by decide +kernel⟩, by decide +kernel, by decide⟩
theorem vX11_takes : okVc mX11_takes := ⟨gT5 (i := 43) (by decide +kernel) rfl, gTbl_in (i := 33) (by decide +kernel) rfl⟩
abbrev mX11_readsNumber : Mt := (yX11_readsNumber, cX11_readsNumber, 4, some .boolean, 11)
theorem kX11_readsNumber : okMc mX11_readsNumber 2 := ⟨by decide +kernel, gT5 (i := 40) (by decide +kernel) rfl, gT1 (i := 12) (by decide +kernel) rfl, ⟨by decide +kernel, by decide +kernel⟩, by decide +kernel, by decide⟩
theorem vX11_readsNumber : okVc mX11_readsNumber := ⟨gT5 (i := 39) (by decide +kernel) rfl, gTbl_in (i := 32) (by decide +kernel) rfl⟩
abbrev mX11_readsStatement : Mt := (yX11_readsStatement, cX11_readsStatement, 3, some .boolean, 11)
theorem kX11_readsStatement : okMc mX11_readsStatement 0 := ⟨by decide +kernel, gT5 (i := 32) (by decide +kernel) rfl, gT1 (i := 12) (by decide +kernel) rfl, ⟨by decide +kernel, by decide +kernel⟩, by decide +kernel, by decide⟩
theorem vX11_readsStatement : okVc mX11_readsStatement := ⟨gT5 (i := 31) (by decide +kernel) rfl, gTbl_in (i := 30) (by decide +kernel) rfl⟩
abbrev mX11_toldOf : Mt := (yX11_toldOf, cX11_toldOf, 4, some .int, 11)
theorem kX11_toldOf : okMc mX11_toldOf 0 := ⟨by decide +kernel, gT5 (i := 52) (by decide +kernel) rfl, gT1 (i := 12) (by decide +kernel) rfl, ⟨by decide +kernel, by decide +kernel⟩, by decide +kernel, by decide⟩
theorem vX11_toldOf : okVc mX11_toldOf := ⟨gT5 (i := 51) (by decide +kernel) rfl, gTbl_in (i := 35) (by decide +kernel) rfl⟩
abbrev mX11_comes : Mt := (yX11_comes, cX11_comes, 7, some .boolean, 11)
theorem kX11_comes : okMc mX11_comes 1 := ⟨by decide +kernel, gT5 (i := 48) (by decide +kernel) rfl, gT1 (i := 12) (by decide +kernel) rfl, ⟨by decide +kernel, by decide +kernel⟩, by decide +kernel, by decide⟩
theorem vX11_comes : okVc mX11_comes := ⟨gT5 (i := 47) (by decide +kernel) rfl, gTbl_in (i := 34) (by decide +kernel) rfl⟩
abbrev mX11_reads : Mt := (yX11_reads, cX11_reads, 5, some .int, 11)
theorem kX11_reads : okMc mX11_reads 0 := ⟨by decide +kernel, gT5 (i := 28) (by decide +kernel) rfl, gT1 (i := 12) (by decide +kernel) rfl, ⟨by decide +kernel, by decide +kernel⟩, by decide +kernel, by decide⟩
theorem vX11_reads : okVc mX11_reads := ⟨gT5 (i := 27) (by decide +kernel) rfl, gTbl_in (i := 29) (by decide +kernel) rfl⟩
abbrev mX11_town : Mt := (yX11_town, cX11_town, 2, some .int, 11)
theorem kX11_town : okMc mX11_town 0 := ⟨by decide +kernel, gT5 (i := 24) (by decide +kernel) rfl, gT1 (i := 12) (by decide +kernel) rfl, ⟨by decide +kernel, by decide +kernel⟩, by decide +kernel, by decide⟩
theorem vX11_town : okVc mX11_town := ⟨gT5 (i := 22) (by decide +kernel) rfl, gT5 (i := 23) (by decide +kernel) rfl⟩
abbrev mX11_street : Mt := (yX11_street, cX11_street, 3, some .int, 11)
theorem kX11_street : okMc mX11_street 2 := ⟨by decide +kernel, gT5 (i := 56) (by decide +kernel) rfl, gT1 (i := 12) (by decide +kernel) rfl, ⟨by decide +kernel, by decide +kernel⟩, by decide +kernel, by decide⟩
theorem vX11_street : okVc mX11_street := ⟨gT5 (i := 54) (by decide +kernel) rfl, gT5 (i := 55) (by decide +kernel) rfl⟩
abbrev mX11_errand : Mt := (yX11_errand, cX11_errand, 3, some .int, 11)
theorem kX11_errand : okMc mX11_errand 2 := ⟨by decide +kernel, gT5 (i := 71) (by decide +kernel) rfl, gT1 (i := 12) (by decide +kernel) rfl, ⟨by decide +kernel, by decide +kernel⟩, by decide +kernel, by decide⟩
theorem vX11_errand : okVc mX11_errand := ⟨gT5 (i := 69) (by decide +kernel) rfl, gT5 (i := 70) (by decide +kernel) rfl⟩
abbrev mX11_becomes : Mt := (yX11_becomes, cX11_becomes, 4, some .int, 11)
theorem kX11_becomes : okMc mX11_becomes 2 := ⟨by decide +kernel, gT5 (i := 93) (by decide +kernel) rfl, gT1 (i := 12) (by decide +kernel) rfl, ⟨by decide +kernel, by decide +kernel⟩, by decide +kernel, by decide⟩
theorem vX11_becomes : okVc mX11_becomes := ⟨gT5 (i := 92) (by decide +kernel) rfl, gTbl_in (i := 40) (by decide +kernel) rfl⟩
abbrev mX11_most : Mt := (yX11_most, cX11_most, 1, some .int, 11)
theorem kX11_most : okMc mX11_most 1 := ⟨by decide +kernel, gT5 (i := 86) (by decide +kernel) rfl, gT1 (i := 12) (by decide +kernel) rfl, ⟨by decide +kernel, by decide +kernel⟩, by decide +kernel, by decide⟩
theorem vX11_most : Cond.static mX11_most.1 ∈ gTbl := gT5 (i := 85) (by decide +kernel) rfl
abbrev mX11_set : Mt := (yX11_set, cX11_set, 4, some .int, 11)
theorem kX11_set : okMc mX11_set 2 := ⟨by decide +kernel, gT5 (i := 83) (by decide +kernel) rfl, gT1 (i := 12) (by decide +kernel) rfl, ⟨by decide +kernel, by decide +kernel⟩, by decide +kernel, by decide⟩
theorem vX11_set : okVc mX11_set := ⟨gT5 (i := 81) (by decide +kernel) rfl, gT5 (i := 82) (by decide +kernel) rfl⟩
abbrev mX11_point : Mt := (yX11_point, cX11_point, 2, some .int, 11)
theorem kX11_point : okMc mX11_point 1 := ⟨by decide +kernel, gT5 (i := 97) (by decide +kernel) rfl, gT1 (i := 12) (by decide +kernel) rfl, ⟨by decide +kernel, by decide +kernel⟩, by decide +kernel, by decide⟩
theorem vX11_point : okVc mX11_point := ⟨gT5 (i := 95) (by decide +kernel) rfl, gT5 (i := 96) (by decide +kernel) rfl⟩
abbrev mX11_shut : Mt := (yX11_shut, cX11_shut, 4, some .int, 11)
theorem kX11_shut : okMc mX11_shut 2 := ⟨by decide +kernel, gT5 (i := 101) (by decide +kernel) rfl, gT1 (i := 12) (by decide +kernel) rfl, ⟨by decide +kernel, by decide +kernel⟩, by decide +kernel, by decide⟩
theorem vX11_shut : okVc mX11_shut := ⟨gT5 (i := 99) (by decide +kernel) rfl, gT5 (i := 100) (by decide +kernel) rfl⟩
abbrev mX11_wayOf : Mt := (yX11_wayOf, cX11_wayOf, 6, some .int, 11)
theorem kX11_wayOf : okMc mX11_wayOf 2 := ⟨by decide +kernel, gT5 (i := 109) (by decide +kernel) rfl, gT1 (i := 12) (by decide +kernel) rfl, ⟨by decide +kernel, by decide +kernel⟩, by decide +kernel, by decide⟩
theorem vX11_wayOf : okVc mX11_wayOf := ⟨gT5 (i := 108) (by decide +kernel) rfl, gTbl_in (i := 41) (by decide +kernel) rfl⟩
abbrev mX11_way : Mt := (yX11_way, cX11_way, 4, some .int, 11)
theorem kX11_way : okMc mX11_way 2 := ⟨by decide +kernel, gT5 (i := 105) (by decide +kernel) rfl, gT1 (i := 12) (by decide +kernel) rfl, ⟨by decide +kernel, by decide +kernel⟩, by decide +kernel, by decide⟩
theorem vX11_way : okVc mX11_way := ⟨gT5 (i := 103) (by decide +kernel) rfl, gT5 (i := 104) (by decide +kernel) rfl⟩
abbrev mX11_goesFrom : Mt := (yX11_goesFrom, cX11_goesFrom, 5, some .boolean, 11)
theorem kX11_goesFrom : okMc mX11_goesFrom 3 := ⟨by decide +kernel, gT5 (i := 133) (by decide +kernel) rfl, gT1 (i := 12) (by decide +kernel) rfl, ⟨by decide +kernel, by decide +kernel⟩, by decide +kernel, by decide⟩
theorem vX11_goesFrom : okVc mX11_goesFrom := ⟨gT5 (i := 132) (by decide +kernel) rfl, gTbl_in (i := 46) (by decide +kernel) rfl⟩
abbrev mX11_enters : Mt := (yX11_enters, cX11_enters, 6, some .int, 11)
theorem kX11_enters : okMc mX11_enters 3 := ⟨by decide +kernel, gT5 (i := 129) (by decide +kernel) rfl, gT1 (i := 12) (by decide +kernel) rfl, ⟨by decide +kernel, by decide +kernel⟩, by decide +kernel, by decide⟩
theorem vX11_enters : okVc mX11_enters := ⟨gT5 (i := 128) (by decide +kernel) rfl, gTbl_in (i := 45) (by decide +kernel) rfl⟩
abbrev mX11_finds : Mt := (yX11_finds, cX11_finds, 8, none, 11)
theorem kX11_finds : okMc mX11_finds 2 := ⟨by decide +kernel, gT5 (i := 125) (by decide +kernel) rfl, gT1 (i := 12) (by decide +kernel) rfl, ⟨by decide +kernel, by decide +kernel⟩, by decide +kernel, by decide⟩
theorem vX11_finds : okVc mX11_finds := ⟨gT5 (i := 124) (by decide +kernel) rfl, gTbl_in (i := 44) (by decide +kernel) rfl⟩
abbrev mX11_wrongWay : Mt := (yX11_wrongWay, cX11_wrongWay, 4, some .int, 11)
theorem kX11_wrongWay : okMc mX11_wrongWay 3 := ⟨by decide +kernel, gT5 (i := 117) (by decide +kernel) rfl, gT1 (i := 12) (by decide +kernel) rfl, ⟨by decide +kernel, by decide +kernel⟩, by decide +kernel, by decide⟩
theorem vX11_wrongWay : okVc mX11_wrongWay := ⟨gT5 (i := 116) (by decide +kernel) rfl, gTbl_in (i := 42) (by decide +kernel) rfl⟩
abbrev mX11_soonest : Mt := (yX11_soonest, cX11_soonest, 5, some .int, 11)
theorem kX11_soonest : okMc mX11_soonest 3 := ⟨by decide +kernel, gT5 (i := 113) (by decide +kernel) rfl, gT1 (i := 12) (by decide +kernel) rfl, ⟨by decide +kernel, by decide +kernel⟩, by decide +kernel, by decide⟩
theorem vX11_soonest : okVc mX11_soonest := ⟨gT5 (i := 111) (by decide +kernel) rfl, gT5 (i := 112) (by decide +kernel) rfl⟩
abbrev mX11_findsRoad : Mt := (yX11_findsRoad, cX11_findsRoad, 10, some .boolean, 11)
theorem kX11_findsRoad : okMc mX11_findsRoad 3 := ⟨by decide +kernel, gT5 (i := 141) (by decide +kernel) rfl, gT1 (i := 12) (by decide +kernel) rfl, ⟨by decide +kernel, by decide +kernel⟩, by decide +kernel, by decide⟩
theorem vX11_findsRoad : okVc mX11_findsRoad := ⟨gT5 (i := 140) (by decide +kernel) rfl, gTbl_in (i := 47) (by decide +kernel) rfl⟩
abbrev mX11_waited : Mt := (yX11_waited, cX11_waited, 5, some .int, 11)
theorem kX11_waited : okMc mX11_waited 3 := ⟨by decide +kernel, gT5 (i := 137) (by decide +kernel) rfl, gT1 (i := 12) (by decide +kernel) rfl, ⟨by decide +kernel, by decide +kernel⟩, by decide +kernel, by decide⟩
theorem vX11_waited : okVc mX11_waited := ⟨gT5 (i := 135) (by decide +kernel) rfl, gT5 (i := 136) (by decide +kernel) rfl⟩
abbrev mX11_road : Mt := (yX11_road, cX11_road, 6, some .int, 11)
theorem kX11_road : okMc mX11_road 4 := ⟨by decide +kernel, gT5 (i := 145) (by decide +kernel) rfl, gT1 (i := 12) (by decide +kernel) rfl, ⟨by decide +kernel, by decide +kernel⟩, by decide +kernel, by decide⟩
theorem vX11_road : okVc mX11_road := ⟨gT5 (i := 143) (by decide +kernel) rfl, gT5 (i := 144) (by decide +kernel) rfl⟩
abbrev mX11_findsFar : Mt := (yX11_findsFar, cX11_findsFar, 6, none, 11)
theorem kX11_findsFar : okMc mX11_findsFar 1 := ⟨by decide +kernel, gT5 (i := 157) (by decide +kernel) rfl, gT1 (i := 12) (by decide +kernel) rfl, ⟨by decide +kernel, by decide +kernel⟩, by decide +kernel, by decide⟩
theorem vX11_findsFar : okVc mX11_findsFar := ⟨gT5 (i := 156) (by decide +kernel) rfl, gTbl_in (i := 49) (by decide +kernel) rfl⟩
abbrev mX11_apartAt : Mt := (yX11_apartAt, cX11_apartAt, 5, some .int, 11)
theorem kX11_apartAt : okMc mX11_apartAt 1 := ⟨by decide +kernel, gT5 (i := 153) (by decide +kernel) rfl, gT1 (i := 12) (by decide +kernel) rfl, ⟨by decide +kernel, by decide +kernel⟩, by decide +kernel, by decide⟩
theorem vX11_apartAt : okVc mX11_apartAt := ⟨gT5 (i := 152) (by decide +kernel) rfl, gTbl_in (i := 48) (by decide +kernel) rfl⟩
abbrev mX11_longestAt : Mt := (yX11_longestAt, cX11_longestAt, 5, some .int, 11)
theorem kX11_longestAt : okMc mX11_longestAt 1 := ⟨by decide +kernel, gT5 (i := 166) (by decide +kernel) rfl, gT1 (i := 12) (by decide +kernel) rfl, ⟨by decide +kernel, by decide +kernel⟩, by decide +kernel, by decide⟩
theorem vX11_longestAt : okVc mX11_longestAt := ⟨gT5 (i := 165) (by decide +kernel) rfl, gTbl_in (i := 50) (by decide +kernel) rfl⟩
abbrev mX11_all : Mt := (yX11_all, cX11_all, 3, some .int, 11)
theorem kX11_all : okMc mX11_all 1 := ⟨by decide +kernel, gT5 (i := 149) (by decide +kernel) rfl, gT1 (i := 12) (by decide +kernel) rfl, ⟨by decide +kernel, by decide +kernel⟩, by decide +kernel, by decide⟩
theorem vX11_all : okVc mX11_all := ⟨gT5 (i := 147) (by decide +kernel) rfl, gT5 (i := 148) (by decide +kernel) rfl⟩
abbrev mX11_longest : Mt := (yX11_longest, cX11_longest, 3, some .int, 11)
theorem kX11_longest : okMc mX11_longest 1 := ⟨by decide +kernel, gT5 (i := 162) (by decide +kernel) rfl, gT1 (i := 12) (by decide +kernel) rfl, ⟨by decide +kernel, by decide +kernel⟩, by decide +kernel, by decide⟩
theorem vX11_longest : okVc mX11_longest := ⟨gT5 (i := 160) (by decide +kernel) rfl, gT5 (i := 161) (by decide +kernel) rfl⟩
abbrev mX11_apart : Mt := (yX11_apart, cX11_apart, 3, some .int, 11)
theorem kX11_apart : okMc mX11_apart 1 := ⟨by decide +kernel, gT5 (i := 170) (by decide +kernel) rfl, gT1 (i := 12) (by decide +kernel) rfl, ⟨by decide +kernel, by decide +kernel⟩, by decide +kernel, by decide⟩
theorem vX11_apart : okVc mX11_apart := ⟨gT5 (i := 168) (by decide +kernel) rfl, gT5 (i := 169) (by decide +kernel) rfl⟩
abbrev mX11_hang : Mt := (yX11_hang, cX11_hang, 8, some .int, 11)
theorem kX11_hang : okMc mX11_hang 2 := ⟨by decide +kernel, gT5 (i := 178) (by decide +kernel) rfl, gT1 (i := 12) (by decide +kernel) rfl, ⟨by decide +kernel, by decide +kernel⟩, by decide +kernel, by decide⟩
theorem vX11_hang : okVc mX11_hang := ⟨gT5 (i := 177) (by decide +kernel) rfl, gTbl_in (i := 51) (by decide +kernel) rfl⟩
abbrev mX11_isBridge : Mt := (yX11_isBridge, cX11_isBridge, 2, some .boolean, 11)
theorem kX11_isBridge : okMc mX11_isBridge 1 := ⟨by decide +kernel, gT5 (i := 186) (by decide +kernel) rfl, gT1 (i := 12) (by decide +kernel) rfl, ⟨by decide +kernel, by decide +kernel⟩, by decide +kernel, by decide⟩
theorem vX11_isBridge : okVc mX11_isBridge := ⟨gT5 (i := 185) (by decide +kernel) rfl, gTbl_in (i := 53) (by decide +kernel) rfl⟩
abbrev mX11_bridgeBits : Mt := (yX11_bridgeBits, cX11_bridgeBits, 3, some .int, 11)
theorem kX11_bridgeBits : okMc mX11_bridgeBits 0 := ⟨by decide +kernel, gT5 (i := 182) (by decide +kernel) rfl, gT1 (i := 12) (by decide +kernel) rfl, ⟨by decide +kernel, by decide +kernel⟩, by decide +kernel, by decide⟩
theorem vX11_bridgeBits : okVc mX11_bridgeBits := ⟨gT5 (i := 181) (by decide +kernel) rfl, gTbl_in (i := 52) (by decide +kernel) rfl⟩
abbrev mX11_can : Mt := (yX11_can, cX11_can, 1, some .int, 11)
theorem kX11_can : okMc mX11_can 0 := ⟨by decide +kernel, gT5 (i := 174) (by decide +kernel) rfl, gT1 (i := 12) (by decide +kernel) rfl, ⟨by decide +kernel, by decide +kernel⟩, by decide +kernel, by decide⟩
theorem vX11_can : okVc mX11_can := ⟨gT5 (i := 172) (by decide +kernel) rfl, gT5 (i := 173) (by decide +kernel) rfl⟩
abbrev mX11_bridges : Mt := (yX11_bridges, cX11_bridges, 1, some .int, 11)
theorem kX11_bridges : okMc mX11_bridges 0 := ⟨by decide +kernel, gT5 (i := 190) (by decide +kernel) rfl, gT1 (i := 12) (by decide +kernel) rfl, ⟨by decide +kernel, by decide +kernel⟩, by decide +kernel, by decide⟩
theorem vX11_bridges : okVc mX11_bridges := ⟨gT5 (i := 188) (by decide +kernel) rfl, gT5 (i := 189) (by decide +kernel) rfl⟩
abbrev mX11_walks : Mt := (yX11_walks, cX11_walks, 4, none, 11)
theorem kX11_walks : okMc mX11_walks 1 := ⟨by decide +kernel, gT5 (i := 198) (by decide +kernel) rfl, gT1 (i := 12) (by decide +kernel) rfl, ⟨by decide +kernel, by decide +kernel⟩, by decide +kernel, by decide⟩
theorem vX11_walks : okVc mX11_walks := ⟨gT5 (i := 197) (by decide +kernel) rfl, gTbl_in (i := 54) (by decide +kernel) rfl⟩
abbrev mX11_walk : Mt := (yX11_walk, cX11_walk, 1, some .int, 11)
theorem kX11_walk : okMc mX11_walk 0 := ⟨by decide +kernel, gT5 (i := 194) (by decide +kernel) rfl, gT1 (i := 12) (by decide +kernel) rfl, ⟨by decide +kernel, by decide +kernel⟩, by decide +kernel, by decide⟩
theorem vX11_walk : okVc mX11_walk := ⟨gT5 (i := 192) (by decide +kernel) rfl, gT5 (i := 193) (by decide +kernel) rfl⟩
abbrev mX11_costOf : Mt := (yX11_costOf, cX11_costOf, 4, some .int, 11)
theorem kX11_costOf : okMc mX11_costOf 0 := ⟨by decide +kernel, gT5 (i := 206) (by decide +kernel) rfl, gT1 (i := 12) (by decide +kernel) rfl, ⟨by decide +kernel, by decide +kernel⟩, by decide +kernel, by decide⟩
theorem vX11_costOf : okVc mX11_costOf := ⟨gT5 (i := 205) (by decide +kernel) rfl, gTbl_in (i := 55) (by decide +kernel) rfl⟩
abbrev mX11_cost : Mt := (yX11_cost, cX11_cost, 1, some .int, 11)
theorem kX11_cost : okMc mX11_cost 0 := ⟨by decide +kernel, gT5 (i := 202) (by decide +kernel) rfl, gT1 (i := 12) (by decide +kernel) rfl, ⟨by decide +kernel, by decide +kernel⟩, by decide +kernel, by decide⟩
theorem vX11_cost : okVc mX11_cost := ⟨gT5 (i := 200) (by decide +kernel) rfl, gT5 (i := 201) (by decide +kernel) rfl⟩
abbrev mX11_keepsMusts : Mt := (yX11_keepsMusts, cX11_keepsMusts, 3, some .boolean, 11)
theorem kX11_keepsMusts : okMc mX11_keepsMusts 1 := ⟨by decide +kernel, gT5 (i := 222) (by decide +kernel) rfl, gT1 (i := 12) (by decide +kernel) rfl, ⟨by decide +kernel, by decide +kernel⟩, by decide +kernel, by decide⟩
theorem vX11_keepsMusts : okVc mX11_keepsMusts := ⟨gT5 (i := 221) (by decide +kernel) rfl, gTbl_in (i := 58) (by decide +kernel) rfl⟩
abbrev mX11_wrongFew : Mt := (yX11_wrongFew, cX11_wrongFew, 1, some .int, 11)
theorem kX11_wrongFew : okMc mX11_wrongFew 0 := ⟨by decide +kernel, gT5 (i := 214) (by decide +kernel) rfl, gT1 (i := 12) (by decide +kernel) rfl, ⟨by decide +kernel, by decide +kernel⟩, by decide +kernel, by decide⟩
theorem vX11_wrongFew : okVc mX11_wrongFew := ⟨gT5 (i := 213) (by decide +kernel) rfl, gTbl_in (i := 56) (by decide +kernel) rfl⟩
abbrev mX11_bestOf : Mt := (yX11_bestOf, cX11_bestOf, 7, some .int, 11)
theorem kX11_bestOf : okMc mX11_bestOf 1 := ⟨by decide +kernel, gT5 (i := 218) (by decide +kernel) rfl, gT1 (i := 12) (by decide +kernel) rfl, ⟨by decide +kernel, by decide +kernel⟩, by decide +kernel, by decide⟩
theorem vX11_bestOf : okVc mX11_bestOf := ⟨gT5 (i := 217) (by decide +kernel) rfl, gTbl_in (i := 57) (by decide +kernel) rfl⟩
abbrev mX11_best : Mt := (yX11_best, cX11_best, 2, some .int, 11)
theorem kX11_best : okMc mX11_best 0 := ⟨by decide +kernel, gT5 (i := 210) (by decide +kernel) rfl, gT1 (i := 12) (by decide +kernel) rfl, ⟨by decide +kernel, by decide +kernel⟩, by decide +kernel, by decide⟩
theorem vX11_best : okVc mX11_best := ⟨gT5 (i := 208) (by decide +kernel) rfl, gT5 (i := 209) (by decide +kernel) rfl⟩
abbrev mX11_far : Mt := (yX11_far, cX11_far, 2, some .int, 11)
theorem kX11_far : okMc mX11_far 0 := ⟨by decide +kernel, gT5 (i := 226) (by decide +kernel) rfl, gT1 (i := 12) (by decide +kernel) rfl, ⟨by decide +kernel, by decide +kernel⟩, by decide +kernel, by decide⟩
theorem vX11_far : okVc mX11_far := ⟨gT5 (i := 224) (by decide +kernel) rfl, gT5 (i := 225) (by decide +kernel) rfl⟩
abbrev mX11_turning : Mt := (yX11_turning, cX11_turning, 8, some .int, 11)
theorem kX11_turning : okMc mX11_turning 0 := ⟨by decide +kernel, gT5 (i := 230) (by decide +kernel) rfl, gT1 (i := 12) (by decide +kernel) rfl, ⟨by decide +kernel, by decide +kernel⟩, by decide +kernel, by decide⟩
theorem vX11_turning : okVc mX11_turning := ⟨gT5 (i := 228) (by decide +kernel) rfl, gT5 (i := 229) (by decide +kernel) rfl⟩
abbrev mX11_bits : Mt := (yX11_bits, cX11_bits, 3, some .int, 11)
theorem kX11_bits : okMc mX11_bits 1 := ⟨by decide +kernel, gT5 (i := 237) (by decide +kernel) rfl, gT1 (i := 12) (by decide +kernel) rfl, ⟨by decide +kernel, by decide +kernel⟩, by decide +kernel, by decide⟩
theorem vX11_bits : Cond.static mX11_bits.1 ∈ gTbl := gT5 (i := 236) (by decide +kernel) rfl
abbrev mX11_bothWays : Mt := (yX11_bothWays, cX11_bothWays, 5, some .int, 11)
theorem kX11_bothWays : okMc mX11_bothWays 1 := ⟨by decide +kernel, gT5 (i := 234) (by decide +kernel) rfl, gT1 (i := 12) (by decide +kernel) rfl, ⟨by decide +kernel, by decide +kernel⟩, by decide +kernel, by decide⟩
theorem vX11_bothWays : okVc mX11_bothWays := ⟨gT5 (i := 232) (by decide +kernel) rfl, gT5 (i := 233) (by decide +kernel) rfl⟩
abbrev mX11_corner : Mt := (yX11_corner, cX11_corner, 3, some .int, 11)
theorem kX11_corner : okMc mX11_corner 1 := ⟨by decide +kernel, gT6 (i := 1) (by decide +kernel) rfl, gT1 (i := 12) (by decide +kernel) rfl, ⟨by decide +kernel, by decide +kernel⟩, by decide +kernel, by decide⟩
theorem vX11_corner : okVc mX11_corner := ⟨gT5 (i := 239) (by decide +kernel) rfl, gT6 (i := 0) (by decide +kernel) rfl⟩
abbrev mX11_along : Mt := (yX11_along, cX11_along, 6, some .int, 11)
theorem kX11_along : okMc mX11_along 2 := ⟨by decide +kernel, gT6 (i := 9) (by decide +kernel) rfl, gT1 (i := 12) (by decide +kernel) rfl, ⟨by decide +kernel, by decide +kernel⟩, by decide +kernel, by decide⟩
theorem vX11_along : okVc mX11_along := ⟨gT6 (i := 8) (by decide +kernel) rfl, gTbl_in (i := 59) (by decide +kernel) rfl⟩
abbrev mX11_procession : Mt := (yX11_procession, cX11_procession, 5, some .int, 11)
theorem kX11_procession : okMc mX11_procession 0 := ⟨by decide +kernel, gT6 (i := 5) (by decide +kernel) rfl, gT1 (i := 12) (by decide +kernel) rfl, ⟨by decide +kernel, by decide +kernel⟩, by decide +kernel, by decide⟩
theorem vX11_procession : okVc mX11_procession := ⟨gT6 (i := 3) (by decide +kernel) rfl, gT6 (i := 4) (by decide +kernel) rfl⟩
abbrev mX11_bestNoon : Mt := (yX11_bestNoon, cX11_bestNoon, 6, some .int, 11)
theorem kX11_bestNoon : okMc mX11_bestNoon 0 := ⟨by decide +kernel, gT6 (i := 13) (by decide +kernel) rfl, gT1 (i := 12) (by decide +kernel) rfl, ⟨by decide +kernel, by decide +kernel⟩, by decide +kernel, by decide⟩
theorem vX11_bestNoon : okVc mX11_bestNoon := ⟨gT6 (i := 11) (by decide +kernel) rfl, gT6 (i := 12) (by decide +kernel) rfl⟩
abbrev mX11_lives : Mt := (yX11_lives, cX11_lives, 5, some .int, 11)
theorem kX11_lives : okMc mX11_lives 0 := ⟨by decide +kernel, gT6 (i := 17) (by decide +kernel) rfl, gT1 (i := 12) (by decide +kernel) rfl, ⟨by decide +kernel, by decide +kernel⟩, by decide +kernel, by decide⟩
theorem vX11_lives : okVc mX11_lives := ⟨gT6 (i := 15) (by decide +kernel) rfl, gT6 (i := 16) (by decide +kernel) rfl⟩
abbrev mX11_stays : Mt := (yX11_stays, cX11_stays, 3, none, 11)
theorem kX11_stays : okMc mX11_stays 1 := ⟨by decide +kernel, gT6 (i := 29) (by decide +kernel) rfl, gT1 (i := 12) (by decide +kernel) rfl, ⟨by decide +kernel, by decide +kernel⟩, by decide +kernel, by decide⟩
theorem vX11_stays : okVc mX11_stays := ⟨gT6 (i := 28) (by decide +kernel) rfl, gTbl_in (i := 61) (by decide +kernel) rfl⟩
abbrev mX11_areMet : Mt := (yX11_areMet, cX11_areMet, 4, some .boolean, 11)
theorem kX11_areMet : okMc mX11_areMet 2 := ⟨by decide +kernel, gT6 (i := 25) (by decide +kernel) rfl, gT1 (i := 12) (by decide +kernel) rfl, ⟨by decide +kernel, by decide +kernel⟩, by decide +kernel, by decide⟩
theorem vX11_areMet : okVc mX11_areMet := ⟨gT6 (i := 24) (by decide +kernel) rfl, gTbl_in (i := 60) (by decide +kernel) rfl⟩
abbrev mX11_meets : Mt := (yX11_meets, cX11_meets, 3, some .int, 11)
theorem kX11_meets : okMc mX11_meets 2 := ⟨by decide +kernel, gT6 (i := 21) (by decide +kernel) rfl, gT1 (i := 12) (by decide +kernel) rfl, ⟨by decide +kernel, by decide +kernel⟩, by decide +kernel, by decide⟩
theorem vX11_meets : okVc mX11_meets := ⟨gT6 (i := 19) (by decide +kernel) rfl, gT6 (i := 20) (by decide +kernel) rfl⟩
abbrev mX11_pairs : Mt := (yX11_pairs, cX11_pairs, 4, some .int, 11)
theorem kX11_pairs : okMc mX11_pairs 0 := ⟨by decide +kernel, gT6 (i := 33) (by decide +kernel) rfl, gT1 (i := 12) (by decide +kernel) rfl, ⟨by decide +kernel, by decide +kernel⟩, by decide +kernel, by decide⟩
theorem vX11_pairs : okVc mX11_pairs := ⟨gT6 (i := 31) (by decide +kernel) rfl, gT6 (i := 32) (by decide +kernel) rfl⟩
abbrev mX11_isReached : Mt := (yX11_isReached, cX11_isReached, 5, some .boolean, 11)
theorem kX11_isReached : okMc mX11_isReached 3 := ⟨by decide +kernel, gT6 (i := 41) (by decide +kernel) rfl, gT1 (i := 12) (by decide +kernel) rfl, ⟨by decide +kernel, by decide +kernel⟩, by decide +kernel, by decide⟩
theorem vX11_isReached : okVc mX11_isReached := ⟨gT6 (i := 40) (by decide +kernel) rfl, gTbl_in (i := 62) (by decide +kernel) rfl⟩
abbrev mX11_lanes : Mt := (yX11_lanes, cX11_lanes, 7, some .int, 11)
theorem kX11_lanes : okMc mX11_lanes 3 := ⟨by decide +kernel, gT6 (i := 37) (by decide +kernel) rfl, gT1 (i := 12) (by decide +kernel) rfl, ⟨by decide +kernel, by decide +kernel⟩, by decide +kernel, by decide⟩
theorem vX11_lanes : okVc mX11_lanes := ⟨gT6 (i := 35) (by decide +kernel) rfl, gT6 (i := 36) (by decide +kernel) rfl⟩
abbrev mX11_shuts : Mt := (yX11_shuts, cX11_shuts, 5, some .int, 11)
theorem kX11_shuts : okMc mX11_shuts 1 := ⟨by decide +kernel, gT6 (i := 45) (by decide +kernel) rfl, gT1 (i := 12) (by decide +kernel) rfl, ⟨by decide +kernel, by decide +kernel⟩, by decide +kernel, by decide⟩
theorem vX11_shuts : okVc mX11_shuts := ⟨gT6 (i := 43) (by decide +kernel) rfl, gT6 (i := 44) (by decide +kernel) rfl⟩
abbrev mX11_days : Mt := (yX11_days, cX11_days, 8, some .int, 11)
theorem kX11_days : okMc mX11_days 2 := ⟨by decide +kernel, gT6 (i := 49) (by decide +kernel) rfl, gT1 (i := 12) (by decide +kernel) rfl, ⟨by decide +kernel, by decide +kernel⟩, by decide +kernel, by decide⟩
theorem vX11_days : okVc mX11_days := ⟨gT6 (i := 47) (by decide +kernel) rfl, gT6 (i := 48) (by decide +kernel) rfl⟩
abbrev mX11_judge : Mt := (yX11_judge, cX11_judge, 3, some .int, 11)
theorem kX11_judge : okMc mX11_judge 0 := ⟨by decide +kernel, gT6 (i := 56) (by decide +kernel) rfl, gT1 (i := 12) (by decide +kernel) rfl, ⟨by decide +kernel, by decide +kernel⟩, by decide +kernel, by decide⟩
theorem vX11_judge : okVc mX11_judge := ⟨gT6 (i := 54) (by decide +kernel) rfl, gT6 (i := 55) (by decide +kernel) rfl⟩
abbrev mX11_image : Mt := (yX11_image, cX11_image, 2, some .int, 11)
theorem kX11_image : okMc mX11_image 0 := ⟨by decide +kernel, gT6 (i := 60) (by decide +kernel) rfl, gT1 (i := 12) (by decide +kernel) rfl, ⟨by decide +kernel, by decide +kernel⟩, by decide +kernel, by decide⟩
theorem vX11_image : okVc mX11_image := ⟨gT6 (i := 58) (by decide +kernel) rfl, gT6 (i := 59) (by decide +kernel) rfl⟩
abbrev mX11_on : Mt := (yX11_on, cX11_on, 2, some .int, 11)
theorem kX11_on : okMc mX11_on 0 := ⟨by decide +kernel, gT6 (i := 64) (by decide +kernel) rfl, gT1 (i := 12) (by decide +kernel) rfl, ⟨by decide +kernel, by decide +kernel⟩, by decide +kernel, by decide⟩
theorem vX11_on : okVc mX11_on := ⟨gT6 (i := 62) (by decide +kernel) rfl, gT6 (i := 63) (by decide +kernel) rfl⟩
abbrev mX11_count : Mt := (yX11_count, cX11_count, 4, some .int, 11)
theorem kX11_count : okMc mX11_count 1 := ⟨by decide +kernel, gT6 (i := 68) (by decide +kernel) rfl, gT1 (i := 12) (by decide +kernel) rfl, ⟨by decide +kernel, by decide +kernel⟩, by decide +kernel, by decide⟩
theorem vX11_count : okVc mX11_count := ⟨gT6 (i := 66) (by decide +kernel) rfl, gT6 (i := 67) (by decide +kernel) rfl⟩
abbrev mJ6_bitCount_0f7a4 : Mt := (yJ6_bitCount_0f7a4, cJ6_bitCount_0f7a4, 1, some .int, 13)
theorem kJ6_bitCount_0f7a4 : okMc mJ6_bitCount_0f7a4 1 := ⟨by decide +kernel, gT4 (i := 52) (by decide +kernel) rfl, gT1 (i := 16) (by decide +kernel) rfl, ⟨by decide +kernel, by decide +kernel⟩, by decide +kernel, by decide⟩
theorem vJ6_bitCount_0f7a4 : Cond.static mJ6_bitCount_0f7a4.1 ∈ gTbl := gT4 (i := 51) (by decide +kernel) rfl
abbrev mJ7_fill_53178 : Mt := (yJ7_fill_53178, cJ7_fill_53178, 4, none, 16)
theorem kJ7_fill_53178 : okMc mJ7_fill_53178 2 := ⟨by decide +kernel, gT3 (i := 70) (by decide +kernel) rfl, gT1 (i := 15) (by decide +kernel) rfl, ⟨by decide +kernel, by decide +kernel⟩, by decide +kernel, by decide⟩
theorem vJ7_fill_53178 : Cond.static mJ7_fill_53178.1 ∈ gTbl := gT3 (i := 69) (by decide +kernel) rfl
abbrev mL_law : Mt := (yL_law, cL_law, 4, some .boolean, 12)
theorem lkL_15 : Cond.methodLink RL 15 yX10_feed ∈ gTbl := gT2 (i := 140) (by decide +kernel) rfl
theorem lkX10_98 : Cond.methodLink RX10 98 yX10_refuse ∈ gTbl := gT2 (i := 144) (by decide +kernel) rfl
theorem lkX10_106 : Cond.methodLink RX10 106 yX5_add ∈ gTbl := gT2 (i := 148) (by decide +kernel) rfl
theorem lkL_20 : Cond.methodLink RL 20 yX10_town ∈ gTbl := gT2 (i := 152) (by decide +kernel) rfl
theorem lkX10_110 : Cond.methodLink RX10 110 yX3_readInto ∈ gTbl := gT2 (i := 156) (by decide +kernel) rfl
theorem lkX3_26 : Cond.methodLink RX3 26 yX3_statementsWritten ∈ gTbl := gT2 (i := 160) (by decide +kernel) rfl
theorem lkX3_38 : Cond.methodLink RX3 38 yX3_readStatement ∈ gTbl := gT2 (i := 164) (by decide +kernel) rfl
theorem lkX3_53 : Cond.methodLink RX3 53 yX5_byteAt ∈ gTbl := gT2 (i := 168) (by decide +kernel) rfl
theorem lkX3_60 : Cond.methodLink RX3 60 yX3_number ∈ gTbl := gT2 (i := 172) (by decide +kernel) rfl
theorem lkX3_71 : Cond.methodLink RX3 71 yX3_isDigit ∈ gTbl := gT2 (i := 176) (by decide +kernel) rfl
theorem lkX3_64 : Cond.methodLink RX3 64 yX3_sign ∈ gTbl := gT2 (i := 179) (by decide +kernel) rfl
theorem lkX3_68 : Cond.methodLink RX3 68 yX3_broadOrNot ∈ gTbl := gT2 (i := 183) (by decide +kernel) rfl
theorem lkX3_30 : Cond.methodLink RX3 30 yX6_takeFrom ∈ gTbl := gT2 (i := 187) (by decide +kernel) rfl
theorem lkX6_64 : Cond.methodLink RX6 64 arraycopyName ∈ gTbl := gT2 (i := 191) (by decide +kernel) rfl
theorem lkX3_42 : Cond.methodLink RX3 42 yX3_tell ∈ gTbl := gT2 (i := 194) (by decide +kernel) rfl
theorem lkX3_79 : Cond.methodLink RX3 79 yX6_tellCorners ∈ gTbl := gT2 (i := 198) (by decide +kernel) rfl
theorem lkX6_70 : Cond.methodLink RX6 70 yX6_cornersToldOf ∈ gTbl := gT2 (i := 202) (by decide +kernel) rfl
theorem lkX6_74 : Cond.methodLink RX6 74 Lib.Math.max.name ∈ gTbl := gT2 (i := 206) (by decide +kernel) rfl
theorem lkX3_82 : Cond.methodLink RX3 82 yX6_tellStreet ∈ gTbl := gT2 (i := 209) (by decide +kernel) rfl
theorem lkX6_84 : Cond.methodLink RX6 84 yX6_areTwoCorners ∈ gTbl := gT2 (i := 213) (by decide +kernel) rfl
theorem lkX6_80 : Cond.methodLink RX6 80 yX6_hasCorner ∈ gTbl := gT2 (i := 217) (by decide +kernel) rfl
theorem lkX3_86 : Cond.methodLink RX3 86 yX6_tellErrand ∈ gTbl := gT2 (i := 221) (by decide +kernel) rfl
theorem lkX3_90 : Cond.methodLink RX3 90 yX6_tellMust ∈ gTbl := gT2 (i := 225) (by decide +kernel) rfl
theorem lkX6_88 : Cond.methodLink RX6 88 yX6_hasStreet ∈ gTbl := gT2 (i := 229) (by decide +kernel) rfl
theorem lkL_25 : Cond.methodLink RL 25 yX10_street ∈ gTbl := gT2 (i := 233) (by decide +kernel) rfl
theorem lkX10_114 : Cond.methodLink RX10 114 yX6_hasStreet ∈ gTbl := gT2 (i := 237) (by decide +kernel) rfl
theorem lkX10_130 : Cond.methodLink RX10 130 yX10_bitOf ∈ gTbl := gT2 (i := 238) (by decide +kernel) rfl
theorem lkL_30 : Cond.methodLink RL 30 yX10_errand ∈ gTbl := gT3 (i := 1) (by decide +kernel) rfl
theorem lkX10_140 : Cond.methodLink RX10 140 yX6_hasErrand ∈ gTbl := gT3 (i := 5) (by decide +kernel) rfl
theorem lkL_34 : Cond.methodLink RL 34 yX10_set ∈ gTbl := gT3 (i := 9) (by decide +kernel) rfl
theorem lkL_38 : Cond.methodLink RL 38 yX10_point ∈ gTbl := gT3 (i := 17) (by decide +kernel) rfl
theorem lkL_43 : Cond.methodLink RL 43 yX10_shut ∈ gTbl := gT3 (i := 21) (by decide +kernel) rfl
theorem lkL_48 : Cond.methodLink RL 48 yX10_way ∈ gTbl := gT3 (i := 25) (by decide +kernel) rfl
theorem lkX10_170 : Cond.methodLink RX10 170 yX10_refusalOfMinute ∈ gTbl := gT3 (i := 29) (by decide +kernel) rfl
theorem lkX10_173 : Cond.methodLink RX10 173 yX7_takeAsItIs ∈ gTbl := gT3 (i := 33) (by decide +kernel) rfl
theorem lkX7_35 : Cond.methodLink RX7 35 yX7_openBothWays ∈ gTbl := gT3 (i := 37) (by decide +kernel) rfl
theorem lkX7_42 : Cond.methodLink RX7 42 yX7_pointAs ∈ gTbl := gT3 (i := 41) (by decide +kernel) rfl
theorem lkX10_176 : Cond.methodLink RX10 176 yX7_standAt ∈ gTbl := gT3 (i := 45) (by decide +kernel) rfl
theorem lkX10_179 : Cond.methodLink RX10 179 yX7_wayOf ∈ gTbl := gT3 (i := 49) (by decide +kernel) rfl
theorem lkX7_63 : Cond.methodLinkNest RX7 63 yX10_bitOf "OneWayTillNoon" ∈ lw_tbl := lT3 (i := 53) (by decide +kernel)
theorem lkL_52 : Cond.methodLink RL 52 yX10_soonest ∈ gTbl := gT3 (i := 54) (by decide +kernel) rfl
theorem lkX10_182 : Cond.methodLink RX10 182 yX10_refusalOfWay ∈ gTbl := gT3 (i := 58) (by decide +kernel) rfl
theorem lkX10_241 : Cond.methodLink RX10 241 yX6_hasCorner ∈ gTbl := gT3 (i := 62) (by decide +kernel) rfl
theorem lkX10_186 : Cond.methodLink RX10 186 yX8_setOut ∈ gTbl := gT3 (i := 63) (by decide +kernel) rfl
theorem lkX8_24 : Cond.methodLink RX8 24 yJ7_fill_53178 ∈ gTbl := gT3 (i := 68) (by decide +kernel) rfl
theorem lkX8_39 : Cond.methodLink RX8 39 yX8_soonestUnsettled ∈ gTbl := gT3 (i := 71) (by decide +kernel) rfl
theorem lkX8_47 : Cond.methodLinkNest RX8 47 yX10_bitOf "OneWayTillNoon" ∈ lw_tbl := lT3 (i := 75) (by decide +kernel)
theorem lkX8_43 : Cond.methodLink RX8 43 yX8_goOnFrom ∈ gTbl := gT3 (i := 76) (by decide +kernel) rfl
theorem lkX8_51 : Cond.methodLink RX8 51 yX7_standAt ∈ gTbl := gT3 (i := 80) (by decide +kernel) rfl
theorem lkX8_65 : Cond.methodLink RX8 65 yX7_entryOf ∈ gTbl := gT3 (i := 81) (by decide +kernel) rfl
theorem lkX8_68 : Cond.methodLink RX8 68 yX8_goAlong ∈ gTbl := gT3 (i := 85) (by decide +kernel) rfl
theorem lkX8_75 : Cond.methodLink RX8 75 Lib.Math.min.name ∈ gTbl := gT3 (i := 89) (by decide +kernel) rfl
theorem lkX10_190 : Cond.methodLink RX10 190 yX8_minuteAt ∈ gTbl := gT3 (i := 92) (by decide +kernel) rfl
theorem lkL_57 : Cond.methodLink RL 57 yX10_waited ∈ gTbl := gT3 (i := 96) (by decide +kernel) rfl
theorem lkX10_193 : Cond.methodLink RX10 193 yX4_trace ∈ gTbl := gT3 (i := 100) (by decide +kernel) rfl
theorem lkX4_36 : Cond.methodLink RX4 36 yX8_setOut ∈ gTbl := gT3 (i := 104) (by decide +kernel) rfl
theorem lkX4_46 : Cond.methodLink RX4 46 yX8_minuteAt ∈ gTbl := gT3 (i := 105) (by decide +kernel) rfl
theorem lkX4_50 : Cond.methodLink RX4 50 yX4_traceBack ∈ gTbl := gT3 (i := 106) (by decide +kernel) rfl
theorem lkX4_64 : Cond.methodLink RX4 64 yX4_cameBy ∈ gTbl := gT3 (i := 110) (by decide +kernel) rfl
theorem lkX4_68 : Cond.methodLink RX4 68 yX7_standAt ∈ gTbl := gT3 (i := 114) (by decide +kernel) rfl
theorem lkX4_74 : Cond.methodLink RX4 74 yX7_entryOf ∈ gTbl := gT3 (i := 115) (by decide +kernel) rfl
theorem lkX10_196 : Cond.methodLink RX10 196 yX4_minutesWaited ∈ gTbl := gT3 (i := 116) (by decide +kernel) rfl
theorem lkL_61 : Cond.methodLink RL 61 yX10_road ∈ gTbl := gT3 (i := 120) (by decide +kernel) rfl
theorem lkX10_201 : Cond.methodLink RX10 201 yX4_streetAt ∈ gTbl := gT3 (i := 124) (by decide +kernel) rfl
theorem lkL_66 : Cond.methodLink RL 66 yX10_all ∈ gTbl := gT3 (i := 128) (by decide +kernel) rfl
theorem lkX10_204 : Cond.methodLink RX10 204 yX10_freezeAsItIs ∈ gTbl := gT3 (i := 132) (by decide +kernel) rfl
theorem lkX10_250 : Cond.methodLink RX10 250 yX0_lay ∈ gTbl := gT3 (i := 136) (by decide +kernel) rfl
theorem lkX0_25 : Cond.methodLink RX0 25 yJ7_fill_53178 ∈ gTbl := gT3 (i := 141) (by decide +kernel) rfl
theorem lkX0_31 : Cond.methodLink RX0 31 yX7_standAt ∈ gTbl := gT3 (i := 142) (by decide +kernel) rfl
theorem lkX0_43 : Cond.methodLink RX0 43 yX7_wayOf ∈ gTbl := gT3 (i := 143) (by decide +kernel) rfl
theorem lkX0_57 : Cond.methodLink RX0 57 yX0_layStep ∈ gTbl := gT3 (i := 144) (by decide +kernel) rfl
theorem lkX0_61 : Cond.methodLink RX0 61 Lib.Math.min.name ∈ gTbl := gT3 (i := 148) (by decide +kernel) rfl
theorem lkX10_306 : Cond.methodLink RX10 306 yX0_join ∈ gTbl := gT3 (i := 149) (by decide +kernel) rfl
theorem lkX0_70 : Cond.methodLink RX0 70 yX0_joinBy ∈ gTbl := gT3 (i := 153) (by decide +kernel) rfl
theorem lkX10_207 : Cond.methodLink RX10 207 yX0_pairsApart ∈ gTbl := gT3 (i := 157) (by decide +kernel) rfl
theorem lkX0_74 : Cond.methodLink RX0 74 yX0_isApart ∈ gTbl := gT3 (i := 161) (by decide +kernel) rfl
theorem lkL_70 : Cond.methodLink RL 70 yX10_longest ∈ gTbl := gT3 (i := 165) (by decide +kernel) rfl
theorem lkX10_210 : Cond.methodLink RX10 210 yX0_farthest ∈ gTbl := gT3 (i := 169) (by decide +kernel) rfl
theorem lkX0_78 : Cond.methodLink RX0 78 Lib.Math.max.name ∈ gTbl := gT3 (i := 173) (by decide +kernel) rfl
theorem lkL_74 : Cond.methodLink RL 74 yX10_apart ∈ gTbl := gT3 (i := 174) (by decide +kernel) rfl
theorem lkL_78 : Cond.methodLink RL 78 yX10_can ∈ gTbl := gT3 (i := 178) (by decide +kernel) rfl
theorem lkX10_213 : Cond.methodLink RX10 213 yX2_hangsTogether ∈ gTbl := gT3 (i := 182) (by decide +kernel) rfl
theorem lkX2_22 : Cond.methodLink RX2 22 yX2_cornersFrom ∈ gTbl := gT3 (i := 186) (by decide +kernel) rfl
theorem lkX10_217 : Cond.methodLink RX10 217 yX2_bridgeOnes ∈ gTbl := gT3 (i := 190) (by decide +kernel) rfl
theorem lkX2_41 : Cond.methodLinkNest RX2 41 yX10_bitOf "OneWayTillNoon" ∈ lw_tbl := lT3 (i := 194) (by decide +kernel)
theorem lkL_82 : Cond.methodLink RL 82 yX10_bridges ∈ gTbl := gT3 (i := 195) (by decide +kernel) rfl
theorem lkL_86 : Cond.methodLink RL 86 yX10_walk ∈ gTbl := gT3 (i := 199) (by decide +kernel) rfl
theorem lkX10_220 : Cond.methodLink RX10 220 yX2_walkThrough ∈ gTbl := gT3 (i := 203) (by decide +kernel) rfl
theorem lkX2_44 : Cond.methodLink RX2 44 yJ7_fill_53178 ∈ gTbl := gT3 (i := 207) (by decide +kernel) rfl
theorem lkX2_50 : Cond.methodLink RX2 50 yX2_otherEnd ∈ gTbl := gT3 (i := 208) (by decide +kernel) rfl
theorem lkL_90 : Cond.methodLink RL 90 yX10_cost ∈ gTbl := gT3 (i := 212) (by decide +kernel) rfl
theorem lkX10_223 : Cond.methodLink RX10 223 yX1_total ∈ gTbl := gT3 (i := 216) (by decide +kernel) rfl
theorem lkX1_20 : Cond.methodLink RX1 20 yX1_totalUpTo ∈ gTbl := gT3 (i := 221) (by decide +kernel) rfl
theorem lkX1_43 : Cond.methodLink RX1 43 yX1_minutesOf ∈ gTbl := gT3 (i := 225) (by decide +kernel) rfl
theorem lkX1_47 : Cond.methodLink RX1 47 yX8_setOut ∈ gTbl := gT3 (i := 229) (by decide +kernel) rfl
theorem lkX1_53 : Cond.methodLink RX1 53 yX8_minuteAt ∈ gTbl := gT3 (i := 230) (by decide +kernel) rfl
theorem lkL_94 : Cond.methodLink RL 94 yX10_best ∈ gTbl := gT3 (i := 231) (by decide +kernel) rfl
theorem lkX10_226 : Cond.methodLink RX10 226 yX10_refusalOfTrying ∈ gTbl := gT3 (i := 235) (by decide +kernel) rfl
theorem lkX10_229 : Cond.methodLink RX10 229 yX9_cheapestPointing ∈ gTbl := gT3 (i := 239) (by decide +kernel) rfl
theorem lkX9_38 : Cond.methodLink RX9 38 yX6_firstMustUnkept ∈ gTbl := gT4 (i := 4) (by decide +kernel) rfl
theorem lkX6_91 : Cond.methodLinkNest RX6 91 yX10_bitOf "OneWayTillNoon" ∈ lw_tbl := lT4 (i := 8) (by decide +kernel)
theorem lkX6_94 : Cond.methodLink RX6 94 yX6_mustLets ∈ gTbl := gT4 (i := 9) (by decide +kernel) rfl
theorem lkX9_42 : Cond.methodLink RX9 42 yX7_pointAs ∈ gTbl := gT4 (i := 13) (by decide +kernel) rfl
theorem lkX9_48 : Cond.methodLink RX9 48 yX1_totalUpTo ∈ gTbl := gT4 (i := 14) (by decide +kernel) rfl
theorem lkL_98 : Cond.methodLink RL 98 yX10_far ∈ gTbl := gT4 (i := 15) (by decide +kernel) rfl
theorem lkX10_232 : Cond.methodLink RX10 232 yX9_nearestPointing ∈ gTbl := gT4 (i := 19) (by decide +kernel) rfl
theorem lkX9_53 : Cond.methodLink RX9 53 yX0_lay ∈ gTbl := gT4 (i := 23) (by decide +kernel) rfl
theorem lkX9_58 : Cond.methodLink RX9 58 yX0_join ∈ gTbl := gT4 (i := 24) (by decide +kernel) rfl
theorem lkX9_61 : Cond.methodLink RX9 61 yX0_farthest ∈ gTbl := gT4 (i := 25) (by decide +kernel) rfl
theorem lkL_102 : Cond.methodLink RL 102 yX10_turning ∈ gTbl := gT4 (i := 26) (by decide +kernel) rfl
theorem lkX10_235 : Cond.methodLink RX10 235 yX9_turnedPointing ∈ gTbl := gT4 (i := 30) (by decide +kernel) rfl
theorem lkX9_68 : Cond.methodLinkNest RX9 68 yX10_bitOf "OneWayTillNoon" ∈ lw_tbl := lT4 (i := 34) (by decide +kernel)
theorem lkX9_72 : Cond.methodLink RX9 72 yX6_mustLets ∈ gTbl := gT4 (i := 35) (by decide +kernel) rfl
theorem lkL_106 : Cond.methodLink RL 106 yX10_bothWays ∈ gTbl := gT4 (i := 36) (by decide +kernel) rfl
theorem lkX10_238 : Cond.methodLink RX10 238 yX9_fewestForCost ∈ gTbl := gT4 (i := 40) (by decide +kernel) rfl
theorem lkX9_76 : Cond.methodLink RX9 76 Lib.Math.min.name ∈ gTbl := gT4 (i := 44) (by decide +kernel) rfl
theorem lkX9_81 : Cond.methodLink RX9 81 yX7_openBothWays ∈ gTbl := gT4 (i := 45) (by decide +kernel) rfl
theorem lkX9_84 : Cond.methodLink RX9 84 yX9_nextByFewest ∈ gTbl := gT4 (i := 46) (by decide +kernel) rfl
theorem lkX9_103 : Cond.methodLink RX9 103 yJ6_bitCount_0f7a4 ∈ gTbl := gT4 (i := 50) (by decide +kernel) rfl
theorem lkL_110 : Cond.methodLink RL 110 yX10_corner ∈ gTbl := gT4 (i := 56) (by decide +kernel) rfl
theorem lkL_114 : Cond.methodLink RL 114 yX10_procession ∈ gTbl := gT4 (i := 60) (by decide +kernel) rfl
theorem lkX10_253 : Cond.methodLink RX10 253 yX0_roundOfRow ∈ gTbl := gT4 (i := 64) (by decide +kernel) rfl
theorem lkL_118 : Cond.methodLink RL 118 yX10_bestNoon ∈ gTbl := gT4 (i := 68) (by decide +kernel) rfl
theorem lkX10_256 : Cond.methodLink RX10 256 yX9_cheapestNoon ∈ gTbl := gT4 (i := 72) (by decide +kernel) rfl
theorem lkX9_108 : Cond.methodLink RX9 108 yX7_turnAt ∈ gTbl := gT4 (i := 76) (by decide +kernel) rfl
theorem lkL_122 : Cond.methodLink RL 122 yX10_lives ∈ gTbl := gT4 (i := 80) (by decide +kernel) rfl
theorem lkX10_259 : Cond.methodLink RX10 259 yX1_cheapestHome ∈ gTbl := gT4 (i := 84) (by decide +kernel) rfl
theorem lkL_126 : Cond.methodLink RL 126 yX10_meets ∈ gTbl := gT4 (i := 88) (by decide +kernel) rfl
theorem lkX10_262 : Cond.methodLink RX10 262 yX10_traceErrand ∈ gTbl := gT4 (i := 92) (by decide +kernel) rfl
theorem lkX10_265 : Cond.methodLink RX10 265 yX4_crosses ∈ gTbl := gT4 (i := 96) (by decide +kernel) rfl
theorem lkL_130 : Cond.methodLink RL 130 yX10_pairs ∈ gTbl := gT4 (i := 100) (by decide +kernel) rfl
theorem lkL_134 : Cond.methodLink RL 134 yX10_lanes ∈ gTbl := gT4 (i := 104) (by decide +kernel) rfl
theorem lkX10_272 : Cond.methodLink RX10 272 yX9_fewestForReach ∈ gTbl := gT4 (i := 108) (by decide +kernel) rfl
theorem lkX9_87 : Cond.methodLink RX9 87 yX8_setOut ∈ gTbl := gT4 (i := 112) (by decide +kernel) rfl
theorem lkX9_93 : Cond.methodLink RX9 93 yX9_allReachedBy ∈ gTbl := gT4 (i := 113) (by decide +kernel) rfl
theorem lkX9_100 : Cond.methodLink RX9 100 yX8_minuteAt ∈ gTbl := gT4 (i := 117) (by decide +kernel) rfl
theorem lkL_138 : Cond.methodLink RL 138 yX10_shuts ∈ gTbl := gT4 (i := 118) (by decide +kernel) rfl
theorem lkX10_276 : Cond.methodLink RX10 276 yX7_shutAlso ∈ gTbl := gT4 (i := 123) (by decide +kernel) rfl
theorem lkL_142 : Cond.methodLink RL 142 yX10_days ∈ gTbl := gT4 (i := 127) (by decide +kernel) rfl
theorem lkX10_279 : Cond.methodLink RX10 279 yX1_totalOfDays ∈ gTbl := gT4 (i := 131) (by decide +kernel) rfl
theorem lkX1_62 : Cond.methodLink RX1 62 yX1_drawBelow ∈ gTbl := gT4 (i := 135) (by decide +kernel) rfl
theorem lkL_146 : Cond.methodLink RL 146 yX10_judge ∈ gTbl := gT4 (i := 142) (by decide +kernel) rfl
theorem lkX10_282 : Cond.methodLink RX10 282 yX6_firstMustUnkept ∈ gTbl := gT4 (i := 146) (by decide +kernel) rfl
theorem lkX10_285 : Cond.methodLink RX10 285 yX0_firstApart ∈ gTbl := gT4 (i := 147) (by decide +kernel) rfl
theorem lkL_150 : Cond.methodLink RL 150 yX10_image ∈ gTbl := gT4 (i := 151) (by decide +kernel) rfl
theorem lkX10_288 : Cond.methodLink RX10 288 yX6_takeFrom ∈ gTbl := gT4 (i := 155) (by decide +kernel) rfl
theorem lkL_154 : Cond.methodLink RL 154 yX10_on ∈ gTbl := gT4 (i := 156) (by decide +kernel) rfl
theorem lkL_158 : Cond.methodLink RL 158 yX10_count ∈ gTbl := gT4 (i := 160) (by decide +kernel) rfl
theorem lkX10_298 : Cond.methodLink RX10 298 yJ6_bitCount_0f7a4 ∈ gTbl := gT4 (i := 164) (by decide +kernel) rfl
theorem lkX10_303 : Cond.methodLink RX10 303 yX6_mustsTold ∈ gTbl := gT4 (i := 165) (by decide +kernel) rfl
theorem lkL_19 : Cond.methodLink RL 19 yX11_feed ∈ gTbl := gT5 (i := 12) (by decide +kernel) rfl
theorem lkX11_66 : Cond.methodLink RX11 66 yX11_refuse ∈ gTbl := gT5 (i := 16) (by decide +kernel) rfl
theorem lkL_24 : Cond.methodLink RL 24 yX11_town ∈ gTbl := gT5 (i := 21) (by decide +kernel) rfl
theorem lkX11_100 : Cond.methodLink RX11 100 yX11_reads ∈ gTbl := gT5 (i := 25) (by decide +kernel) rfl
theorem lkX11_93 : Cond.methodLink RX11 93 yX11_readsStatement ∈ gTbl := gT5 (i := 29) (by decide +kernel) rfl
theorem lkX11_79 : Cond.methodLink RX11 79 yX11_sign ∈ gTbl := gT5 (i := 33) (by decide +kernel) rfl
theorem lkX11_83 : Cond.methodLink RX11 83 yX11_readsNumber ∈ gTbl := gT5 (i := 37) (by decide +kernel) rfl
theorem lkX11_86 : Cond.methodLink RX11 86 yX11_takes ∈ gTbl := gT5 (i := 41) (by decide +kernel) rfl
theorem lkX11_97 : Cond.methodLink RX11 97 yX11_comes ∈ gTbl := gT5 (i := 45) (by decide +kernel) rfl
theorem lkX11_90 : Cond.methodLink RX11 90 yX11_toldOf ∈ gTbl := gT5 (i := 49) (by decide +kernel) rfl
theorem lkL_29 : Cond.methodLink RL 29 yX11_street ∈ gTbl := gT5 (i := 53) (by decide +kernel) rfl
theorem lkX11_103 : Cond.methodLink RX11 103 yX11_isStreet ∈ gTbl := gT5 (i := 57) (by decide +kernel) rfl
theorem lkX11_62 : Cond.methodLink RX11 62 yX11_isIn ∈ gTbl := gT5 (i := 61) (by decide +kernel) rfl
theorem lkX11_106 : Cond.methodLink RX11 106 yX11_get ∈ gTbl := gT5 (i := 64) (by decide +kernel) rfl
theorem lkL_33 : Cond.methodLink RL 33 yX11_errand ∈ gTbl := gT5 (i := 68) (by decide +kernel) rfl
theorem lkX11_110 : Cond.methodLink RX11 110 yX11_isErrand ∈ gTbl := gT5 (i := 72) (by decide +kernel) rfl
theorem lkX11_113 : Cond.methodLink RX11 113 yX11_of ∈ gTbl := gT5 (i := 76) (by decide +kernel) rfl
theorem lkL_37 : Cond.methodLink RL 37 yX11_set ∈ gTbl := gT5 (i := 80) (by decide +kernel) rfl
theorem lkX11_116 : Cond.methodLink RX11 116 yX11_most ∈ gTbl := gT5 (i := 84) (by decide +kernel) rfl
theorem lkX11_119 : Cond.methodLink RX11 119 yX11_within ∈ gTbl := gT5 (i := 87) (by decide +kernel) rfl
theorem lkX11_123 : Cond.methodLink RX11 123 yX11_becomes ∈ gTbl := gT5 (i := 90) (by decide +kernel) rfl
theorem lkL_42 : Cond.methodLink RL 42 yX11_point ∈ gTbl := gT5 (i := 94) (by decide +kernel) rfl
theorem lkL_47 : Cond.methodLink RL 47 yX11_shut ∈ gTbl := gT5 (i := 98) (by decide +kernel) rfl
theorem lkL_51 : Cond.methodLink RL 51 yX11_way ∈ gTbl := gT5 (i := 102) (by decide +kernel) rfl
theorem lkX11_126 : Cond.methodLink RX11 126 yX11_wayOf ∈ gTbl := gT5 (i := 106) (by decide +kernel) rfl
theorem lkL_56 : Cond.methodLink RL 56 yX11_soonest ∈ gTbl := gT5 (i := 110) (by decide +kernel) rfl
theorem lkX11_139 : Cond.methodLink RX11 139 yX11_wrongWay ∈ gTbl := gT5 (i := 114) (by decide +kernel) rfl
theorem lkX11_136 : Cond.methodLink RX11 136 yX11_isCorner ∈ gTbl := gT5 (i := 118) (by decide +kernel) rfl
theorem lkX11_142 : Cond.methodLink RX11 142 yX11_finds ∈ gTbl := gT5 (i := 122) (by decide +kernel) rfl
theorem lkX11_133 : Cond.methodLink RX11 133 yX11_enters ∈ gTbl := gT5 (i := 126) (by decide +kernel) rfl
theorem lkX11_129 : Cond.methodLink RX11 129 yX11_goesFrom ∈ gTbl := gT5 (i := 130) (by decide +kernel) rfl
theorem lkL_60 : Cond.methodLink RL 60 yX11_waited ∈ gTbl := gT5 (i := 134) (by decide +kernel) rfl
theorem lkX11_152 : Cond.methodLink RX11 152 yX11_findsRoad ∈ gTbl := gT5 (i := 138) (by decide +kernel) rfl
theorem lkL_65 : Cond.methodLink RL 65 yX11_road ∈ gTbl := gT5 (i := 142) (by decide +kernel) rfl
theorem lkL_69 : Cond.methodLink RL 69 yX11_all ∈ gTbl := gT5 (i := 146) (by decide +kernel) rfl
theorem lkX11_160 : Cond.methodLink RX11 160 yX11_apartAt ∈ gTbl := gT5 (i := 150) (by decide +kernel) rfl
theorem lkX11_156 : Cond.methodLink RX11 156 yX11_findsFar ∈ gTbl := gT5 (i := 154) (by decide +kernel) rfl
theorem lkL_73 : Cond.methodLink RL 73 yX11_longest ∈ gTbl := gT5 (i := 159) (by decide +kernel) rfl
theorem lkX11_163 : Cond.methodLink RX11 163 yX11_longestAt ∈ gTbl := gT5 (i := 163) (by decide +kernel) rfl
theorem lkL_77 : Cond.methodLink RL 77 yX11_apart ∈ gTbl := gT5 (i := 167) (by decide +kernel) rfl
theorem lkL_81 : Cond.methodLink RL 81 yX11_can ∈ gTbl := gT5 (i := 171) (by decide +kernel) rfl
theorem lkX11_166 : Cond.methodLink RX11 166 yX11_hang ∈ gTbl := gT5 (i := 175) (by decide +kernel) rfl
theorem lkX11_172 : Cond.methodLink RX11 172 yX11_bridgeBits ∈ gTbl := gT5 (i := 179) (by decide +kernel) rfl
theorem lkX11_169 : Cond.methodLink RX11 169 yX11_isBridge ∈ gTbl := gT5 (i := 183) (by decide +kernel) rfl
theorem lkL_85 : Cond.methodLink RL 85 yX11_bridges ∈ gTbl := gT5 (i := 187) (by decide +kernel) rfl
theorem lkL_89 : Cond.methodLink RL 89 yX11_walk ∈ gTbl := gT5 (i := 191) (by decide +kernel) rfl
theorem lkX11_184 : Cond.methodLink RX11 184 yX11_walks ∈ gTbl := gT5 (i := 195) (by decide +kernel) rfl
theorem lkL_93 : Cond.methodLink RL 93 yX11_cost ∈ gTbl := gT5 (i := 199) (by decide +kernel) rfl
theorem lkX11_187 : Cond.methodLink RX11 187 yX11_costOf ∈ gTbl := gT5 (i := 203) (by decide +kernel) rfl
theorem lkL_97 : Cond.methodLink RL 97 yX11_best ∈ gTbl := gT5 (i := 207) (by decide +kernel) rfl
theorem lkX11_193 : Cond.methodLink RX11 193 yX11_wrongFew ∈ gTbl := gT5 (i := 211) (by decide +kernel) rfl
theorem lkX11_196 : Cond.methodLink RX11 196 yX11_bestOf ∈ gTbl := gT5 (i := 215) (by decide +kernel) rfl
theorem lkX11_190 : Cond.methodLink RX11 190 yX11_keepsMusts ∈ gTbl := gT5 (i := 219) (by decide +kernel) rfl
theorem lkL_101 : Cond.methodLink RL 101 yX11_far ∈ gTbl := gT5 (i := 223) (by decide +kernel) rfl
theorem lkL_105 : Cond.methodLink RL 105 yX11_turning ∈ gTbl := gT5 (i := 227) (by decide +kernel) rfl
theorem lkL_109 : Cond.methodLink RL 109 yX11_bothWays ∈ gTbl := gT5 (i := 231) (by decide +kernel) rfl
theorem lkX11_200 : Cond.methodLink RX11 200 yX11_bits ∈ gTbl := gT5 (i := 235) (by decide +kernel) rfl
theorem lkL_113 : Cond.methodLink RL 113 yX11_corner ∈ gTbl := gT5 (i := 238) (by decide +kernel) rfl
theorem lkL_117 : Cond.methodLink RL 117 yX11_procession ∈ gTbl := gT6 (i := 2) (by decide +kernel) rfl
theorem lkX11_203 : Cond.methodLink RX11 203 yX11_along ∈ gTbl := gT6 (i := 6) (by decide +kernel) rfl
theorem lkL_121 : Cond.methodLink RL 121 yX11_bestNoon ∈ gTbl := gT6 (i := 10) (by decide +kernel) rfl
theorem lkL_125 : Cond.methodLink RL 125 yX11_lives ∈ gTbl := gT6 (i := 14) (by decide +kernel) rfl
theorem lkL_129 : Cond.methodLink RL 129 yX11_meets ∈ gTbl := gT6 (i := 18) (by decide +kernel) rfl
theorem lkX11_209 : Cond.methodLink RX11 209 yX11_areMet ∈ gTbl := gT6 (i := 22) (by decide +kernel) rfl
theorem lkX11_206 : Cond.methodLink RX11 206 yX11_stays ∈ gTbl := gT6 (i := 26) (by decide +kernel) rfl
theorem lkL_133 : Cond.methodLink RL 133 yX11_pairs ∈ gTbl := gT6 (i := 30) (by decide +kernel) rfl
theorem lkL_137 : Cond.methodLink RL 137 yX11_lanes ∈ gTbl := gT6 (i := 34) (by decide +kernel) rfl
theorem lkX11_212 : Cond.methodLink RX11 212 yX11_isReached ∈ gTbl := gT6 (i := 38) (by decide +kernel) rfl
theorem lkL_141 : Cond.methodLink RL 141 yX11_shuts ∈ gTbl := gT6 (i := 42) (by decide +kernel) rfl
theorem lkL_145 : Cond.methodLink RL 145 yX11_days ∈ gTbl := gT6 (i := 46) (by decide +kernel) rfl
theorem lkL_149 : Cond.methodLink RL 149 yX11_judge ∈ gTbl := gT6 (i := 53) (by decide +kernel) rfl
theorem lkL_153 : Cond.methodLink RL 153 yX11_image ∈ gTbl := gT6 (i := 57) (by decide +kernel) rfl
theorem lkL_157 : Cond.methodLink RL 157 yX11_on ∈ gTbl := gT6 (i := 61) (by decide +kernel) rfl
theorem lkL_161 : Cond.methodLink RL 161 yX11_count ∈ gTbl := gT6 (i := 65) (by decide +kernel) rfl
end
section
theorem Runs.step {d : Nat} {M : Mt} {pc pc' : Nat} {L L' S S' : List AV} {σ σ' : Hp} {Q : Option Int → Hp → Prop} (ok : okVs L → okVs S → okH σ → okVs L' ∧ okVs S')
    (row : ∀ (G : Gw) (p : Program) (l : Launch) (e : Env) (R : Room) (s : State) (m : MethodId) (args : Array Value) (below : List Frame) (meth : Method) (c : Code) (cells slots : Nat) (A : Nat → Prop) (QQ : State → Prop), Ctx d M G p R s m args c cells slots → okVs L → okVs S →
      ∀ (H : Heap) (locs : List Loc) (ls : Array Slot), Wld G A σ s H locs → lrel G.1 ls M.2.2.1 L →
      (∀ (H' : Heap) (locs' : List Loc) (ls' : Array Slot), Wld G A σ' s H' locs' → lrel G.1 ls' M.2.2.1 L' → W p l e R s m args below meth c H' locs' cells slots QQ (F0 m pc' ls' (S'.map (cvv G.1)))) →
      W p l e R s m args below meth c H locs cells slots QQ (F0 m pc ls (S.map (cvv G.1))))
    (h : Runs d M pc' L' S' σ' Q) : Runs d M pc L S σ Q := by
  intro h1 h2 G p l e R s m args below meth c cells slots A QQ C H locs ls hW hl hk
  obtain ⟨o1, o2⟩ := ok h1 h2 hW.2.2.2.2
  exact row G p l e R s m args below meth c cells slots A QQ C h1 h2 H locs ls hW hl (fun H' locs' ls' hW' hl' => h o1 o2 G p l e R s m args below meth c cells slots A QQ C H' locs' ls' hW' hl' hk)
theorem bip {n : Int} (hn : -128 ≤ n ∧ n ≤ 127) : (Int8.ofInt n).toInt32 = n32 n := by
  rw [← Int32.toInt_inj, n32_canon ⟨by omega, by omega⟩, Int8.toInt_toInt32, Int8.toInt_ofInt, Int.bmod_def, show ((Int8.size : Nat) : Int) = 256 from rfl]
  split <;> omega
theorem sip {n : Int} (hn : -32768 ≤ n ∧ n ≤ 32767) : (Int16.ofInt n).toInt32 = n32 n := by
  rw [← Int32.toInt_inj, n32_canon ⟨by omega, by omega⟩, Int16.toInt_toInt32, Int16.toInt_ofInt, Int.bmod_def, show ((Int16.size : Nat) : Int) = 65536 from rfl]
  split <;> omega
theorem s_iconst {d : Nat} {M : Mt} {pc : Nat} {L S : List AV} {σ : Hp} {Q : Option Int → Hp → Prop} {n : Int} (hn : inR n) (hd : decode M.2.1 pc = .ok (.iconst n, 1)) (h : Runs d M (pc + 1) (L) (zI n :: S) (σ) Q) : Runs d M pc (L) (S) σ Q := by
  refine Runs.step (L' := L) (S' := zI n :: S) (σ' := σ) (fun oL oS oH => ⟨oL, okVs_cons hn oS⟩) (fun G p l e R s m args below meth c cells slots A QQ C oL oS H locs ls hW hl kk => ?_) h
  obtain ⟨hx, hb, hml, hown, hts, hR, hK⟩ := C
  exact lv_iconst hx hb hd rfl (kk H locs ls hW hl)
theorem s_bipush {d : Nat} {M : Mt} {pc : Nat} {L S : List AV} {σ : Hp} {Q : Option Int → Hp → Prop} {n : Int} (hn : -128 ≤ n ∧ n ≤ 127) (hd : decode M.2.1 pc = .ok (.bipush n, 2)) (h : Runs d M (pc + 2) (L) (zI n :: S) (σ) Q) : Runs d M pc (L) (S) σ Q := by
  refine Runs.step (L' := L) (S' := zI n :: S) (σ' := σ) (fun oL oS oH => ⟨oL, okVs_cons (show inR n from ⟨by omega, by omega⟩) oS⟩) (fun G p l e R s m args below meth c cells slots A QQ C oL oS H locs ls hW hl kk => ?_) h
  obtain ⟨hx, hb, hml, hown, hts, hR, hK⟩ := C
  exact lv_bipush hx hb hd (bip hn) (kk H locs ls hW hl)
theorem s_sipush {d : Nat} {M : Mt} {pc : Nat} {L S : List AV} {σ : Hp} {Q : Option Int → Hp → Prop} {n : Int} (hn : -32768 ≤ n ∧ n ≤ 32767) (hd : decode M.2.1 pc = .ok (.sipush n, 3)) (h : Runs d M (pc + 3) (L) (zI n :: S) (σ) Q) : Runs d M pc (L) (S) σ Q := by
  refine Runs.step (L' := L) (S' := zI n :: S) (σ' := σ) (fun oL oS oH => ⟨oL, okVs_cons (show inR n from ⟨by omega, by omega⟩) oS⟩) (fun G p l e R s m args below meth c cells slots A QQ C oL oS H locs ls hW hl kk => ?_) h
  obtain ⟨hx, hb, hml, hown, hts, hR, hK⟩ := C
  exact lv_sipush hx hb hd (sip hn) (kk H locs ls hW hl)
theorem s_ldc {d : Nat} {M : Mt} {pc : Nat} {L S : List AV} {σ : Hp} {Q : Option Int → Hp → Prop} {idx : Nat} {v : Int} (hn : inR v) (hw : Cond.constant M.1.cls idx (n32 v) ∈ gTbl) (hd : decode M.2.1 pc = .ok (.ldc idx, 2)) (h : Runs d M (pc + 2) (L) (zI v :: S) (σ) Q) : Runs d M pc (L) (S) σ Q := by
  refine Runs.step (L' := L) (S' := zI v :: S) (σ' := σ) (fun oL oS oH => ⟨oL, okVs_cons hn oS⟩) (fun G p l e R s m args below meth c cells slots A QQ C oL oS H locs ls hW hl kk => ?_) h
  obtain ⟨hx, hb, hml, hown, hts, hR, hK⟩ := C
  exact lv_ldc hx hb hown (hts _ hw) hd (kk H locs ls hW hl)
theorem s_ldcw {d : Nat} {M : Mt} {pc : Nat} {L S : List AV} {σ : Hp} {Q : Option Int → Hp → Prop} {idx : Nat} {v : Int} (hn : inR v) (hw : Cond.constant M.1.cls idx (n32 v) ∈ gTbl) (hd : decode M.2.1 pc = .ok (.ldc_w idx, 3)) (h : Runs d M (pc + 3) (L) (zI v :: S) (σ) Q) : Runs d M pc (L) (S) σ Q := by
  refine Runs.step (L' := L) (S' := zI v :: S) (σ' := σ) (fun oL oS oH => ⟨oL, okVs_cons hn oS⟩) (fun G p l e R s m args below meth c cells slots A QQ C oL oS H locs ls hW hl kk => ?_) h
  obtain ⟨hx, hb, hml, hown, hts, hR, hK⟩ := C
  exact lv_ldcw hx hb hown (hts _ hw) hd (kk H locs ls hW hl)
theorem s_ldc2 {d : Nat} {M : Mt} {pc : Nat} {L S : List AV} {σ : Hp} {Q : Option Int → Hp → Prop} {idx : Nat} {v : Int64} (hw : Cond.constantLong M.1.cls idx v ∈ gTbl) (hd : decode M.2.1 pc = .ok (.ldc2_w idx, 3)) (h : Runs d M (pc + 3) (L) (zJ v :: S) (σ) Q) : Runs d M pc (L) (S) σ Q := by
  refine Runs.step (L' := L) (S' := zJ v :: S) (σ' := σ) (fun oL oS oH => ⟨oL, okVs_cons trivial oS⟩) (fun G p l e R s m args below meth c cells slots A QQ C oL oS H locs ls hW hl kk => ?_) h
  obtain ⟨hx, hb, hml, hown, hts, hR, hK⟩ := C
  exact lv_ldc2 hx hb hown (hts _ hw) hd (kk H locs ls hW hl)
theorem s_iload {d : Nat} {M : Mt} {pc : Nat} {L S : List AV} {σ : Hp} {Q : Option Int → Hp → Prop} {k : Nat} {z : Int} (hz : L[k]? = some (zI z)) (hd : decode M.2.1 pc = .ok (.iload k, 2)) (h : Runs d M (pc + 2) (L) (zI z :: S) (σ) Q) : Runs d M pc (L) (S) σ Q := by
  refine Runs.step (L' := L) (S' := zI z :: S) (σ' := σ) (fun oL oS oH => ⟨oL, okVs_cons (okVs_at oL hz) oS⟩) (fun G p l e R s m args below meth c cells slots A QQ C oL oS H locs ls hW hl kk => ?_) h
  obtain ⟨hx, hb, hml, hown, hts, hR, hK⟩ := C
  exact lv_iload hx hb hd (lrel_at hl hz (fun q => by cases q)) (kk H locs ls hW hl)
theorem s_iloadn {d : Nat} {M : Mt} {pc : Nat} {L S : List AV} {σ : Hp} {Q : Option Int → Hp → Prop} {k : Fin 4} {z : Int} (hz : L[k.val]? = some (zI z)) (hd : decode M.2.1 pc = .ok (.iload_n k, 1)) (h : Runs d M (pc + 1) (L) (zI z :: S) (σ) Q) : Runs d M pc (L) (S) σ Q := by
  refine Runs.step (L' := L) (S' := zI z :: S) (σ' := σ) (fun oL oS oH => ⟨oL, okVs_cons (okVs_at oL hz) oS⟩) (fun G p l e R s m args below meth c cells slots A QQ C oL oS H locs ls hW hl kk => ?_) h
  obtain ⟨hx, hb, hml, hown, hts, hR, hK⟩ := C
  exact lv_iload_n hx hb hd rfl (lrel_at hl hz (fun q => by cases q)) (kk H locs ls hW hl)
theorem s_aload {d : Nat} {M : Mt} {pc : Nat} {L S : List AV} {σ : Hp} {Q : Option Int → Hp → Prop} {k g x : Nat} (hz : L[k]? = some (zR g x)) (hd : decode M.2.1 pc = .ok (.aload k, 2)) (h : Runs d M (pc + 2) (L) (zR g x :: S) (σ) Q) : Runs d M pc (L) (S) σ Q := by
  refine Runs.step (L' := L) (S' := zR g x :: S) (σ' := σ) (fun oL oS oH => ⟨oL, okVs_cons (okVs_at oL hz) oS⟩) (fun G p l e R s m args below meth c cells slots A QQ C oL oS H locs ls hW hl kk => ?_) h
  obtain ⟨hx, hb, hml, hown, hts, hR, hK⟩ := C
  exact lv_aload hx hb hd (lrel_at hl hz (fun q => by cases q)) (kk H locs ls hW hl)
theorem s_aloadn {d : Nat} {M : Mt} {pc : Nat} {L S : List AV} {σ : Hp} {Q : Option Int → Hp → Prop} {k : Fin 4} {g x : Nat} (hz : L[k.val]? = some (zR g x)) (hd : decode M.2.1 pc = .ok (.aload_n k, 1)) (h : Runs d M (pc + 1) (L) (zR g x :: S) (σ) Q) : Runs d M pc (L) (S) σ Q := by
  refine Runs.step (L' := L) (S' := zR g x :: S) (σ' := σ) (fun oL oS oH => ⟨oL, okVs_cons (okVs_at oL hz) oS⟩) (fun G p l e R s m args below meth c cells slots A QQ C oL oS H locs ls hW hl kk => ?_) h
  obtain ⟨hx, hb, hml, hown, hts, hR, hK⟩ := C
  exact lv_aload_n hx hb hd rfl (lrel_at hl hz (fun q => by cases q)) (kk H locs ls hW hl)
theorem s_lloadn {d : Nat} {M : Mt} {pc : Nat} {L S : List AV} {σ : Hp} {Q : Option Int → Hp → Prop} {k : Fin 4} {x : Int64} (hz : L[k.val]? = some (zJ x)) (hd : decode M.2.1 pc = .ok (.lload_n k, 1)) (h : Runs d M (pc + 1) (L) (zJ x :: S) (σ) Q) : Runs d M pc (L) (S) σ Q := by
  refine Runs.step (L' := L) (S' := zJ x :: S) (σ' := σ) (fun oL oS oH => ⟨oL, okVs_cons trivial oS⟩) (fun G p l e R s m args below meth c cells slots A QQ C oL oS H locs ls hW hl kk => ?_) h
  obtain ⟨hx, hb, hml, hown, hts, hR, hK⟩ := C
  exact lv_lload_n hx hb hd rfl (lrel_at hl hz (fun q => by cases q)) (kk H locs ls hW hl)
theorem s_istore {d : Nat} {M : Mt} {pc : Nat} {L S : List AV} {σ : Hp} {Q : Option Int → Hp → Prop} {k : Nat} {z : Int} (hj : noJ L k = true) (hk : k < L.length) (hd : decode M.2.1 pc = .ok (.istore k, 2)) (h : Runs d M (pc + 2) (L.set k (zI z)) (S) (σ) Q) : Runs d M pc (L) (zI z :: S) σ Q := by
  refine Runs.step (L' := L.set k (zI z)) (S' := S) (σ' := σ) (fun oL oS oH => ⟨okVs_set oL (okVs_hd oS), okVs_tl oS⟩) (fun G p l e R s m args below meth c cells slots A QQ C oL oS H locs ls hW hl kk => ?_) h
  obtain ⟨hx, hb, hml, hown, hts, hR, hK⟩ := C
  exact lv_istore hx hb hd hl.2 (hl.1 ▸ hk) rfl (fun ls2 h2 => kk H locs ls2 hW (lrel_set hj hk hl.1 h2))
theorem s_istoren {d : Nat} {M : Mt} {pc : Nat} {L S : List AV} {σ : Hp} {Q : Option Int → Hp → Prop} {k : Fin 4} {z : Int} (hj : noJ L k.val = true) (hk : k.val < L.length) (hd : decode M.2.1 pc = .ok (.istore_n k, 1)) (h : Runs d M (pc + 1) (L.set k.val (zI z)) (S) (σ) Q) : Runs d M pc (L) (zI z :: S) σ Q := by
  refine Runs.step (L' := L.set k.val (zI z)) (S' := S) (σ' := σ) (fun oL oS oH => ⟨okVs_set oL (okVs_hd oS), okVs_tl oS⟩) (fun G p l e R s m args below meth c cells slots A QQ C oL oS H locs ls hW hl kk => ?_) h
  obtain ⟨hx, hb, hml, hown, hts, hR, hK⟩ := C
  exact lv_istore_n hx hb hd rfl hl.2 (hl.1 ▸ hk) rfl (fun ls2 h2 => kk H locs ls2 hW (lrel_set hj hk hl.1 h2))
theorem lvl_ix {ad : Nat → Nat → Nat} {L : List AV} {k : Nat} {z : Int} (hz : L[k]? = some (zI z)) : ∃ j : Nat, (lvl ad 0 L)[j]? = some (k, .int (n32 z)) :=
  List.getElem?_of_mem ((lvl_mem L 0).mpr ⟨_, Nat.zero_le _, by simpa using hz, fun q => (by cases q), rfl⟩)
theorem s_iinc {d : Nat} {M : Mt} {pc : Nat} {L S : List AV} {σ : Hp} {Q : Option Int → Hp → Prop} {k : Nat} {n z : Int} (hz : L[k]? = some (zI z)) (hj : noJ L k = true) (hk : k < L.length) (hd : decode M.2.1 pc = .ok (.iinc k n, 3)) (h : Runs d M (pc + 3) (L.set k (zI (wrap (z + n)))) (S) (σ) Q) : Runs d M pc (L) (S) σ Q := by
  refine Runs.step (L' := L.set k (zI (wrap (z + n)))) (S' := S) (σ' := σ) (fun oL oS oH => ⟨okVs_set oL (wrap_in _), oS⟩) (fun G p l e R s m args below meth c cells slots A QQ C oL oS H locs ls hW hl kk => ?_) h
  obtain ⟨hx, hb, hml, hown, hts, hR, hK⟩ := C
  obtain ⟨j, hj2⟩ := lvl_ix (ad := G.1) hz
  exact lv_iinc hx hb hd hl.2 hj2 (n32_add z n) (hl.1 ▸ hk) rfl (fun ls2 h2 => kk H locs ls2 hW (lrel_set hj hk hl.1 h2))
theorem s_iadd {d : Nat} {M : Mt} {pc : Nat} {L S : List AV} {σ : Hp} {Q : Option Int → Hp → Prop} {a b : Int} (hd : decode M.2.1 pc = .ok (.iadd, 1)) (h : Runs d M (pc + 1) (L) (zI (wrap (a + b)) :: S) (σ) Q) : Runs d M pc (L) (zI b :: zI a :: S) σ Q := by
  refine Runs.step (L' := L) (S' := zI (wrap (a + b)) :: S) (σ' := σ) (fun oL oS oH => ⟨oL, okVs_cons (wrap_in _) (okVs_tl (okVs_tl oS))⟩) (fun G p l e R s m args below meth c cells slots A QQ C oL oS H locs ls hW hl kk => ?_) h
  obtain ⟨hx, hb, hml, hown, hts, hR, hK⟩ := C
  refine lv_iadd hx hb hd ?_
  rw [n32_add]
  exact kk H locs ls hW hl
theorem s_isub {d : Nat} {M : Mt} {pc : Nat} {L S : List AV} {σ : Hp} {Q : Option Int → Hp → Prop} {a b : Int} (hd : decode M.2.1 pc = .ok (.isub, 1)) (h : Runs d M (pc + 1) (L) (zI (wrap (a - b)) :: S) (σ) Q) : Runs d M pc (L) (zI b :: zI a :: S) σ Q := by
  refine Runs.step (L' := L) (S' := zI (wrap (a - b)) :: S) (σ' := σ) (fun oL oS oH => ⟨oL, okVs_cons (wrap_in _) (okVs_tl (okVs_tl oS))⟩) (fun G p l e R s m args below meth c cells slots A QQ C oL oS H locs ls hW hl kk => ?_) h
  obtain ⟨hx, hb, hml, hown, hts, hR, hK⟩ := C
  refine lv_isub hx hb hd ?_
  rw [n32_sub]
  exact kk H locs ls hW hl
theorem s_imul {d : Nat} {M : Mt} {pc : Nat} {L S : List AV} {σ : Hp} {Q : Option Int → Hp → Prop} {a b : Int} (hd : decode M.2.1 pc = .ok (.imul, 1)) (h : Runs d M (pc + 1) (L) (zI (wrap (a * b)) :: S) (σ) Q) : Runs d M pc (L) (zI b :: zI a :: S) σ Q := by
  refine Runs.step (L' := L) (S' := zI (wrap (a * b)) :: S) (σ' := σ) (fun oL oS oH => ⟨oL, okVs_cons (wrap_in _) (okVs_tl (okVs_tl oS))⟩) (fun G p l e R s m args below meth c cells slots A QQ C oL oS H locs ls hW hl kk => ?_) h
  obtain ⟨hx, hb, hml, hown, hts, hR, hK⟩ := C
  refine lv_imul hx hb hd ?_
  rw [n32_mul]
  exact kk H locs ls hW hl
theorem s_iand {d : Nat} {M : Mt} {pc : Nat} {L S : List AV} {σ : Hp} {Q : Option Int → Hp → Prop} {a b : Int} (hd : decode M.2.1 pc = .ok (.iand, 1)) (h : Runs d M (pc + 1) (L) (zI (zand a b) :: S) (σ) Q) : Runs d M pc (L) (zI b :: zI a :: S) σ Q := by
  refine Runs.step (L' := L) (S' := zI (zand a b) :: S) (σ' := σ) (fun oL oS oH => ⟨oL, okVs_cons (toInt_in _) (okVs_tl (okVs_tl oS))⟩) (fun G p l e R s m args below meth c cells slots A QQ C oL oS H locs ls hW hl kk => ?_) h
  obtain ⟨hx, hb, hml, hown, hts, hR, hK⟩ := C
  refine lv_iand hx hb hd ?_
  rw [← n32_of (n32 a &&& n32 b)]
  exact kk H locs ls hW hl
theorem s_ior {d : Nat} {M : Mt} {pc : Nat} {L S : List AV} {σ : Hp} {Q : Option Int → Hp → Prop} {a b : Int} (hd : decode M.2.1 pc = .ok (.ior, 1)) (h : Runs d M (pc + 1) (L) (zI (zor a b) :: S) (σ) Q) : Runs d M pc (L) (zI b :: zI a :: S) σ Q := by
  refine Runs.step (L' := L) (S' := zI (zor a b) :: S) (σ' := σ) (fun oL oS oH => ⟨oL, okVs_cons (toInt_in _) (okVs_tl (okVs_tl oS))⟩) (fun G p l e R s m args below meth c cells slots A QQ C oL oS H locs ls hW hl kk => ?_) h
  obtain ⟨hx, hb, hml, hown, hts, hR, hK⟩ := C
  refine lv_ior hx hb hd ?_
  rw [← n32_of (n32 a ||| n32 b)]
  exact kk H locs ls hW hl
theorem s_ixor {d : Nat} {M : Mt} {pc : Nat} {L S : List AV} {σ : Hp} {Q : Option Int → Hp → Prop} {a b : Int} (hd : decode M.2.1 pc = .ok (.ixor, 1)) (h : Runs d M (pc + 1) (L) (zI (zxor a b) :: S) (σ) Q) : Runs d M pc (L) (zI b :: zI a :: S) σ Q := by
  refine Runs.step (L' := L) (S' := zI (zxor a b) :: S) (σ' := σ) (fun oL oS oH => ⟨oL, okVs_cons (toInt_in _) (okVs_tl (okVs_tl oS))⟩) (fun G p l e R s m args below meth c cells slots A QQ C oL oS H locs ls hW hl kk => ?_) h
  obtain ⟨hx, hb, hml, hown, hts, hR, hK⟩ := C
  refine lv_ixor hx hb hd ?_
  rw [← n32_of (n32 a ^^^ n32 b)]
  exact kk H locs ls hW hl
theorem s_ishl {d : Nat} {M : Mt} {pc : Nat} {L S : List AV} {σ : Hp} {Q : Option Int → Hp → Prop} {a b : Int} (hd : decode M.2.1 pc = .ok (.ishl, 1)) (h : Runs d M (pc + 1) (L) (zI (zshl a b) :: S) (σ) Q) : Runs d M pc (L) (zI b :: zI a :: S) σ Q := by
  refine Runs.step (L' := L) (S' := zI (zshl a b) :: S) (σ' := σ) (fun oL oS oH => ⟨oL, okVs_cons (toInt_in _) (okVs_tl (okVs_tl oS))⟩) (fun G p l e R s m args below meth c cells slots A QQ C oL oS H locs ls hW hl kk => ?_) h
  obtain ⟨hx, hb, hml, hown, hts, hR, hK⟩ := C
  refine lv_ishl hx hb hd ?_
  rw [← n32_of (n32 a <<< (n32 b &&& 31))]
  exact kk H locs ls hW hl
theorem s_ishr {d : Nat} {M : Mt} {pc : Nat} {L S : List AV} {σ : Hp} {Q : Option Int → Hp → Prop} {a b : Int} (hd : decode M.2.1 pc = .ok (.ishr, 1)) (h : Runs d M (pc + 1) (L) (zI (zshr a b) :: S) (σ) Q) : Runs d M pc (L) (zI b :: zI a :: S) σ Q := by
  refine Runs.step (L' := L) (S' := zI (zshr a b) :: S) (σ' := σ) (fun oL oS oH => ⟨oL, okVs_cons (toInt_in _) (okVs_tl (okVs_tl oS))⟩) (fun G p l e R s m args below meth c cells slots A QQ C oL oS H locs ls hW hl kk => ?_) h
  obtain ⟨hx, hb, hml, hown, hts, hR, hK⟩ := C
  refine lv_ishr hx hb hd ?_
  rw [← n32_of (n32 a >>> (n32 b &&& 31))]
  exact kk H locs ls hW hl
theorem s_iushr {d : Nat} {M : Mt} {pc : Nat} {L S : List AV} {σ : Hp} {Q : Option Int → Hp → Prop} {a b : Int} (hd : decode M.2.1 pc = .ok (.iushr, 1)) (h : Runs d M (pc + 1) (L) (zI (zushr a b) :: S) (σ) Q) : Runs d M pc (L) (zI b :: zI a :: S) σ Q := by
  refine Runs.step (L' := L) (S' := zI (zushr a b) :: S) (σ' := σ) (fun oL oS oH => ⟨oL, okVs_cons (toInt_in _) (okVs_tl (okVs_tl oS))⟩) (fun G p l e R s m args below meth c cells slots A QQ C oL oS H locs ls hW hl kk => ?_) h
  obtain ⟨hx, hb, hml, hown, hts, hR, hK⟩ := C
  exact lv_iushr hx hb hd (n32_of _).symm (kk H locs ls hW hl)
theorem s_ineg {d : Nat} {M : Mt} {pc : Nat} {L S : List AV} {σ : Hp} {Q : Option Int → Hp → Prop} {a : Int} (hd : decode M.2.1 pc = .ok (.ineg, 1)) (h : Runs d M (pc + 1) (L) (zI (wrap (-a)) :: S) (σ) Q) : Runs d M pc (L) (zI a :: S) σ Q := by
  refine Runs.step (L' := L) (S' := zI (wrap (-a)) :: S) (σ' := σ) (fun oL oS oH => ⟨oL, okVs_cons (wrap_in _) (okVs_tl oS)⟩) (fun G p l e R s m args below meth c cells slots A QQ C oL oS H locs ls hW hl kk => ?_) h
  obtain ⟨hx, hb, hml, hown, hts, hR, hK⟩ := C
  refine lv_ineg hx hb hd ?_
  rw [n32_neg]
  exact kk H locs ls hW hl
theorem s_idiv {d : Nat} {M : Mt} {pc : Nat} {L S : List AV} {σ : Hp} {Q : Option Int → Hp → Prop} {a b : Int} (hn : b ≠ 0) (hd : decode M.2.1 pc = .ok (.idiv, 1)) (h : Runs d M (pc + 1) (L) (zI (zdiv a b) :: S) (σ) Q) : Runs d M pc (L) (zI b :: zI a :: S) σ Q := by
  refine Runs.step (L' := L) (S' := zI (zdiv a b) :: S) (σ' := σ) (fun oL oS oH => ⟨oL, okVs_cons (toInt_in _) (okVs_tl (okVs_tl oS))⟩) (fun G p l e R s m args below meth c cells slots A QQ C oL oS H locs ls hW hl kk => ?_) h
  obtain ⟨hx, hb, hml, hown, hts, hR, hK⟩ := C
  refine lv_idiv hx hb hd (fun q => hn ((n32_inj (okVs_hd oS) inR_0).mp q)) ?_
  rw [← n32_of (n32 a / n32 b)]
  exact kk H locs ls hW hl
theorem s_irem {d : Nat} {M : Mt} {pc : Nat} {L S : List AV} {σ : Hp} {Q : Option Int → Hp → Prop} {a b : Int} (hn : b ≠ 0) (hd : decode M.2.1 pc = .ok (.irem, 1)) (h : Runs d M (pc + 1) (L) (zI (zrem a b) :: S) (σ) Q) : Runs d M pc (L) (zI b :: zI a :: S) σ Q := by
  refine Runs.step (L' := L) (S' := zI (zrem a b) :: S) (σ' := σ) (fun oL oS oH => ⟨oL, okVs_cons (toInt_in _) (okVs_tl (okVs_tl oS))⟩) (fun G p l e R s m args below meth c cells slots A QQ C oL oS H locs ls hW hl kk => ?_) h
  obtain ⟨hx, hb, hml, hown, hts, hR, hK⟩ := C
  refine lv_irem hx hb hd (fun q => hn ((n32_inj (okVs_hd oS) inR_0).mp q)) ?_
  rw [← n32_of (n32 a - n32 a / n32 b * n32 b)]
  exact kk H locs ls hW hl
theorem s_i2l {d : Nat} {M : Mt} {pc : Nat} {L S : List AV} {σ : Hp} {Q : Option Int → Hp → Prop} {a : Int} (hd : decode M.2.1 pc = .ok (.i2l, 1)) (h : Runs d M (pc + 1) (L) (zJ (zi2l a) :: S) (σ) Q) : Runs d M pc (L) (zI a :: S) σ Q := by
  refine Runs.step (L' := L) (S' := zJ (zi2l a) :: S) (σ' := σ) (fun oL oS oH => ⟨oL, okVs_cons trivial (okVs_tl oS)⟩) (fun G p l e R s m args below meth c cells slots A QQ C oL oS H locs ls hW hl kk => ?_) h
  obtain ⟨hx, hb, hml, hown, hts, hR, hK⟩ := C
  exact lv_i2l hx hb hd rfl (kk H locs ls hW hl)
theorem s_l2i {d : Nat} {M : Mt} {pc : Nat} {L S : List AV} {σ : Hp} {Q : Option Int → Hp → Prop} {x : Int64} (hd : decode M.2.1 pc = .ok (.l2i, 1)) (h : Runs d M (pc + 1) (L) (zI (zl2i x) :: S) (σ) Q) : Runs d M pc (L) (zJ x :: S) σ Q := by
  refine Runs.step (L' := L) (S' := zI (zl2i x) :: S) (σ' := σ) (fun oL oS oH => ⟨oL, okVs_cons (toInt_in _) (okVs_tl oS)⟩) (fun G p l e R s m args below meth c cells slots A QQ C oL oS H locs ls hW hl kk => ?_) h
  obtain ⟨hx, hb, hml, hown, hts, hR, hK⟩ := C
  exact lv_l2i hx hb hd (n32_of _).symm (kk H locs ls hW hl)
theorem s_lshl {d : Nat} {M : Mt} {pc : Nat} {L S : List AV} {σ : Hp} {Q : Option Int → Hp → Prop} {x : Int64} {b : Int} (hd : decode M.2.1 pc = .ok (.lshl, 1)) (h : Runs d M (pc + 1) (L) (zJ (zlshl x b) :: S) (σ) Q) : Runs d M pc (L) (zI b :: zJ x :: S) σ Q := by
  refine Runs.step (L' := L) (S' := zJ (zlshl x b) :: S) (σ' := σ) (fun oL oS oH => ⟨oL, okVs_cons trivial (okVs_tl (okVs_tl oS))⟩) (fun G p l e R s m args below meth c cells slots A QQ C oL oS H locs ls hW hl kk => ?_) h
  obtain ⟨hx, hb, hml, hown, hts, hR, hK⟩ := C
  exact lv_lshl hx hb hd rfl (kk H locs ls hW hl)
theorem s_lshr {d : Nat} {M : Mt} {pc : Nat} {L S : List AV} {σ : Hp} {Q : Option Int → Hp → Prop} {x : Int64} {b : Int} (hd : decode M.2.1 pc = .ok (.lshr, 1)) (h : Runs d M (pc + 1) (L) (zJ (zlshr x b) :: S) (σ) Q) : Runs d M pc (L) (zI b :: zJ x :: S) σ Q := by
  refine Runs.step (L' := L) (S' := zJ (zlshr x b) :: S) (σ' := σ) (fun oL oS oH => ⟨oL, okVs_cons trivial (okVs_tl (okVs_tl oS))⟩) (fun G p l e R s m args below meth c cells slots A QQ C oL oS H locs ls hW hl kk => ?_) h
  obtain ⟨hx, hb, hml, hown, hts, hR, hK⟩ := C
  exact lv_lshr hx hb hd rfl (kk H locs ls hW hl)
theorem s_lushr {d : Nat} {M : Mt} {pc : Nat} {L S : List AV} {σ : Hp} {Q : Option Int → Hp → Prop} {x : Int64} {b : Int} (hd : decode M.2.1 pc = .ok (.lushr, 1)) (h : Runs d M (pc + 1) (L) (zJ (zlushr x b) :: S) (σ) Q) : Runs d M pc (L) (zI b :: zJ x :: S) σ Q := by
  refine Runs.step (L' := L) (S' := zJ (zlushr x b) :: S) (σ' := σ) (fun oL oS oH => ⟨oL, okVs_cons trivial (okVs_tl (okVs_tl oS))⟩) (fun G p l e R s m args below meth c cells slots A QQ C oL oS H locs ls hW hl kk => ?_) h
  obtain ⟨hx, hb, hml, hown, hts, hR, hK⟩ := C
  exact lv_lushr hx hb hd rfl (kk H locs ls hW hl)
theorem s_land {d : Nat} {M : Mt} {pc : Nat} {L S : List AV} {σ : Hp} {Q : Option Int → Hp → Prop} {x y : Int64} (hd : decode M.2.1 pc = .ok (.land, 1)) (h : Runs d M (pc + 1) (L) (zJ (x &&& y) :: S) (σ) Q) : Runs d M pc (L) (zJ y :: zJ x :: S) σ Q := by
  refine Runs.step (L' := L) (S' := zJ (x &&& y) :: S) (σ' := σ) (fun oL oS oH => ⟨oL, okVs_cons trivial (okVs_tl (okVs_tl oS))⟩) (fun G p l e R s m args below meth c cells slots A QQ C oL oS H locs ls hW hl kk => ?_) h
  obtain ⟨hx, hb, hml, hown, hts, hR, hK⟩ := C
  exact lv_land hx hb hd (kk H locs ls hW hl)
theorem s_lor {d : Nat} {M : Mt} {pc : Nat} {L S : List AV} {σ : Hp} {Q : Option Int → Hp → Prop} {x y : Int64} (hd : decode M.2.1 pc = .ok (.lor, 1)) (h : Runs d M (pc + 1) (L) (zJ (x ||| y) :: S) (σ) Q) : Runs d M pc (L) (zJ y :: zJ x :: S) σ Q := by
  refine Runs.step (L' := L) (S' := zJ (x ||| y) :: S) (σ' := σ) (fun oL oS oH => ⟨oL, okVs_cons trivial (okVs_tl (okVs_tl oS))⟩) (fun G p l e R s m args below meth c cells slots A QQ C oL oS H locs ls hW hl kk => ?_) h
  obtain ⟨hx, hb, hml, hown, hts, hR, hK⟩ := C
  exact lv_lor hx hb hd (kk H locs ls hW hl)
def cat1 : AV → Bool
  | .inr (.inr _) => false
  | _ => true
theorem cat1_of {ad : Nat → Nat → Nat} {v : AV} (h : cat1 v = true) : (cvv ad v).category = 1 := by
  rcases v with z | q | x | u
  · rfl
  · rfl
  · cases h
  · cases h
theorem s_dup {d : Nat} {M : Mt} {pc : Nat} {L S : List AV} {σ : Hp} {Q : Option Int → Hp → Prop} {v : AV} (hc : cat1 v = true) (hd : decode M.2.1 pc = .ok (.dup, 1)) (h : Runs d M (pc + 1) (L) (v :: v :: S) (σ) Q) : Runs d M pc (L) (v :: S) σ Q := by
  refine Runs.step (L' := L) (S' := v :: v :: S) (σ' := σ) (fun oL oS oH => ⟨oL, okVs_cons (okVs_hd oS) oS⟩) (fun G p l e R s m args below meth c cells slots A QQ C oL oS H locs ls hW hl kk => ?_) h
  obtain ⟨hx, hb, hml, hown, hts, hR, hK⟩ := C
  exact lv_dup hx hb hd (cat1_of hc) (kk H locs ls hW hl)
theorem s_dup2 {d : Nat} {M : Mt} {pc : Nat} {L S : List AV} {σ : Hp} {Q : Option Int → Hp → Prop} {v w : AV} (hc : cat1 v = true) (hc2 : cat1 w = true) (hd : decode M.2.1 pc = .ok (.dup2, 1)) (h : Runs d M (pc + 1) (L) (v :: w :: v :: w :: S) (σ) Q) : Runs d M pc (L) (v :: w :: S) σ Q := by
  refine Runs.step (L' := L) (S' := v :: w :: v :: w :: S) (σ' := σ) (fun oL oS oH => ⟨oL, okVs_cons (okVs_hd oS) (okVs_cons (okVs_hd (okVs_tl oS)) oS)⟩) (fun G p l e R s m args below meth c cells slots A QQ C oL oS H locs ls hW hl kk => ?_) h
  obtain ⟨hx, hb, hml, hown, hts, hR, hK⟩ := C
  exact lv_dup2_11 hx hb hd (cat1_of hc) (cat1_of hc2) (kk H locs ls hW hl)
end
section
/-! fields and arrays -/
def fA (σ : Hp) (g x k : Nat) (f : Nat × Nat × Nat) : AV := match f.1 with
  | 0 => zI (σ g x k)
  | 1 => zI (σ g x k)
  | 2 => zR f.2.1 f.2.2
  | _ => zR f.2.1 x
theorem fA_cv (ad : Nat → Nat → Nat) (σ : Hp) (g x k : Nat) (f : Nat × Nat × Nat) : cvv ad (fA σ g x k f) = fval ad σ g x k f := by
  obtain ⟨t, g', i'⟩ := f
  match t with
  | 0 => rfl
  | 1 => rfl
  | 2 => rfl
  | n + 3 => rfl
def shOK (g : Nat) : Bool := (shp g).2.2.2.all (fun f => (f.1 != 2 || decide (f.2.2 < cntG f.2.1)) && (f.1 != 3 || cntG g == cntG f.2.1) && decide (f.1 < 4))
theorem shOK_all : (List.range 52).all shOK = true := by decide +kernel
theorem fA_ok {σ : Hp} {g x k : Nat} {f : Nat × Nat × Nat} (hg : g < 52) (hx : x < cntG g) (hf : (shp g).2.2.2[k]? = some f) (hH : okH σ) : okV (fA σ g x k f) := by
  have h0 := List.all_eq_true.mp (List.all_eq_true.mp shOK_all g (List.mem_range.mpr hg)) f (List.mem_of_getElem? hf)
  obtain ⟨t, g', i'⟩ := f
  unfold fA
  match t, h0 with
  | 0, h0 => exact hH g x k
  | 1, h0 => exact hH g x k
  | 2, h0 => simp at h0; exact h0
  | 3, h0 =>
    simp at h0
    show x < cntG g'
    rw [← h0]; exact hx
  | n + 4, h0 => simp at h0; omega
theorem fvals_at {ad : Nat → Nat → Nat} {σ : Hp} {g x k : Nat} {f : Nat × Nat × Nat} (hf : (shp g).2.2.2[k]? = some f) : (fvals ad σ g x)[k]? = some (fval ad σ g x k f) := by
  unfold fvals
  rw [List.getElem?_mapIdx, hf]
  rfl
theorem cell_obj {G : Gw} {σ : Hp} {g x ci : Nat} (hk : (shp g).1 = ci + 3) : cellOf G σ g x = .inr (ci, fvals G.1 σ g x) := by
  unfold cellOf
  rw [hk]
theorem cell_int {G : Gw} {σ : Hp} {g x : Nat} (hk : (shp g).1 = 0) : cellOf G σ g x = .inl (G.2.2.1 g, (shp g).2.2.1, .inl (fun j => n32 (σ g x j))) := by
  unfold cellOf
  rw [hk]
theorem cell_bool {G : Gw} {σ : Hp} {g x : Nat} (hk : (shp g).1 = 1) : cellOf G σ g x = .inl (G.2.2.1 g, (shp g).2.2.1, .inl (fun j => n32 (σ g x j))) := by
  unfold cellOf
  rw [hk]
theorem cell_ref {G : Gw} {σ : Hp} {g x : Nat} (hk : (shp g).1 = 2) : cellOf G σ g x = .inl (G.2.2.1 g, (shp g).2.2.1, .inr (.inr (.inr (.inr (fun j => if j < (shp g).2.2.1 then some (G.1 (tgtG g) j) else none))))) := by
  unfold cellOf
  rw [hk]
theorem fvals_up {ad : Nat → Nat → Nat} {σ : Hp} {g x k : Nat} {v : Int} {f : Nat × Nat × Nat} (hf : (shp g).2.2.2[k]? = some f) (ht : f.1 < 2) : fvals ad (zup σ g x k v) g x = (fvals ad σ g x).set k (.int (n32 v)) := by
  apply List.ext_getElem?
  intro j
  have hl : k < (fvals ad σ g x).length := by unfold fvals; rw [List.length_mapIdx]; exact (List.getElem?_eq_some_iff.mp hf).1
  by_cases hj : j = k
  · subst hj
    rw [List.getElem?_set_self hl, fvals_at hf]
    obtain ⟨t, r⟩ := f
    unfold fval
    match t, ht with
    | 0, _ => simp [zup]
    | 1, _ => simp [zup]
  · rw [List.getElem?_set_ne (Ne.symm hj)]
    unfold fvals
    rw [List.getElem?_mapIdx, List.getElem?_mapIdx]
    cases (shp g).2.2.2[j]? with
    | none => rfl
    | some f' =>
      simp only [Option.map_some]
      unfold fval
      simp [zup, hj]
def tyOK (g : Nat) : Bool := match (shp g).1 with
  | 0 => true
  | 1 => true
  | 2 => true
  | c + 3 => decide (c < 12) && (List.range (shp g).2.2.2.length).all (fun k => match (shp g).2.2.2[k]? with
    | some f => (f.1 != 0 || tyT c k == .int) && (f.1 != 1 || tyT c k == .boolean)
    | none => true)
theorem tyOK_all : (List.range 52).all tyOK = true := by decide +kernel
theorem ty_of {g c k : Nat} {f : Nat × Nat × Nat} (hg : g < 52) (hk : (shp g).1 = c + 3) (hf : (shp g).2.2.2[k]? = some f) : c < 12 ∧ (f.1 = 0 → tyT c k = .int) ∧ (f.1 = 1 → tyT c k = .boolean) := by
  have h0 := List.all_eq_true.mp tyOK_all g (List.mem_range.mpr hg)
  unfold tyOK at h0
  rw [hk] at h0
  simp only [Bool.and_eq_true, decide_eq_true_eq] at h0
  have h1 := List.all_eq_true.mp h0.2 k (List.mem_range.mpr (List.getElem?_eq_some_iff.mp hf).1)
  rw [hf] at h1
  simp only [Bool.and_eq_true, Bool.or_eq_true, bne_iff_ne, ne_eq, beq_iff_eq] at h1
  exact ⟨h0.1, fun q => h1.1.resolve_left (fun z => z q), fun q => h1.2.resolve_left (fun z => z q)⟩
/-- the links that the tables have -/
def lnkF (M : Mt) (idx ci k : Nat) : Bool := fTab.any (fun e => e.1 == M.2.2.2.2 && e.2.1 == idx && e.2.2.1 == ci && e.2.2.2.1 == k) && decide (ownN M.2.2.2.2 = M.1.cls)
theorem lnkF_ok {M : Mt} {idx ci k : Nat} (h : lnkF M idx ci k = true) : Cond.fieldLink M.1.cls idx ((clsT ci).2.1 k).1 ((clsT ci).2.1 k).2.1 ((clsT ci).2.1 k).2.2.1 ∈ gTbl ∧ k < (clsT ci).2.2 ∧ ci < 12 := by
  unfold lnkF at h
  simp only [Bool.and_eq_true, decide_eq_true_eq] at h
  obtain ⟨e, he, h1⟩ := List.any_eq_true.mp h.1
  simp only [Bool.and_eq_true, beq_iff_eq] at h1
  obtain ⟨⟨⟨a1, a2⟩, a3⟩, a4⟩ := h1
  have h2 := List.all_eq_true.mp fTab_ok e he
  simp only [Bool.and_eq_true, decide_eq_true_eq] at h2
  obtain ⟨⟨⟨b1, b2⟩, b3⟩, b4⟩ := h2
  have h3 := gTbl_in b1 b2
  unfold fW at h3
  rw [a1, a2, a3, a4, h.2] at h3
  rw [a3, a4] at b3
  rw [a3] at b4
  exact ⟨h3, b3, b4⟩
theorem s_getfield {d : Nat} {M : Mt} {pc : Nat} {L S : List AV} {σ : Hp} {Q : Option Int → Hp → Prop} {idx ci k g x : Nat} {f : Nat × Nat × Nat} (hl0 : lnkF M idx ci k = true) (hk : (shp g).1 = ci + 3) (hf : (shp g).2.2.2[k]? = some f)
    (hd : decode M.2.1 pc = .ok (.getfield idx, 3)) (h : Runs d M (pc + 3) L (fA σ g x k f :: S) σ Q) : Runs d M pc L (zR g x :: S) σ Q := by
  obtain ⟨w1, w2, w3⟩ := lnkF_ok hl0
  have hg : g < 52 := kind_lt (by omega)
  refine Runs.step (L' := L) (S' := fA σ g x k f :: S) (σ' := σ) (fun oL oS oH => ⟨oL, okVs_cons (fA_ok hg (okVs_hd oS) hf oH) (okVs_tl oS)⟩) (fun G p l e R s m args below meth c cells slots A QQ C oL oS H locs ls hW hl kk => ?_) h
  obtain ⟨hx, hb, hml, hown, hts, hR, hK⟩ := C
  obtain ⟨q0, he, -⟩ := ws_at G σ hg (okVs_hd oS)
  rw [cell_obj hk] at he
  obtain ⟨i1, i2, i3, i4⟩ := cls_in ci w3
  refine va_get hx hb hts i1 hown hK hW.1 q0 he i4 k w2 (hts _ w1) (fun _ h9 => h9) (fvals_at hf) hd ?_
  have := kk H locs ls hW hl
  rw [List.map_cons, fA_cv] at this
  exact this
theorem narrow_i (z : Int) : narrow .int (.int (n32 z)) = .int (n32 z) := rfl
theorem narrow_z {z : Int} (h : z = 0 ∨ z = 1) : narrow .boolean (.int (n32 z)) = .int (n32 z) := by
  rcases h with rfl | rfl <;> decide
theorem fits_z {z : Int} (h : z = 0 ∨ z = 1) : fits .boolean (.int (n32 z)) = true := by
  rcases h with rfl | rfl <;> decide
theorem Wld_up {G : Gw} {A : Nat → Prop} {σ : Hp} {s : State} {H1 : Heap} {locs1 : List Loc} {g x k : Nat} {v : Int} {q0 : Nat} (hg : g < 52) (hv : inR v) (hR : RO G A σ s) (hH : okH σ) (hq : IDX[q0]? = some (g, x)) {c1 : va_E} (hc : cellOf G (zup σ g x k v) g x = c1)
    (h1 : va_P G.2.1 clsL ((wsOf G σ).set q0 (G.1 g x, c1)) H1) (h2 : va_D A ((wsOf G σ).set q0 (G.1 g x, c1))) (h3 : va_S A s.heap H1 locs1) : Wld G A (zup σ g x k v) s H1 locs1 := by
  subst hc
  rw [ws_set hq (fun g' i' h => cell_up h)] at h1 h2
  refine ⟨h1, h2, h3, hR.same ?_ ?_ ?_, okH_up hH hv⟩
  · funext i'; exact zup_ne (fun e => by cases e; omega)
  · funext i'; exact zup_ne (fun e => by cases e; omega)
  · funext i'; exact zup_ne (fun e => by cases e; omega)
theorem s_putfield {d : Nat} {M : Mt} {pc : Nat} {L S : List AV} {σ : Hp} {Q : Option Int → Hp → Prop} {idx ci k g x : Nat} {v : Int} {f : Nat × Nat × Nat} (hl0 : lnkF M idx ci k = true) (hfin : ((clsT ci).2.1 k).2.2.2 = false) (hk : (shp g).1 = ci + 3) (hf : (shp g).2.2.2[k]? = some f) (ht : f.1 = 0 ∨ (f.1 = 1 ∧ (v = 0 ∨ v = 1)))
    (hd : decode M.2.1 pc = .ok (.putfield idx, 3)) (h : Runs d M (pc + 3) L S (zup σ g x k v) Q) : Runs d M pc L (zI v :: zR g x :: S) σ Q := by
  obtain ⟨w1, w2, w3⟩ := lnkF_ok hl0
  have hg : g < 52 := kind_lt (by omega)
  obtain ⟨-, t1, t2⟩ := ty_of hg hk hf
  refine Runs.step (L' := L) (S' := S) (σ' := zup σ g x k v) (fun oL oS oH => ⟨oL, okVs_tl (okVs_tl oS)⟩) (fun G p l e R s m args below meth c cells slots A QQ C oL oS H locs ls hW hl kk => ?_) h
  obtain ⟨hx, hb, hml, hown, hts, hR, hK⟩ := C
  obtain ⟨q0, he, hq⟩ := ws_at G σ hg (okVs_hd (okVs_tl oS))
  rw [cell_obj hk] at he
  obtain ⟨i1, i2, i3, i4⟩ := cls_in ci w3
  have hlen : k < (fvals G.1 σ g x).length := (List.getElem?_eq_some_iff.mp (fvals_at (ad := G.1) (σ := σ) (x := x) hf)).1
  have hty : narrow (tyT ci k) (.int (n32 v)) = .int (n32 v) ∧ fits (tyT ci k) (.int (n32 v)) = true := by
    rcases ht with q | ⟨q, q2⟩
    · rw [t1 q]; exact ⟨rfl, rfl⟩
    · rw [t2 q]; exact ⟨narrow_z q2, fits_z q2⟩
  refine va_put hx hb hts i1 (tyT ci) i2 i3 hown hK hW.1 hW.2.1 hW.2.2.1 q0 he i4 k w2 (hts _ w1) (fun _ h9 => h9) hfin (i2 k w2) hty.1 hty.2 hlen hd (fun H1 locs1 p1 p2 p3 => ?_)
  exact kk H1 locs1 ls (Wld_up hg (okVs_hd oS) hW.2.2.2.1 hW.2.2.2.2 hq (by rw [cell_obj hk, fvals_up hf (by omega)]; rfl) p1 p2 p3) hl
def lnkS (M : Mt) (idx g : Nat) : Bool := sTab.any (fun e => e.1 == M.2.2.2.2 && e.2.1 == idx && e.2.2.1 == g) && decide (ownN M.2.2.2.2 = M.1.cls)
theorem lnkS_ok {M : Mt} {idx g : Nat} (h : lnkS M idx g = true) : Cond.fieldLink M.1.cls idx RX10 (sNm g) "[I" ∈ gTbl ∧ (g = 61 ∨ g = 62) := by
  unfold lnkS at h
  simp only [Bool.and_eq_true, decide_eq_true_eq] at h
  obtain ⟨e, he, h1⟩ := List.any_eq_true.mp h.1
  simp only [Bool.and_eq_true, beq_iff_eq] at h1
  obtain ⟨⟨a1, a2⟩, a3⟩ := h1
  have h2 := List.all_eq_true.mp sTab_ok e he
  simp only [Bool.and_eq_true, decide_eq_true_eq, Bool.or_eq_true, beq_iff_eq] at h2
  obtain ⟨⟨b1, b2⟩, b3⟩ := h2
  have h3 := gTbl_in b1 b2
  unfold sW at h3
  rw [a1, a2, a3, h.2] at h3
  rw [a3] at b3
  exact ⟨h3, b3⟩
theorem s_getstatic {d : Nat} {M : Mt} {pc : Nat} {L S : List AV} {σ : Hp} {Q : Option Int → Hp → Prop} {idx g : Nat} (hl0 : lnkS M idx g = true)
    (hd : decode M.2.1 pc = .ok (.getstatic idx, 3)) (h : Runs d M (pc + 3) L (zR g 0 :: S) σ Q) : Runs d M pc L S σ Q := by
  obtain ⟨w1, w2⟩ := lnkS_ok hl0
  have hc : 0 < cntG g := by rcases w2 with rfl | rfl <;> decide
  refine Runs.step (L' := L) (S' := zR g 0 :: S) (σ' := σ) (fun oL oS oH => ⟨oL, okVs_cons hc oS⟩) (fun G p l e R s m args below meth c cells slots A QQ C oL oS H locs ls hW hl kk => ?_) h
  obtain ⟨hx, hb, hml, hown, hts, hR, hK⟩ := C
  exact va_gets hx hb (hW.2.2.2.1.2.2 g w2).1 hW.2.2.1 hown (hts _ w1) (fun _ h9 => h9) hd (kk H locs ls hW hl)
theorem s_iaload {d : Nat} {M : Mt} {pc : Nat} {L S : List AV} {σ : Hp} {Q : Option Int → Hp → Prop} {g x : Nat} {i : Int} (hk : (shp g).1 = 0) (hi : 0 ≤ i ∧ i < ((shp g).2.2.1 : Int))
    (hd : decode M.2.1 pc = .ok (.iaload, 1)) (h : Runs d M (pc + 1) L (zI (σ g x i.toNat) :: S) σ Q) : Runs d M pc L (zI i :: zR g x :: S) σ Q := by
  have hg : g < 52 := kind_lt (by omega)
  refine Runs.step (L' := L) (S' := zI (σ g x i.toNat) :: S) (σ' := σ) (fun oL oS oH => ⟨oL, okVs_cons (oH _ _ _) (okVs_tl (okVs_tl oS))⟩) (fun G p l e R s m args below meth c cells slots A QQ C oL oS H locs ls hW hl kk => ?_) h
  obtain ⟨hx, hb, hml, hown, hts, hR, hK⟩ := C
  obtain ⟨q0, he, -⟩ := ws_at G σ hg (okVs_hd (okVs_tl oS))
  obtain ⟨t0, ht⟩ := ty_at G hg (by omega)
  rw [cell_int hk] at he
  rw [show atyG g = .int by unfold atyG; rw [hk]; rfl] at ht
  have hi2 := okVs_hd oS
  refine va_iald hx hb hK hW.1 q0 t0 he ht (n32_in hi2 hi) hd ?_
  have := kk H locs ls hW hl
  rw [n32_nat hi.1 hi2]
  exact this
theorem s_baload {d : Nat} {M : Mt} {pc : Nat} {L S : List AV} {σ : Hp} {Q : Option Int → Hp → Prop} {g x : Nat} {i : Int} (hk : (shp g).1 = 1) (hi : 0 ≤ i ∧ i < ((shp g).2.2.1 : Int))
    (hd : decode M.2.1 pc = .ok (.baload, 1)) (h : Runs d M (pc + 1) L (zI (σ g x i.toNat) :: S) σ Q) : Runs d M pc L (zI i :: zR g x :: S) σ Q := by
  have hg : g < 52 := kind_lt (by omega)
  refine Runs.step (L' := L) (S' := zI (σ g x i.toNat) :: S) (σ' := σ) (fun oL oS oH => ⟨oL, okVs_cons (oH _ _ _) (okVs_tl (okVs_tl oS))⟩) (fun G p l e R s m args below meth c cells slots A QQ C oL oS H locs ls hW hl kk => ?_) h
  obtain ⟨hx, hb, hml, hown, hts, hR, hK⟩ := C
  obtain ⟨q0, he, -⟩ := ws_at G σ hg (okVs_hd (okVs_tl oS))
  obtain ⟨t0, ht⟩ := ty_at G hg (by omega)
  rw [cell_bool hk] at he
  rw [show atyG g = .boolean by unfold atyG; rw [hk]; rfl] at ht
  have hi2 := okVs_hd oS
  refine va_zald hx hb hK hW.1 q0 t0 he ht (n32_in hi2 hi) hd ?_
  have := kk H locs ls hW hl
  rw [n32_nat hi.1 hi2]
  exact this
theorem s_sload {d : Nat} {M : Mt} {pc : Nat} {L S : List AV} {σ : Hp} {Q : Option Int → Hp → Prop} {i : Int} (hi : 0 ≤ i ∧ i < σ 60 1 0)
    (hd : decode M.2.1 pc = .ok (.iaload, 1)) (h : Runs d M (pc + 1) L (zI (σ 60 0 i.toNat) :: S) σ Q) : Runs d M pc L (zI i :: zR 60 0 :: S) σ Q := by
  refine Runs.step (L' := L) (S' := zI (σ 60 0 i.toNat) :: S) (σ' := σ) (fun oL oS oH => ⟨oL, okVs_cons (oH _ _ _) (okVs_tl (okVs_tl oS))⟩) (fun G p l e R s m args below meth c cells slots A QQ C oL oS H locs ls hW hl kk => ?_) h
  obtain ⟨hx, hb, hml, hown, hts, hR, hK⟩ := C
  obtain ⟨⟨x1, x2, x3⟩, ⟨x4, x5⟩, x6⟩ := hW.2.2.2.1
  have hi2 := okVs_hd oS
  refine va_sld hx hb x1 x2 x3 hW.2.2.1 (n32_in hi2 (by rw [← x4]; exact hi)) hd ?_
  have := kk H locs ls hW hl
  rw [n32_nat hi.1 hi2]
  exact this
theorem s_tload {d : Nat} {M : Mt} {pc : Nat} {L S : List AV} {σ : Hp} {Q : Option Int → Hp → Prop} {i : Int} {g : Nat} (hg : g = 61 ∨ g = 62) (hi : 0 ≤ i ∧ i < 4)
    (hd : decode M.2.1 pc = .ok (.iaload, 1)) (h : Runs d M (pc + 1) L (zI (σ g 0 i.toNat) :: S) σ Q) : Runs d M pc L (zI i :: zR g 0 :: S) σ Q := by
  refine Runs.step (L' := L) (S' := zI (σ g 0 i.toNat) :: S) (σ' := σ) (fun oL oS oH => ⟨oL, okVs_cons (oH _ _ _) (okVs_tl (okVs_tl oS))⟩) (fun G p l e R s m args below meth c cells slots A QQ C oL oS H locs ls hW hl kk => ?_) h
  obtain ⟨hx, hb, hml, hown, hts, hR, hK⟩ := C
  have hi2 := okVs_hd oS
  refine va_ti hx hb (hW.2.2.2.1.2.2 g hg).2 hW.2.2.1 (n32_in hi2 hi) rfl hd ?_
  have := kk H locs ls hW hl
  rw [n32_nat hi.1 hi2]
  exact this
theorem up_int {σ : Hp} {g x : Nat} {i v : Int} : (fun j => n32 ((zup σ g x i.toNat v) g x j)) = upd (fun j => n32 (σ g x j)) i.toNat (n32 v) := by
  funext j
  by_cases h : j = i.toNat
  · simp [zup, upd, h]
  · simp [zup, upd, h]
theorem s_iastore {d : Nat} {M : Mt} {pc : Nat} {L S : List AV} {σ : Hp} {Q : Option Int → Hp → Prop} {g x : Nat} {i v : Int} (hk : (shp g).1 = 0) (hi : 0 ≤ i ∧ i < ((shp g).2.2.1 : Int))
    (hd : decode M.2.1 pc = .ok (.iastore, 1)) (h : Runs d M (pc + 1) L S (zup σ g x i.toNat v) Q) : Runs d M pc L (zI v :: zI i :: zR g x :: S) σ Q := by
  have hg : g < 52 := kind_lt (by omega)
  refine Runs.step (L' := L) (S' := S) (σ' := zup σ g x i.toNat v) (fun oL oS oH => ⟨oL, okVs_tl (okVs_tl (okVs_tl oS))⟩) (fun G p l e R s m args below meth c cells slots A QQ C oL oS H locs ls hW hl kk => ?_) h
  obtain ⟨hx, hb, hml, hown, hts, hR, hK⟩ := C
  obtain ⟨q0, he, hq⟩ := ws_at G σ hg (okVs_hd (okVs_tl (okVs_tl oS)))
  obtain ⟨t0, ht⟩ := ty_at G hg (by omega)
  rw [cell_int hk] at he
  rw [show atyG g = .int by unfold atyG; rw [hk]; rfl] at ht
  have hi2 := okVs_hd (okVs_tl oS)
  refine va_iast hx hb hK hW.1 hW.2.1 hW.2.2.1 q0 t0 he ht (n32_in hi2 hi) hd (fun H1 locs1 p1 p2 p3 => ?_)
  rw [n32_nat hi.1 hi2] at p1 p2
  exact kk H1 locs1 ls (Wld_up hg (okVs_hd oS) hW.2.2.2.1 hW.2.2.2.2 hq (by rw [cell_int hk, up_int]) p1 p2 p3) hl
theorem nar_z {v : Int} (h : v = 0 ∨ v = 1) : vp_nar .boolean (n32 v) = n32 v := by
  rcases h with rfl | rfl <;> decide
theorem s_bastore {d : Nat} {M : Mt} {pc : Nat} {L S : List AV} {σ : Hp} {Q : Option Int → Hp → Prop} {g x : Nat} {i v : Int} (hk : (shp g).1 = 1) (hi : 0 ≤ i ∧ i < ((shp g).2.2.1 : Int)) (hv : v = 0 ∨ v = 1)
    (hd : decode M.2.1 pc = .ok (.bastore, 1)) (h : Runs d M (pc + 1) L S (zup σ g x i.toNat v) Q) : Runs d M pc L (zI v :: zI i :: zR g x :: S) σ Q := by
  have hg : g < 52 := kind_lt (by omega)
  refine Runs.step (L' := L) (S' := S) (σ' := zup σ g x i.toNat v) (fun oL oS oH => ⟨oL, okVs_tl (okVs_tl (okVs_tl oS))⟩) (fun G p l e R s m args below meth c cells slots A QQ C oL oS H locs ls hW hl kk => ?_) h
  obtain ⟨hx, hb, hml, hown, hts, hR, hK⟩ := C
  obtain ⟨q0, he, hq⟩ := ws_at G σ hg (okVs_hd (okVs_tl (okVs_tl oS)))
  obtain ⟨t0, ht⟩ := ty_at G hg (by omega)
  rw [cell_bool hk] at he
  rw [show atyG g = .boolean by unfold atyG; rw [hk]; rfl] at ht
  have hi2 := okVs_hd (okVs_tl oS)
  refine va_zast hx hb hK hW.1 hW.2.1 hW.2.2.1 q0 t0 he ht (n32_in hi2 hi) hd (fun H1 locs1 p1 p2 p3 => ?_)
  rw [n32_nat hi.1 hi2, nar_z hv] at p1 p2
  exact kk H1 locs1 ls (Wld_up hg (okVs_hd oS) hW.2.2.2.1 hW.2.2.2.2 hq (by rw [cell_bool hk, up_int]) p1 p2 p3) hl
def arOK (g : Nat) : Bool := (shp g).1 != 2 || (cntG (tgtG g) == (shp g).2.2.1)
theorem arOK_all : (List.range 52).all arOK = true := by decide +kernel
theorem s_aaload {d : Nat} {M : Mt} {pc : Nat} {L S : List AV} {σ : Hp} {Q : Option Int → Hp → Prop} {g x : Nat} {i : Int} (hk : (shp g).1 = 2) (hi : 0 ≤ i ∧ i < ((shp g).2.2.1 : Int))
    (hd : decode M.2.1 pc = .ok (.aaload, 1)) (h : Runs d M (pc + 1) L (zR (tgtG g) i.toNat :: S) σ Q) : Runs d M pc L (zI i :: zR g x :: S) σ Q := by
  have hg : g < 52 := kind_lt (by omega)
  have hc : i.toNat < cntG (tgtG g) := by
    have h0 := List.all_eq_true.mp arOK_all g (List.mem_range.mpr hg)
    simp [arOK, hk] at h0
    omega
  refine Runs.step (L' := L) (S' := zR (tgtG g) i.toNat :: S) (σ' := σ) (fun oL oS oH => ⟨oL, okVs_cons hc (okVs_tl (okVs_tl oS))⟩) (fun G p l e R s m args below meth c cells slots A QQ C oL oS H locs ls hW hl kk => ?_) h
  obtain ⟨hx, hb, hml, hown, hts, hR, hK⟩ := C
  obtain ⟨q0, he, -⟩ := ws_at G σ hg (okVs_hd (okVs_tl oS))
  obtain ⟨t0, ht⟩ := ty_at G hg (by omega)
  rw [cell_ref hk] at he
  have hi2 := okVs_hd oS
  have href : (atyG g).isReference = true := by
    unfold atyG
    rw [hk]
    cases (shp (tgtG g)).1 <;> rfl
  have hin := n32_in hi2 hi
  have hlt : (n32 i).toNatClampNeg < (shp g).2.2.1 := Nat.not_le.mp fun q => hin (Or.inr q)
  refine W.aald (v := .ref (G.1 (tgtG g) i.toNat)) (ty := atyG g) hx hb (hW.1 q0 _ he) ((hK.2 t0 _ ht).1 (shp g).2.2.1 (fun j => va_rf (if j < (shp g).2.2.1 then some (G.1 (tgtG g) j) else none))) href (fun q => by cases q) (by show ¬ (n32 i < 0 ∨ (arrV _ _ _).slots.size ≤ _); rw [arrV_size]; exact hin) ?_ rfl rfl hd (kk H locs ls hW hl)
  show (arrV _ _ _).slots[_]? = _
  rw [arrV_read _ _ hlt, n32_nat hi.1 hi2]
  show some (va_rf (if i.toNat < (shp g).2.2.1 then some (G.1 (tgtG g) i.toNat) else none)) = _
  rw [if_pos (by omega)]
  rfl
theorem n32_ofNat (n : Nat) : Int32.ofNat n = n32 (n : Int) := by
  exact (Int32.ofInt_eq_ofNat).symm
theorem s_slen {d : Nat} {M : Mt} {pc : Nat} {L S : List AV} {σ : Hp} {Q : Option Int → Hp → Prop} (hd : decode M.2.1 pc = .ok (.arraylength, 1)) (h : Runs d M (pc + 1) L (zI (σ 60 1 0) :: S) σ Q) : Runs d M pc L (zR 60 0 :: S) σ Q := by
  refine Runs.step (L' := L) (S' := zI (σ 60 1 0) :: S) (σ' := σ) (fun oL oS oH => ⟨oL, okVs_cons (oH _ _ _) (okVs_tl oS)⟩) (fun G p l e R s m args below meth c cells slots A QQ C oL oS H locs ls hW hl kk => ?_) h
  obtain ⟨hx, hb, hml, hown, hts, hR, hK⟩ := C
  obtain ⟨⟨x1, x2, x3⟩, ⟨x4, x5⟩, x6⟩ := hW.2.2.2.1
  refine va_slen hx hb x1 x2 x3 hW.2.2.1 hd ?_
  rw [n32_ofNat, ← x4]
  exact kk H locs ls hW hl
theorem s_alen {d : Nat} {M : Mt} {pc : Nat} {L S : List AV} {σ : Hp} {Q : Option Int → Hp → Prop} {g x : Nat} (hk : (shp g).1 = 0) (hd : decode M.2.1 pc = .ok (.arraylength, 1)) (h : Runs d M (pc + 1) L (zI ((shp g).2.2.1 : Int) :: S) σ Q) : Runs d M pc L (zR g x :: S) σ Q := by
  have hg : g < 52 := kind_lt (by omega)
  have hsm : ∀ g, g < 52 → (shp g).2.2.1 < 1000 := by decide +kernel
  have := hsm g hg
  refine Runs.step (L' := L) (S' := zI ((shp g).2.2.1 : Int) :: S) (σ' := σ) (fun oL oS oH => ⟨oL, okVs_cons (show inR _ from ⟨by omega, by omega⟩) (okVs_tl oS)⟩) (fun G p l e R s m args below meth c cells slots A QQ C oL oS H locs ls hW hl kk => ?_) h
  obtain ⟨hx, hb, hml, hown, hts, hR, hK⟩ := C
  obtain ⟨q0, he, -⟩ := ws_at G σ hg (okVs_hd oS)
  obtain ⟨t0, ht⟩ := ty_at G hg (by omega)
  rw [cell_int hk] at he
  exact va_alen hx hb hK hW.1 q0 t0 he ht (n32_ofNat _) hd (kk H locs ls hW hl)
end
section
/-! branches -/
theorem r_if_eq {d : Nat} {M : Mt} {pc : Nat} {L S : List AV} {σ : Hp} {Q : Option Int → Hp → Prop} {a off : Int} {tgt : Nat} (hd : decode M.2.1 pc = .ok (.ifCond .eq off, 3)) (ht : (pc : Int) + off = (tgt : Int)) (kt : a = 0 → Runs d M tgt L S σ Q) (kf : ¬ a = 0 → Runs d M (pc + 3) L S σ Q) : Runs d M pc L (zI a :: S) σ Q := by
  intro oL oS G p l e R s m args below meth c cells slots A QQ C H locs ls hW hl kk
  have hh : _ := n32_inj (okVs_hd oS) inR_0
  exact lv_if_eq C.1 C.2.1 hd ht (fun q => kt (hh.mp q) oL (okVs_tl oS) G p l e R s m args below meth c cells slots A QQ C H locs ls hW hl kk) (fun q => kf (fun z => q (hh.mpr z)) oL (okVs_tl oS) G p l e R s m args below meth c cells slots A QQ C H locs ls hW hl kk)
theorem r_if_ne {d : Nat} {M : Mt} {pc : Nat} {L S : List AV} {σ : Hp} {Q : Option Int → Hp → Prop} {a off : Int} {tgt : Nat} (hd : decode M.2.1 pc = .ok (.ifCond .ne off, 3)) (ht : (pc : Int) + off = (tgt : Int)) (kt : ¬ a = 0 → Runs d M tgt L S σ Q) (kf : a = 0 → Runs d M (pc + 3) L S σ Q) : Runs d M pc L (zI a :: S) σ Q := by
  intro oL oS G p l e R s m args below meth c cells slots A QQ C H locs ls hW hl kk
  have hh : _ := n32_inj (okVs_hd oS) inR_0
  exact lv_if_ne C.1 C.2.1 hd ht (fun q => kt (fun z => q (hh.mpr z)) oL (okVs_tl oS) G p l e R s m args below meth c cells slots A QQ C H locs ls hW hl kk) (fun q => kf (hh.mp q) oL (okVs_tl oS) G p l e R s m args below meth c cells slots A QQ C H locs ls hW hl kk)
theorem r_if_lt {d : Nat} {M : Mt} {pc : Nat} {L S : List AV} {σ : Hp} {Q : Option Int → Hp → Prop} {a off : Int} {tgt : Nat} (hd : decode M.2.1 pc = .ok (.ifCond .lt off, 3)) (ht : (pc : Int) + off = (tgt : Int)) (kt : a < 0 → Runs d M tgt L S σ Q) (kf : ¬ a < 0 → Runs d M (pc + 3) L S σ Q) : Runs d M pc L (zI a :: S) σ Q := by
  intro oL oS G p l e R s m args below meth c cells slots A QQ C H locs ls hW hl kk
  have hh : _ := n32_lt (okVs_hd oS) inR_0
  exact lv_if_lt C.1 C.2.1 hd ht (fun q => kt (hh.mp q) oL (okVs_tl oS) G p l e R s m args below meth c cells slots A QQ C H locs ls hW hl kk) (fun q => kf (fun z => q (hh.mpr z)) oL (okVs_tl oS) G p l e R s m args below meth c cells slots A QQ C H locs ls hW hl kk)
theorem r_if_ge {d : Nat} {M : Mt} {pc : Nat} {L S : List AV} {σ : Hp} {Q : Option Int → Hp → Prop} {a off : Int} {tgt : Nat} (hd : decode M.2.1 pc = .ok (.ifCond .ge off, 3)) (ht : (pc : Int) + off = (tgt : Int)) (kt : 0 ≤ a → Runs d M tgt L S σ Q) (kf : ¬ 0 ≤ a → Runs d M (pc + 3) L S σ Q) : Runs d M pc L (zI a :: S) σ Q := by
  intro oL oS G p l e R s m args below meth c cells slots A QQ C H locs ls hW hl kk
  have hh : _ := n32_le inR_0 (okVs_hd oS)
  exact lv_if_ge C.1 C.2.1 hd ht (fun q => kt (hh.mp q) oL (okVs_tl oS) G p l e R s m args below meth c cells slots A QQ C H locs ls hW hl kk) (fun q => kf (fun z => q (hh.mpr z)) oL (okVs_tl oS) G p l e R s m args below meth c cells slots A QQ C H locs ls hW hl kk)
theorem r_if_gt {d : Nat} {M : Mt} {pc : Nat} {L S : List AV} {σ : Hp} {Q : Option Int → Hp → Prop} {a off : Int} {tgt : Nat} (hd : decode M.2.1 pc = .ok (.ifCond .gt off, 3)) (ht : (pc : Int) + off = (tgt : Int)) (kt : 0 < a → Runs d M tgt L S σ Q) (kf : ¬ 0 < a → Runs d M (pc + 3) L S σ Q) : Runs d M pc L (zI a :: S) σ Q := by
  intro oL oS G p l e R s m args below meth c cells slots A QQ C H locs ls hW hl kk
  have hh : _ := n32_lt inR_0 (okVs_hd oS)
  exact lv_if_gt C.1 C.2.1 hd ht (fun q => kt (hh.mp q) oL (okVs_tl oS) G p l e R s m args below meth c cells slots A QQ C H locs ls hW hl kk) (fun q => kf (fun z => q (hh.mpr z)) oL (okVs_tl oS) G p l e R s m args below meth c cells slots A QQ C H locs ls hW hl kk)
theorem r_if_le {d : Nat} {M : Mt} {pc : Nat} {L S : List AV} {σ : Hp} {Q : Option Int → Hp → Prop} {a off : Int} {tgt : Nat} (hd : decode M.2.1 pc = .ok (.ifCond .le off, 3)) (ht : (pc : Int) + off = (tgt : Int)) (kt : a ≤ 0 → Runs d M tgt L S σ Q) (kf : ¬ a ≤ 0 → Runs d M (pc + 3) L S σ Q) : Runs d M pc L (zI a :: S) σ Q := by
  intro oL oS G p l e R s m args below meth c cells slots A QQ C H locs ls hW hl kk
  have hh : _ := n32_le (okVs_hd oS) inR_0
  exact lv_if_le C.1 C.2.1 hd ht (fun q => kt (hh.mp q) oL (okVs_tl oS) G p l e R s m args below meth c cells slots A QQ C H locs ls hW hl kk) (fun q => kf (fun z => q (hh.mpr z)) oL (okVs_tl oS) G p l e R s m args below meth c cells slots A QQ C H locs ls hW hl kk)
theorem r_icmp_eq {d : Nat} {M : Mt} {pc : Nat} {L S : List AV} {σ : Hp} {Q : Option Int → Hp → Prop} {a b off : Int} {tgt : Nat} (hd : decode M.2.1 pc = .ok (.if_icmp .eq off, 3)) (ht : (pc : Int) + off = (tgt : Int)) (kt : a = b → Runs d M tgt L S σ Q) (kf : ¬ a = b → Runs d M (pc + 3) L S σ Q) : Runs d M pc L (zI b :: zI a :: S) σ Q := by
  intro oL oS G p l e R s m args below meth c cells slots A QQ C H locs ls hW hl kk
  have hh : _ := n32_inj (okVs_hd (okVs_tl oS)) (okVs_hd oS)
  exact lv_icmp_eq C.1 C.2.1 hd ht (fun q => kt (hh.mp q) oL (okVs_tl (okVs_tl oS)) G p l e R s m args below meth c cells slots A QQ C H locs ls hW hl kk) (fun q => kf (fun z => q (hh.mpr z)) oL (okVs_tl (okVs_tl oS)) G p l e R s m args below meth c cells slots A QQ C H locs ls hW hl kk)
theorem r_icmp_ne {d : Nat} {M : Mt} {pc : Nat} {L S : List AV} {σ : Hp} {Q : Option Int → Hp → Prop} {a b off : Int} {tgt : Nat} (hd : decode M.2.1 pc = .ok (.if_icmp .ne off, 3)) (ht : (pc : Int) + off = (tgt : Int)) (kt : ¬ a = b → Runs d M tgt L S σ Q) (kf : a = b → Runs d M (pc + 3) L S σ Q) : Runs d M pc L (zI b :: zI a :: S) σ Q := by
  intro oL oS G p l e R s m args below meth c cells slots A QQ C H locs ls hW hl kk
  have hh : _ := n32_inj (okVs_hd (okVs_tl oS)) (okVs_hd oS)
  exact lv_icmp_ne C.1 C.2.1 hd ht (fun q => kt (fun z => q (hh.mpr z)) oL (okVs_tl (okVs_tl oS)) G p l e R s m args below meth c cells slots A QQ C H locs ls hW hl kk) (fun q => kf (hh.mp q) oL (okVs_tl (okVs_tl oS)) G p l e R s m args below meth c cells slots A QQ C H locs ls hW hl kk)
theorem r_icmp_lt {d : Nat} {M : Mt} {pc : Nat} {L S : List AV} {σ : Hp} {Q : Option Int → Hp → Prop} {a b off : Int} {tgt : Nat} (hd : decode M.2.1 pc = .ok (.if_icmp .lt off, 3)) (ht : (pc : Int) + off = (tgt : Int)) (kt : a < b → Runs d M tgt L S σ Q) (kf : ¬ a < b → Runs d M (pc + 3) L S σ Q) : Runs d M pc L (zI b :: zI a :: S) σ Q := by
  intro oL oS G p l e R s m args below meth c cells slots A QQ C H locs ls hW hl kk
  have hh : _ := n32_lt (okVs_hd (okVs_tl oS)) (okVs_hd oS)
  exact lv_icmp_lt C.1 C.2.1 hd ht (fun q => kt (hh.mp q) oL (okVs_tl (okVs_tl oS)) G p l e R s m args below meth c cells slots A QQ C H locs ls hW hl kk) (fun q => kf (fun z => q (hh.mpr z)) oL (okVs_tl (okVs_tl oS)) G p l e R s m args below meth c cells slots A QQ C H locs ls hW hl kk)
theorem r_icmp_ge {d : Nat} {M : Mt} {pc : Nat} {L S : List AV} {σ : Hp} {Q : Option Int → Hp → Prop} {a b off : Int} {tgt : Nat} (hd : decode M.2.1 pc = .ok (.if_icmp .ge off, 3)) (ht : (pc : Int) + off = (tgt : Int)) (kt : b ≤ a → Runs d M tgt L S σ Q) (kf : ¬ b ≤ a → Runs d M (pc + 3) L S σ Q) : Runs d M pc L (zI b :: zI a :: S) σ Q := by
  intro oL oS G p l e R s m args below meth c cells slots A QQ C H locs ls hW hl kk
  have hh : _ := n32_le (okVs_hd oS) (okVs_hd (okVs_tl oS))
  exact lv_icmp_ge C.1 C.2.1 hd ht (fun q => kt (hh.mp q) oL (okVs_tl (okVs_tl oS)) G p l e R s m args below meth c cells slots A QQ C H locs ls hW hl kk) (fun q => kf (fun z => q (hh.mpr z)) oL (okVs_tl (okVs_tl oS)) G p l e R s m args below meth c cells slots A QQ C H locs ls hW hl kk)
theorem r_icmp_gt {d : Nat} {M : Mt} {pc : Nat} {L S : List AV} {σ : Hp} {Q : Option Int → Hp → Prop} {a b off : Int} {tgt : Nat} (hd : decode M.2.1 pc = .ok (.if_icmp .gt off, 3)) (ht : (pc : Int) + off = (tgt : Int)) (kt : b < a → Runs d M tgt L S σ Q) (kf : ¬ b < a → Runs d M (pc + 3) L S σ Q) : Runs d M pc L (zI b :: zI a :: S) σ Q := by
  intro oL oS G p l e R s m args below meth c cells slots A QQ C H locs ls hW hl kk
  have hh : _ := n32_lt (okVs_hd oS) (okVs_hd (okVs_tl oS))
  exact lv_icmp_gt C.1 C.2.1 hd ht (fun q => kt (hh.mp q) oL (okVs_tl (okVs_tl oS)) G p l e R s m args below meth c cells slots A QQ C H locs ls hW hl kk) (fun q => kf (fun z => q (hh.mpr z)) oL (okVs_tl (okVs_tl oS)) G p l e R s m args below meth c cells slots A QQ C H locs ls hW hl kk)
theorem r_icmp_le {d : Nat} {M : Mt} {pc : Nat} {L S : List AV} {σ : Hp} {Q : Option Int → Hp → Prop} {a b off : Int} {tgt : Nat} (hd : decode M.2.1 pc = .ok (.if_icmp .le off, 3)) (ht : (pc : Int) + off = (tgt : Int)) (kt : a ≤ b → Runs d M tgt L S σ Q) (kf : ¬ a ≤ b → Runs d M (pc + 3) L S σ Q) : Runs d M pc L (zI b :: zI a :: S) σ Q := by
  intro oL oS G p l e R s m args below meth c cells slots A QQ C H locs ls hW hl kk
  have hh : _ := n32_le (okVs_hd (okVs_tl oS)) (okVs_hd oS)
  exact lv_icmp_le C.1 C.2.1 hd ht (fun q => kt (hh.mp q) oL (okVs_tl (okVs_tl oS)) G p l e R s m args below meth c cells slots A QQ C H locs ls hW hl kk) (fun q => kf (fun z => q (hh.mpr z)) oL (okVs_tl (okVs_tl oS)) G p l e R s m args below meth c cells slots A QQ C H locs ls hW hl kk)
theorem r_goto {d : Nat} {M : Mt} {pc : Nat} {L S : List AV} {σ : Hp} {Q : Option Int → Hp → Prop} {off : Int} {tgt : Nat} (hd : decode M.2.1 pc = .ok (.goto off, 3)) (ht : (pc : Int) + off = (tgt : Int)) (k : Runs d M tgt L S σ Q) : Runs d M pc L S σ Q := by
  intro oL oS G p l e R s m args below meth c cells slots A QQ C H locs ls hW hl kk
  exact lv_goto C.1 C.2.1 hd ht (k oL oS G p l e R s m args below meth c cells slots A QQ C H locs ls hW hl kk)
theorem r_tableOut {d : Nat} {M : Mt} {pc : Nat} {L S : List AV} {σ : Hp} {Q : Option Int → Hp → Prop} {a dflt lo hi : Int} {offs : Array Int} {len tgt : Nat} (hd : decode M.2.1 pc = .ok (.tableswitch dflt lo hi offs, len)) (h : a < lo ∨ hi < a) (ht : (pc : Int) + dflt = (tgt : Int)) (k : Runs d M tgt L S σ Q) : Runs d M pc L (zI a :: S) σ Q := by
  intro oL oS G p l e R s m args below meth c cells slots A QQ C H locs ls hW hl kk
  exact lv_tableOut C.1 C.2.1 hd (by rw [n32_canon (okVs_hd oS)]; exact h) ht (k oL (okVs_tl oS) G p l e R s m args below meth c cells slots A QQ C H locs ls hW hl kk)
theorem r_tableIn {d : Nat} {M : Mt} {pc : Nat} {L S : List AV} {σ : Hp} {Q : Option Int → Hp → Prop} {a dflt lo hi off : Int} {offs : Array Int} {len tgt : Nat} (hd : decode M.2.1 pc = .ok (.tableswitch dflt lo hi offs, len)) (h1 : lo ≤ a) (h2 : a ≤ hi) (ho : offs[(a - lo).toNat]? = some off) (ht : (pc : Int) + off = (tgt : Int)) (k : Runs d M tgt L S σ Q) : Runs d M pc L (zI a :: S) σ Q := by
  intro oL oS G p l e R s m args below meth c cells slots A QQ C H locs ls hW hl kk
  exact lv_tableIn C.1 C.2.1 hd (by rw [n32_canon (okVs_hd oS)]; omega) (by rw [n32_canon (okVs_hd oS)]; omega) (by rw [n32_canon (okVs_hd oS)]; exact ho) ht (k oL (okVs_tl oS) G p l e R s m args below meth c cells slots A QQ C H locs ls hW hl kk)
theorem r_lookup {d : Nat} {M : Mt} {pc : Nat} {L S : List AV} {σ : Hp} {Q : Option Int → Hp → Prop} {a dflt off : Int} {ps : Array (Int × Int)} {len tgt : Nat} (hd : decode M.2.1 pc = .ok (.lookupswitch dflt ps, len)) (hp : (ps.toList.zip (ps.toList.drop 1)).all (fun (a, next) => a.1 < next.1) = true) (ho : Op.lookupswitch.offset ps.toList dflt a = off) (ht : (pc : Int) + off = (tgt : Int)) (k : Runs d M tgt L S σ Q) : Runs d M pc L (zI a :: S) σ Q := by
  intro oL oS G p l e R s m args below meth c cells slots A QQ C H locs ls hW hl kk
  exact lv_lookup C.1 C.2.1 hd hp (by rw [n32_canon (okVs_hd oS)]; exact ho) ht (k oL (okVs_tl oS) G p l e R s m args below meth c cells slots A QQ C H locs ls hW hl kk)
theorem r_ret {d : Nat} {M : Mt} {pc : Nat} {L : List AV} {σ : Hp} {Q : Option Int → Hp → Prop} {z : Int} (hd : decode M.2.1 pc = .ok (.ireturn, 1)) (hr : M.2.2.2.1 = some .int) (h : inR z → Q (some z) σ) : Runs d M pc L [zI z] σ Q := by
  intro oL oS G p l e R s m args below meth c cells slots A QQ C H locs ls hW hl kk
  exact kk (some z) σ H locs ls pc (h (okVs_hd oS)) ⟨⟨okVs_hd oS, Or.inl hr⟩, hd⟩ hW
theorem r_retz {d : Nat} {M : Mt} {pc : Nat} {L : List AV} {σ : Hp} {Q : Option Int → Hp → Prop} {z : Int} (hd : decode M.2.1 pc = .ok (.ireturn, 1)) (hr : M.2.2.2.1 = some .boolean) (hz : z = 0 ∨ z = 1) (h : Q (some z) σ) : Runs d M pc L [zI z] σ Q := by
  intro oL oS G p l e R s m args below meth c cells slots A QQ C H locs ls hW hl kk
  exact kk (some z) σ H locs ls pc h ⟨⟨okVs_hd oS, Or.inr ⟨hr, hz⟩⟩, hd⟩ hW
theorem r_retv {d : Nat} {M : Mt} {pc : Nat} {L : List AV} {σ : Hp} {Q : Option Int → Hp → Prop} (hd : decode M.2.1 pc = .ok (.return_, 1)) (hr : M.2.2.2.1 = none) (h : Q none σ) : Runs d M pc L [] σ Q := by
  intro oL oS G p l e R s m args below meth c cells slots A QQ C H locs ls hW hl kk
  exact kk none σ H locs ls pc h ⟨hr, hd⟩ hW
/-! a stretch of instructions without branches and calls -/
abbrev Ins : Type := Instr × Nat × Nat × Int
abbrev XR : Type := Option (List AV × List AV × Hp × List Prop)
abbrev qO (i : Instr) : Ins := (i, 0, 0, 0)
abbrev qF (i : Instr) (c k : Nat) : Ins := (i, c, k, 0)
abbrev qC (i : Instr) (v : Int) : Ins := (i, 0, 0, v)
def x_iconst (n : Int) (L S : List AV) (σ : Hp) (c k : Nat) (v : Int) : XR := some (L, zI n :: S, σ, [])
def x_bipush (n : Int) (L S : List AV) (σ : Hp) (c k : Nat) (v : Int) : XR := some (L, zI n :: S, σ, [])
def x_sipush (n : Int) (L S : List AV) (σ : Hp) (c k : Nat) (v : Int) : XR := some (L, zI n :: S, σ, [])
def x_ldc (i : Nat) (L S : List AV) (σ : Hp) (c k : Nat) (v : Int) : XR := some (L, zI v :: S, σ, [])
def x_ldc_w (i : Nat) (L S : List AV) (σ : Hp) (c k : Nat) (v : Int) : XR := some (L, zI v :: S, σ, [])
def x_ldc2_w (i : Nat) (L S : List AV) (σ : Hp) (c k : Nat) (v : Int) : XR := some (L, zJ (Int64.ofInt v) :: S, σ, [])
def x_iload (i : Nat) (L S : List AV) (σ : Hp) (c k : Nat) (v : Int) : XR := match L[i]? with
  | some (.inl z) => some (L, zI z :: S, σ, [])
  | _ => none
def x_iload_n (i : Fin 4) (L S : List AV) (σ : Hp) (c k : Nat) (v : Int) : XR := match L[i.val]? with
  | some (.inl z) => some (L, zI z :: S, σ, [])
  | _ => none
def x_aload (i : Nat) (L S : List AV) (σ : Hp) (c k : Nat) (v : Int) : XR := match L[i]? with
  | some (.inr (.inl (g, x))) => some (L, zR g x :: S, σ, [])
  | _ => none
def x_aload_n (i : Fin 4) (L S : List AV) (σ : Hp) (c k : Nat) (v : Int) : XR := match L[i.val]? with
  | some (.inr (.inl (g, x))) => some (L, zR g x :: S, σ, [])
  | _ => none
def x_lload_n (i : Fin 4) (L S : List AV) (σ : Hp) (c k : Nat) (v : Int) : XR := match L[i.val]? with
  | some (.inr (.inr (.inl x))) => some (L, zJ x :: S, σ, [])
  | _ => none
def x_istore (i : Nat) (L S : List AV) (σ : Hp) (c k : Nat) (v : Int) : XR := match S with
  | .inl z :: S => if noJ L i = true ∧ i < L.length then some (L.set i (zI z), S, σ, []) else none
  | _ => none
def x_istore_n (i : Fin 4) (L S : List AV) (σ : Hp) (c k : Nat) (v : Int) : XR := match S with
  | .inl z :: S => if noJ L i.val = true ∧ i.val < L.length then some (L.set i.val (zI z), S, σ, []) else none
  | _ => none
def x_iinc (i : Nat) (n : Int) (L S : List AV) (σ : Hp) (c k : Nat) (v : Int) : XR := match L[i]? with
  | some (.inl z) => if noJ L i = true ∧ i < L.length then some (L.set i (zI (z + n)), S, σ, [-2147483648 ≤ z + n ∧ z + n ≤ 2147483647]) else none
  | _ => none
def x_iadd (L S : List AV) (σ : Hp) (c k : Nat) (v : Int) : XR := match S with
  | .inl b :: .inl a :: S => if v = 0 then some (L, zI (a + b) :: S, σ, [-2147483648 ≤ a + b ∧ a + b ≤ 2147483647]) else some (L, zI (wrap (a + b)) :: S, σ, [])
  | _ => none
def x_isub (L S : List AV) (σ : Hp) (c k : Nat) (v : Int) : XR := match S with
  | .inl b :: .inl a :: S => if v = 0 then some (L, zI (a - b) :: S, σ, [-2147483648 ≤ a - b ∧ a - b ≤ 2147483647]) else some (L, zI (wrap (a - b)) :: S, σ, [])
  | _ => none
def x_imul (L S : List AV) (σ : Hp) (c k : Nat) (v : Int) : XR := match S with
  | .inl b :: .inl a :: S => if v = 0 then some (L, zI (a * b) :: S, σ, [-2147483648 ≤ a * b ∧ a * b ≤ 2147483647]) else some (L, zI (wrap (a * b)) :: S, σ, [])
  | _ => none
def x_iand (L S : List AV) (σ : Hp) (c k : Nat) (v : Int) : XR := match S with
  | .inl b :: .inl a :: S => some (L, zI (zand a b) :: S, σ, [])
  | _ => none
def x_ior (L S : List AV) (σ : Hp) (c k : Nat) (v : Int) : XR := match S with
  | .inl b :: .inl a :: S => some (L, zI (zor a b) :: S, σ, [])
  | _ => none
def x_ixor (L S : List AV) (σ : Hp) (c k : Nat) (v : Int) : XR := match S with
  | .inl b :: .inl a :: S => some (L, zI (zxor a b) :: S, σ, [])
  | _ => none
def x_ishl (L S : List AV) (σ : Hp) (c k : Nat) (v : Int) : XR := match S with
  | .inl b :: .inl a :: S => some (L, zI (zshl a b) :: S, σ, [])
  | _ => none
def x_ishr (L S : List AV) (σ : Hp) (c k : Nat) (v : Int) : XR := match S with
  | .inl b :: .inl a :: S => some (L, zI (zshr a b) :: S, σ, [])
  | _ => none
def x_iushr (L S : List AV) (σ : Hp) (c k : Nat) (v : Int) : XR := match S with
  | .inl b :: .inl a :: S => some (L, zI (zushr a b) :: S, σ, [])
  | _ => none
def x_ineg (L S : List AV) (σ : Hp) (c k : Nat) (v : Int) : XR := match S with
  | .inl a :: S => some (L, zI (-a) :: S, σ, [-2147483648 ≤ -a ∧ -a ≤ 2147483647])
  | _ => none
def x_idiv (L S : List AV) (σ : Hp) (c k : Nat) (v : Int) : XR := match S with
  | .inl b :: .inl a :: S => some (L, zI (zdiv a b) :: S, σ, [b ≠ 0])
  | _ => none
def x_irem (L S : List AV) (σ : Hp) (c k : Nat) (v : Int) : XR := match S with
  | .inl b :: .inl a :: S => some (L, zI (zrem a b) :: S, σ, [b ≠ 0])
  | _ => none
def x_i2l (L S : List AV) (σ : Hp) (c k : Nat) (v : Int) : XR := match S with
  | .inl a :: S => some (L, zJ (zi2l a) :: S, σ, [])
  | _ => none
def x_l2i (L S : List AV) (σ : Hp) (c k : Nat) (v : Int) : XR := match S with
  | .inr (.inr (.inl x)) :: S => some (L, zI (zl2i x) :: S, σ, [])
  | _ => none
def x_lshl (L S : List AV) (σ : Hp) (c k : Nat) (v : Int) : XR := match S with
  | .inl b :: .inr (.inr (.inl x)) :: S => some (L, zJ (zlshl x b) :: S, σ, [])
  | _ => none
def x_lshr (L S : List AV) (σ : Hp) (c k : Nat) (v : Int) : XR := match S with
  | .inl b :: .inr (.inr (.inl x)) :: S => some (L, zJ (zlshr x b) :: S, σ, [])
  | _ => none
def x_lushr (L S : List AV) (σ : Hp) (c k : Nat) (v : Int) : XR := match S with
  | .inl b :: .inr (.inr (.inl x)) :: S => some (L, zJ (zlushr x b) :: S, σ, [])
  | _ => none
def x_land (L S : List AV) (σ : Hp) (c k : Nat) (v : Int) : XR := match S with
  | .inr (.inr (.inl y)) :: .inr (.inr (.inl x)) :: S => some (L, zJ (x &&& y) :: S, σ, [])
  | _ => none
def x_lor (L S : List AV) (σ : Hp) (c k : Nat) (v : Int) : XR := match S with
  | .inr (.inr (.inl y)) :: .inr (.inr (.inl x)) :: S => some (L, zJ (x ||| y) :: S, σ, [])
  | _ => none
def x_dup (L S : List AV) (σ : Hp) (c k : Nat) (v : Int) : XR := match S with
  | w :: S => if cat1 w = true then some (L, w :: w :: S, σ, []) else none
  | _ => none
def x_dup2 (L S : List AV) (σ : Hp) (c k : Nat) (v : Int) : XR := match S with
  | w :: y :: S => if cat1 w = true ∧ cat1 y = true then some (L, w :: y :: w :: y :: S, σ, []) else none
  | _ => none
def x_getfield (i : Nat) (L S : List AV) (σ : Hp) (c k : Nat) (v : Int) : XR := match S with
  | .inr (.inl (g, x)) :: S => if (shp g).1 = c + 3 then (match (shp g).2.2.2[k]? with
    | some f => some (L, fA σ g x k f :: S, σ, [])
    | none => none) else none
  | _ => none
def x_putfield (i : Nat) (L S : List AV) (σ : Hp) (c k : Nat) (v : Int) : XR := match S with
  | .inl w :: .inr (.inl (g, x)) :: S => if (shp g).1 = c + 3 then (match (shp g).2.2.2[k]? with
    | some (0, _) => some (L, S, zup σ g x k w, [])
    | some (1, _) => some (L, S, zup σ g x k w, [w = 0 ∨ w = 1])
    | _ => none) else none
  | _ => none
def x_getstatic (i : Nat) (L S : List AV) (σ : Hp) (c k : Nat) (v : Int) : XR := some (L, zR c 0 :: S, σ, [])
def x_iaload (L S : List AV) (σ : Hp) (c k : Nat) (v : Int) : XR := match S with
  | .inl i :: .inr (.inl (g, x)) :: S => (match (shp g).1, x with
    | 0, x => some (L, zI (σ g x i.toNat) :: S, σ, [0 ≤ i ∧ i < ((shp g).2.2.1 : Int)])
    | 40, 0 => if g = 60 then some (L, zI (σ 60 0 i.toNat) :: S, σ, [0 ≤ i ∧ i < σ 60 1 0]) else none
    | 41, 0 => if g = 61 ∨ g = 62 then some (L, zI (σ g 0 i.toNat) :: S, σ, [0 ≤ i ∧ i < 4]) else none
    | _, _ => none)
  | _ => none
def x_iastore (L S : List AV) (σ : Hp) (c k : Nat) (v : Int) : XR := match S with
  | .inl w :: .inl i :: .inr (.inl (g, x)) :: S => if (shp g).1 = 0 then some (L, S, zup σ g x i.toNat w, [0 ≤ i ∧ i < ((shp g).2.2.1 : Int)]) else none
  | _ => none
def x_baload (L S : List AV) (σ : Hp) (c k : Nat) (v : Int) : XR := match S with
  | .inl i :: .inr (.inl (g, x)) :: S => if (shp g).1 = 1 then some (L, zI (σ g x i.toNat) :: S, σ, [0 ≤ i ∧ i < ((shp g).2.2.1 : Int)]) else none
  | _ => none
def x_bastore (L S : List AV) (σ : Hp) (c k : Nat) (v : Int) : XR := match S with
  | .inl w :: .inl i :: .inr (.inl (g, x)) :: S => if (shp g).1 = 1 then some (L, S, zup σ g x i.toNat w, [0 ≤ i ∧ i < ((shp g).2.2.1 : Int), w = 0 ∨ w = 1]) else none
  | _ => none
def x_aaload (L S : List AV) (σ : Hp) (c k : Nat) (v : Int) : XR := match S with
  | .inl i :: .inr (.inl (g, x)) :: S => if (shp g).1 = 2 then some (L, zR (tgtG g) i.toNat :: S, σ, [0 ≤ i ∧ i < ((shp g).2.2.1 : Int)]) else none
  | _ => none
def x_arraylength (L S : List AV) (σ : Hp) (c k : Nat) (v : Int) : XR := match S with
  | .inr (.inl (g, x)) :: S => (match (shp g).1, x with
    | 0, x => some (L, zI ((shp g).2.2.1 : Int) :: S, σ, [])
    | 40, 0 => if g = 60 then some (L, zI (σ 60 1 0) :: S, σ, []) else none
    | _, _ => none)
  | _ => none
def x_goto (n : Int) (L S : List AV) (σ : Hp) (c k : Nat) (v : Int) : XR := some (L, S, σ, [])
def lnkC (M : Mt) (idx : Nat) (v : Int) : Bool := cTab.any (fun e => e.1 == M.2.2.2.2 && e.2.1 == idx && e.2.2.1 == v) && decide (ownN M.2.2.2.2 = M.1.cls)
theorem lnkC_ok {M : Mt} {idx : Nat} {v : Int} (h : lnkC M idx v = true) : Cond.constant M.1.cls idx (n32 v) ∈ gTbl ∧ inR v := by
  unfold lnkC at h
  simp only [Bool.and_eq_true, decide_eq_true_eq] at h
  obtain ⟨e, he, h1⟩ := List.any_eq_true.mp h.1
  simp only [Bool.and_eq_true, beq_iff_eq] at h1
  obtain ⟨⟨a1, a2⟩, a3⟩ := h1
  have h2 := List.all_eq_true.mp cTab_ok e he
  simp only [Bool.and_eq_true, decide_eq_true_eq] at h2
  obtain ⟨⟨b1, b2⟩, b3⟩ := h2
  have h3 := gTbl_in b1 b2
  unfold cW at h3
  rw [a1, a2, a3, h.2] at h3
  rw [a3] at b3
  exact ⟨h3, b3⟩
def lnkJ (M : Mt) (idx : Nat) (v : Int) : Bool := jTab.any (fun e => e.1 == M.2.2.2.2 && e.2.1 == idx && e.2.2.1 == v) && decide (ownN M.2.2.2.2 = M.1.cls)
theorem lnkJ_ok {M : Mt} {idx : Nat} {v : Int} (h : lnkJ M idx v = true) : Cond.constantLong M.1.cls idx (Int64.ofInt v) ∈ gTbl := by
  unfold lnkJ at h
  simp only [Bool.and_eq_true, decide_eq_true_eq] at h
  obtain ⟨e, he, h1⟩ := List.any_eq_true.mp h.1
  simp only [Bool.and_eq_true, beq_iff_eq] at h1
  obtain ⟨⟨a1, a2⟩, a3⟩ := h1
  have h2 := List.all_eq_true.mp jTab_ok e he
  simp only [Bool.and_eq_true, decide_eq_true_eq] at h2
  have h3 := gTbl_in h2.1 h2.2
  unfold jW at h3
  rw [a1, a2, a3, h.2] at h3
  exact h3
def ex1 (i : Instr) (c k : Nat) (v : Int) (L S : List AV) (σ : Hp) : XR := match i with
  | .iconst n => x_iconst n L S σ c k v
  | .bipush n => x_bipush n L S σ c k v
  | .sipush n => x_sipush n L S σ c k v
  | .ldc i => x_ldc i L S σ c k v
  | .ldc_w i => x_ldc_w i L S σ c k v
  | .ldc2_w i => x_ldc2_w i L S σ c k v
  | .iload i => x_iload i L S σ c k v
  | .iload_n i => x_iload_n i L S σ c k v
  | .aload i => x_aload i L S σ c k v
  | .aload_n i => x_aload_n i L S σ c k v
  | .lload_n i => x_lload_n i L S σ c k v
  | .istore i => x_istore i L S σ c k v
  | .istore_n i => x_istore_n i L S σ c k v
  | .iinc i n => x_iinc i n L S σ c k v
  | .iadd => x_iadd L S σ c k v
  | .isub => x_isub L S σ c k v
  | .imul => x_imul L S σ c k v
  | .iand => x_iand L S σ c k v
  | .ior => x_ior L S σ c k v
  | .ixor => x_ixor L S σ c k v
  | .ishl => x_ishl L S σ c k v
  | .ishr => x_ishr L S σ c k v
  | .iushr => x_iushr L S σ c k v
  | .ineg => x_ineg L S σ c k v
  | .idiv => x_idiv L S σ c k v
  | .irem => x_irem L S σ c k v
  | .i2l => x_i2l L S σ c k v
  | .l2i => x_l2i L S σ c k v
  | .lshl => x_lshl L S σ c k v
  | .lshr => x_lshr L S σ c k v
  | .lushr => x_lushr L S σ c k v
  | .land => x_land L S σ c k v
  | .lor => x_lor L S σ c k v
  | .dup => x_dup L S σ c k v
  | .dup2 => x_dup2 L S σ c k v
  | .getfield i => x_getfield i L S σ c k v
  | .putfield i => x_putfield i L S σ c k v
  | .getstatic i => x_getstatic i L S σ c k v
  | .iaload => x_iaload L S σ c k v
  | .iastore => x_iastore L S σ c k v
  | .baload => x_baload L S σ c k v
  | .bastore => x_bastore L S σ c k v
  | .aaload => x_aaload L S σ c k v
  | .arraylength => x_arraylength L S σ c k v
  | .goto n => x_goto n L S σ c k v
  | _ => none
def nxt (M : Mt) (i : Instr) (c k : Nat) (v : Int) (pc len : Nat) : Option Nat := match i with
  | .iconst n => if len = 1 ∧ (-2147483648 ≤ n ∧ n ≤ 2147483647) then some (pc + 1) else none
  | .bipush n => if len = 2 ∧ (-128 ≤ n ∧ n ≤ 127) then some (pc + 2) else none
  | .sipush n => if len = 3 ∧ (-32768 ≤ n ∧ n ≤ 32767) then some (pc + 3) else none
  | .ldc i => if len = 2 ∧ lnkC M i v = true then some (pc + 2) else none
  | .ldc_w i => if len = 3 ∧ lnkC M i v = true then some (pc + 3) else none
  | .ldc2_w i => if len = 3 ∧ lnkJ M i v = true then some (pc + 3) else none
  | .iload i => if len = 2 then some (pc + 2) else none
  | .iload_n i => if len = 1 then some (pc + 1) else none
  | .aload i => if len = 2 then some (pc + 2) else none
  | .aload_n i => if len = 1 then some (pc + 1) else none
  | .lload_n i => if len = 1 then some (pc + 1) else none
  | .istore i => if len = 2 then some (pc + 2) else none
  | .istore_n i => if len = 1 then some (pc + 1) else none
  | .iinc i n => if len = 3 then some (pc + 3) else none
  | .iadd => if len = 1 then some (pc + 1) else none
  | .isub => if len = 1 then some (pc + 1) else none
  | .imul => if len = 1 then some (pc + 1) else none
  | .iand => if len = 1 then some (pc + 1) else none
  | .ior => if len = 1 then some (pc + 1) else none
  | .ixor => if len = 1 then some (pc + 1) else none
  | .ishl => if len = 1 then some (pc + 1) else none
  | .ishr => if len = 1 then some (pc + 1) else none
  | .iushr => if len = 1 then some (pc + 1) else none
  | .ineg => if len = 1 then some (pc + 1) else none
  | .idiv => if len = 1 then some (pc + 1) else none
  | .irem => if len = 1 then some (pc + 1) else none
  | .i2l => if len = 1 then some (pc + 1) else none
  | .l2i => if len = 1 then some (pc + 1) else none
  | .lshl => if len = 1 then some (pc + 1) else none
  | .lshr => if len = 1 then some (pc + 1) else none
  | .lushr => if len = 1 then some (pc + 1) else none
  | .land => if len = 1 then some (pc + 1) else none
  | .lor => if len = 1 then some (pc + 1) else none
  | .dup => if len = 1 then some (pc + 1) else none
  | .dup2 => if len = 1 then some (pc + 1) else none
  | .getfield i => if len = 3 ∧ lnkF M i c k = true then some (pc + 3) else none
  | .putfield i => if len = 3 ∧ (lnkF M i c k = true ∧ ((clsT c).2.1 k).2.2.2 = false) then some (pc + 3) else none
  | .getstatic i => if len = 3 ∧ lnkS M i c = true then some (pc + 3) else none
  | .iaload => if len = 1 then some (pc + 1) else none
  | .iastore => if len = 1 then some (pc + 1) else none
  | .baload => if len = 1 then some (pc + 1) else none
  | .bastore => if len = 1 then some (pc + 1) else none
  | .aaload => if len = 1 then some (pc + 1) else none
  | .arraylength => if len = 1 then some (pc + 1) else none
  | .goto n => if len = 3 ∧ 0 ≤ (pc : Int) + n then some ((pc : Int) + n).toNat else none
  | _ => none
def andL : List Prop → Prop
  | [] => True
  | p :: r => p ∧ andL r
theorem ex1_sound {d : Nat} {M : Mt} {pc : Nat} {L S : List AV} {σ : Hp} {Q : Option Int → Hp → Prop} {i : Instr} {c k : Nat} {v : Int} {len pc' : Nat} {L' S' : List AV} {σ' : Hp} {Ps : List Prop} (hd : decode M.2.1 pc = .ok (i, len)) (hn : nxt M i c k v pc len = some pc') (he : ex1 i c k v L S σ = some (L', S', σ', Ps)) (hp : andL Ps) (h : Runs d M pc' L' S' σ' Q) : Runs d M pc L S σ Q := by
  cases i with
  | iconst n =>
    replace he : x_iconst n L S σ c k v = some (L', S', σ', Ps) := he
    simp only [nxt, Option.ite_none_right_eq_some, Option.some.injEq] at hn
    obtain ⟨hc, rfl⟩ := hn
    obtain ⟨rfl, hc⟩ := hc
    unfold x_iconst at he
    cases he; exact s_iconst hc hd h
  | bipush n =>
    replace he : x_bipush n L S σ c k v = some (L', S', σ', Ps) := he
    simp only [nxt, Option.ite_none_right_eq_some, Option.some.injEq] at hn
    obtain ⟨hc, rfl⟩ := hn
    obtain ⟨rfl, hc⟩ := hc
    unfold x_bipush at he
    cases he; exact s_bipush hc hd h
  | sipush n =>
    replace he : x_sipush n L S σ c k v = some (L', S', σ', Ps) := he
    simp only [nxt, Option.ite_none_right_eq_some, Option.some.injEq] at hn
    obtain ⟨hc, rfl⟩ := hn
    obtain ⟨rfl, hc⟩ := hc
    unfold x_sipush at he
    cases he; exact s_sipush hc hd h
  | ldc i =>
    replace he : x_ldc i L S σ c k v = some (L', S', σ', Ps) := he
    simp only [nxt, Option.ite_none_right_eq_some, Option.some.injEq] at hn
    obtain ⟨hc, rfl⟩ := hn
    obtain ⟨rfl, hc⟩ := hc
    unfold x_ldc at he
    cases he; exact s_ldc (lnkC_ok hc).2 (lnkC_ok hc).1 hd h
  | ldc_w i =>
    replace he : x_ldc_w i L S σ c k v = some (L', S', σ', Ps) := he
    simp only [nxt, Option.ite_none_right_eq_some, Option.some.injEq] at hn
    obtain ⟨hc, rfl⟩ := hn
    obtain ⟨rfl, hc⟩ := hc
    unfold x_ldc_w at he
    cases he; exact s_ldcw (lnkC_ok hc).2 (lnkC_ok hc).1 hd h
  | ldc2_w i =>
    replace he : x_ldc2_w i L S σ c k v = some (L', S', σ', Ps) := he
    simp only [nxt, Option.ite_none_right_eq_some, Option.some.injEq] at hn
    obtain ⟨hc, rfl⟩ := hn
    obtain ⟨rfl, hc⟩ := hc
    unfold x_ldc2_w at he
    cases he; exact s_ldc2 (lnkJ_ok hc) hd h
  | iload i =>
    replace he : x_iload i L S σ c k v = some (L', S', σ', Ps) := he
    simp only [nxt, Option.ite_none_right_eq_some, Option.some.injEq] at hn
    obtain ⟨hc, rfl⟩ := hn
    subst hc
    unfold x_iload at he
    split at he
    · rename_i hz; cases he; exact s_iload hz hd h
    · cases he
  | iload_n i =>
    replace he : x_iload_n i L S σ c k v = some (L', S', σ', Ps) := he
    simp only [nxt, Option.ite_none_right_eq_some, Option.some.injEq] at hn
    obtain ⟨hc, rfl⟩ := hn
    subst hc
    unfold x_iload_n at he
    split at he
    · rename_i hz; cases he; exact s_iloadn hz hd h
    · cases he
  | aload i =>
    replace he : x_aload i L S σ c k v = some (L', S', σ', Ps) := he
    simp only [nxt, Option.ite_none_right_eq_some, Option.some.injEq] at hn
    obtain ⟨hc, rfl⟩ := hn
    subst hc
    unfold x_aload at he
    split at he
    · rename_i hz; cases he; exact s_aload hz hd h
    · cases he
  | aload_n i =>
    replace he : x_aload_n i L S σ c k v = some (L', S', σ', Ps) := he
    simp only [nxt, Option.ite_none_right_eq_some, Option.some.injEq] at hn
    obtain ⟨hc, rfl⟩ := hn
    subst hc
    unfold x_aload_n at he
    split at he
    · rename_i hz; cases he; exact s_aloadn hz hd h
    · cases he
  | lload_n i =>
    replace he : x_lload_n i L S σ c k v = some (L', S', σ', Ps) := he
    simp only [nxt, Option.ite_none_right_eq_some, Option.some.injEq] at hn
    obtain ⟨hc, rfl⟩ := hn
    subst hc
    unfold x_lload_n at he
    split at he
    · rename_i hz; cases he; exact s_lloadn hz hd h
    · cases he
  | istore i =>
    replace he : x_istore i L S σ c k v = some (L', S', σ', Ps) := he
    simp only [nxt, Option.ite_none_right_eq_some, Option.some.injEq] at hn
    obtain ⟨hc, rfl⟩ := hn
    subst hc
    unfold x_istore at he
    split at he
    · split at he
      · rename_i hj; cases he; exact s_istore hj.1 hj.2 hd h
      · cases he
    · cases he
  | istore_n i =>
    replace he : x_istore_n i L S σ c k v = some (L', S', σ', Ps) := he
    simp only [nxt, Option.ite_none_right_eq_some, Option.some.injEq] at hn
    obtain ⟨hc, rfl⟩ := hn
    subst hc
    unfold x_istore_n at he
    split at he
    · split at he
      · rename_i hj; cases he; exact s_istoren hj.1 hj.2 hd h
      · cases he
    · cases he
  | iinc i n =>
    replace he : x_iinc i n L S σ c k v = some (L', S', σ', Ps) := he
    simp only [nxt, Option.ite_none_right_eq_some, Option.some.injEq] at hn
    obtain ⟨hc, rfl⟩ := hn
    subst hc
    unfold x_iinc at he
    split at he
    · rename_i hz; split at he
      · rename_i hj; cases he; exact s_iinc hz hj.1 hj.2 hd (by rw [wrap_eq hp.1]; exact h)
      · cases he
    · cases he
  | iadd =>
    replace he : x_iadd L S σ c k v = some (L', S', σ', Ps) := he
    simp only [nxt, Option.ite_none_right_eq_some, Option.some.injEq] at hn
    obtain ⟨hc, rfl⟩ := hn
    subst hc
    unfold x_iadd at he
    split at he
    · split at he
      · cases he; exact s_iadd hd (by rw [wrap_eq hp.1]; exact h)
      · cases he; exact s_iadd hd h
    · cases he
  | isub =>
    replace he : x_isub L S σ c k v = some (L', S', σ', Ps) := he
    simp only [nxt, Option.ite_none_right_eq_some, Option.some.injEq] at hn
    obtain ⟨hc, rfl⟩ := hn
    subst hc
    unfold x_isub at he
    split at he
    · split at he
      · cases he; exact s_isub hd (by rw [wrap_eq hp.1]; exact h)
      · cases he; exact s_isub hd h
    · cases he
  | imul =>
    replace he : x_imul L S σ c k v = some (L', S', σ', Ps) := he
    simp only [nxt, Option.ite_none_right_eq_some, Option.some.injEq] at hn
    obtain ⟨hc, rfl⟩ := hn
    subst hc
    unfold x_imul at he
    split at he
    · split at he
      · cases he; exact s_imul hd (by rw [wrap_eq hp.1]; exact h)
      · cases he; exact s_imul hd h
    · cases he
  | iand =>
    replace he : x_iand L S σ c k v = some (L', S', σ', Ps) := he
    simp only [nxt, Option.ite_none_right_eq_some, Option.some.injEq] at hn
    obtain ⟨hc, rfl⟩ := hn
    subst hc
    unfold x_iand at he
    split at he
    · cases he; exact s_iand  hd h
    · cases he
  | ior =>
    replace he : x_ior L S σ c k v = some (L', S', σ', Ps) := he
    simp only [nxt, Option.ite_none_right_eq_some, Option.some.injEq] at hn
    obtain ⟨hc, rfl⟩ := hn
    subst hc
    unfold x_ior at he
    split at he
    · cases he; exact s_ior  hd h
    · cases he
  | ixor =>
    replace he : x_ixor L S σ c k v = some (L', S', σ', Ps) := he
    simp only [nxt, Option.ite_none_right_eq_some, Option.some.injEq] at hn
    obtain ⟨hc, rfl⟩ := hn
    subst hc
    unfold x_ixor at he
    split at he
    · cases he; exact s_ixor  hd h
    · cases he
  | ishl =>
    replace he : x_ishl L S σ c k v = some (L', S', σ', Ps) := he
    simp only [nxt, Option.ite_none_right_eq_some, Option.some.injEq] at hn
    obtain ⟨hc, rfl⟩ := hn
    subst hc
    unfold x_ishl at he
    split at he
    · cases he; exact s_ishl  hd h
    · cases he
  | ishr =>
    replace he : x_ishr L S σ c k v = some (L', S', σ', Ps) := he
    simp only [nxt, Option.ite_none_right_eq_some, Option.some.injEq] at hn
    obtain ⟨hc, rfl⟩ := hn
    subst hc
    unfold x_ishr at he
    split at he
    · cases he; exact s_ishr  hd h
    · cases he
  | iushr =>
    replace he : x_iushr L S σ c k v = some (L', S', σ', Ps) := he
    simp only [nxt, Option.ite_none_right_eq_some, Option.some.injEq] at hn
    obtain ⟨hc, rfl⟩ := hn
    subst hc
    unfold x_iushr at he
    split at he
    · cases he; exact s_iushr  hd h
    · cases he
  | ineg =>
    replace he : x_ineg L S σ c k v = some (L', S', σ', Ps) := he
    simp only [nxt, Option.ite_none_right_eq_some, Option.some.injEq] at hn
    obtain ⟨hc, rfl⟩ := hn
    subst hc
    unfold x_ineg at he
    split at he
    · cases he; exact s_ineg hd (by rw [wrap_eq hp.1]; exact h)
    · cases he
  | idiv =>
    replace he : x_idiv L S σ c k v = some (L', S', σ', Ps) := he
    simp only [nxt, Option.ite_none_right_eq_some, Option.some.injEq] at hn
    obtain ⟨hc, rfl⟩ := hn
    subst hc
    unfold x_idiv at he
    split at he
    · cases he; exact s_idiv hp.1 hd h
    · cases he
  | irem =>
    replace he : x_irem L S σ c k v = some (L', S', σ', Ps) := he
    simp only [nxt, Option.ite_none_right_eq_some, Option.some.injEq] at hn
    obtain ⟨hc, rfl⟩ := hn
    subst hc
    unfold x_irem at he
    split at he
    · cases he; exact s_irem hp.1 hd h
    · cases he
  | i2l =>
    replace he : x_i2l L S σ c k v = some (L', S', σ', Ps) := he
    simp only [nxt, Option.ite_none_right_eq_some, Option.some.injEq] at hn
    obtain ⟨hc, rfl⟩ := hn
    subst hc
    unfold x_i2l at he
    split at he
    · cases he; exact s_i2l  hd h
    · cases he
  | l2i =>
    replace he : x_l2i L S σ c k v = some (L', S', σ', Ps) := he
    simp only [nxt, Option.ite_none_right_eq_some, Option.some.injEq] at hn
    obtain ⟨hc, rfl⟩ := hn
    subst hc
    unfold x_l2i at he
    split at he
    · cases he; exact s_l2i  hd h
    · cases he
  | lshl =>
    replace he : x_lshl L S σ c k v = some (L', S', σ', Ps) := he
    simp only [nxt, Option.ite_none_right_eq_some, Option.some.injEq] at hn
    obtain ⟨hc, rfl⟩ := hn
    subst hc
    unfold x_lshl at he
    split at he
    · cases he; exact s_lshl  hd h
    · cases he
  | lshr =>
    replace he : x_lshr L S σ c k v = some (L', S', σ', Ps) := he
    simp only [nxt, Option.ite_none_right_eq_some, Option.some.injEq] at hn
    obtain ⟨hc, rfl⟩ := hn
    subst hc
    unfold x_lshr at he
    split at he
    · cases he; exact s_lshr  hd h
    · cases he
  | lushr =>
    replace he : x_lushr L S σ c k v = some (L', S', σ', Ps) := he
    simp only [nxt, Option.ite_none_right_eq_some, Option.some.injEq] at hn
    obtain ⟨hc, rfl⟩ := hn
    subst hc
    unfold x_lushr at he
    split at he
    · cases he; exact s_lushr  hd h
    · cases he
  | land =>
    replace he : x_land L S σ c k v = some (L', S', σ', Ps) := he
    simp only [nxt, Option.ite_none_right_eq_some, Option.some.injEq] at hn
    obtain ⟨hc, rfl⟩ := hn
    subst hc
    unfold x_land at he
    split at he
    · cases he; exact s_land  hd h
    · cases he
  | lor =>
    replace he : x_lor L S σ c k v = some (L', S', σ', Ps) := he
    simp only [nxt, Option.ite_none_right_eq_some, Option.some.injEq] at hn
    obtain ⟨hc, rfl⟩ := hn
    subst hc
    unfold x_lor at he
    split at he
    · cases he; exact s_lor  hd h
    · cases he
  | dup =>
    replace he : x_dup L S σ c k v = some (L', S', σ', Ps) := he
    simp only [nxt, Option.ite_none_right_eq_some, Option.some.injEq] at hn
    obtain ⟨hc, rfl⟩ := hn
    subst hc
    unfold x_dup at he
    split at he
    · split at he
      · rename_i hj; cases he; exact s_dup hj hd h
      · cases he
    · cases he
  | dup2 =>
    replace he : x_dup2 L S σ c k v = some (L', S', σ', Ps) := he
    simp only [nxt, Option.ite_none_right_eq_some, Option.some.injEq] at hn
    obtain ⟨hc, rfl⟩ := hn
    subst hc
    unfold x_dup2 at he
    split at he
    · split at he
      · rename_i hj; cases he; exact s_dup2 hj.1 hj.2 hd h
      · cases he
    · cases he
  | getfield i =>
    replace he : x_getfield i L S σ c k v = some (L', S', σ', Ps) := he
    simp only [nxt, Option.ite_none_right_eq_some, Option.some.injEq] at hn
    obtain ⟨hc, rfl⟩ := hn
    obtain ⟨rfl, hc⟩ := hc
    unfold x_getfield at he
    split at he
    · split at he
      · rename_i hk; split at he
        · rename_i hf; cases he; exact s_getfield hc hk hf hd h
        · cases he
      · cases he
    · cases he
  | putfield i =>
    replace he : x_putfield i L S σ c k v = some (L', S', σ', Ps) := he
    simp only [nxt, Option.ite_none_right_eq_some, Option.some.injEq] at hn
    obtain ⟨hc, rfl⟩ := hn
    obtain ⟨rfl, hc⟩ := hc
    unfold x_putfield at he
    split at he
    · split at he
      · rename_i hk; split at he
        · rename_i hf; cases he; exact s_putfield hc.1 hc.2 hk hf (Or.inl rfl) hd h
        · rename_i hf; cases he; exact s_putfield hc.1 hc.2 hk hf (Or.inr ⟨rfl, hp.1⟩) hd h
        · cases he
      · cases he
    · cases he
  | getstatic i =>
    replace he : x_getstatic i L S σ c k v = some (L', S', σ', Ps) := he
    simp only [nxt, Option.ite_none_right_eq_some, Option.some.injEq] at hn
    obtain ⟨hc, rfl⟩ := hn
    obtain ⟨rfl, hc⟩ := hc
    unfold x_getstatic at he
    cases he; exact s_getstatic hc hd h
  | iaload =>
    replace he : x_iaload L S σ c k v = some (L', S', σ', Ps) := he
    simp only [nxt, Option.ite_none_right_eq_some, Option.some.injEq] at hn
    obtain ⟨hc, rfl⟩ := hn
    subst hc
    unfold x_iaload at he
    split at he
    · split at he
      · rename_i hk; cases he; exact s_iaload hk hp.1 hd h
      · split at he
        · rename_i hg; cases he; subst hg; exact s_sload hp.1 hd h
        · cases he
      · split at he
        · rename_i hg; cases he; exact s_tload hg hp.1 hd h
        · cases he
      · cases he
    · cases he
  | iastore =>
    replace he : x_iastore L S σ c k v = some (L', S', σ', Ps) := he
    simp only [nxt, Option.ite_none_right_eq_some, Option.some.injEq] at hn
    obtain ⟨hc, rfl⟩ := hn
    subst hc
    unfold x_iastore at he
    split at he
    · split at he
      · rename_i hk; cases he; exact s_iastore hk hp.1 hd h
      · cases he
    · cases he
  | baload =>
    replace he : x_baload L S σ c k v = some (L', S', σ', Ps) := he
    simp only [nxt, Option.ite_none_right_eq_some, Option.some.injEq] at hn
    obtain ⟨hc, rfl⟩ := hn
    subst hc
    unfold x_baload at he
    split at he
    · split at he
      · rename_i hk; cases he; exact s_baload hk hp.1 hd h
      · cases he
    · cases he
  | bastore =>
    replace he : x_bastore L S σ c k v = some (L', S', σ', Ps) := he
    simp only [nxt, Option.ite_none_right_eq_some, Option.some.injEq] at hn
    obtain ⟨hc, rfl⟩ := hn
    subst hc
    unfold x_bastore at he
    split at he
    · split at he
      · rename_i hk; cases he; exact s_bastore hk hp.1 hp.2.1 hd h
      · cases he
    · cases he
  | aaload =>
    replace he : x_aaload L S σ c k v = some (L', S', σ', Ps) := he
    simp only [nxt, Option.ite_none_right_eq_some, Option.some.injEq] at hn
    obtain ⟨hc, rfl⟩ := hn
    subst hc
    unfold x_aaload at he
    split at he
    · split at he
      · rename_i hk; cases he; exact s_aaload hk hp.1 hd h
      · cases he
    · cases he
  | arraylength =>
    replace he : x_arraylength L S σ c k v = some (L', S', σ', Ps) := he
    simp only [nxt, Option.ite_none_right_eq_some, Option.some.injEq] at hn
    obtain ⟨hc, rfl⟩ := hn
    subst hc
    unfold x_arraylength at he
    split at he
    · split at he
      · rename_i hk; cases he; exact s_alen hk hd h
      · split at he
        · rename_i hg; cases he; subst hg; exact s_slen hd h
        · cases he
      · cases he
    · cases he
  | goto n =>
    replace he : x_goto n L S σ c k v = some (L', S', σ', Ps) := he
    simp only [nxt, Option.ite_none_right_eq_some, Option.some.injEq] at hn
    obtain ⟨hc, rfl⟩ := hn
    obtain ⟨rfl, hc⟩ := hc
    unfold x_goto at he
    cases he; exact r_goto hd (by omega) h
  | _ => cases he
def exs : List Ins → List AV → List AV → Hp → XR
  | [], L, S, σ => some (L, S, σ, [])
  | i :: r, L, S, σ => match ex1 i.1 i.2.1 i.2.2.1 i.2.2.2 L S σ with
    | some (L', S', σ', Ps) => (match exs r L' S' σ' with
      | some (L2, S2, σ2, Ps2) => some (L2, S2, σ2, Ps ++ Ps2)
      | none => none)
    | none => none
def chk (M : Mt) : Nat → List Ins → Option Nat
  | pc, [] => some pc
  | pc, i :: r => match decode M.2.1 pc with
    | .ok (j, len) => if j = i.1 then (match nxt M i.1 i.2.1 i.2.2.1 i.2.2.2 pc len with
      | some pc' => chk M pc' r
      | none => none) else none
    | _ => none
theorem andL_app : ∀ {a b : List Prop}, andL (a ++ b) → andL a ∧ andL b
  | [], _, h => ⟨trivial, h⟩
  | p :: a, b, h => ⟨⟨h.1, (andL_app (a := a) h.2).1⟩, (andL_app (a := a) h.2).2⟩
theorem r_blk {d : Nat} {M : Mt} {Q : Option Int → Hp → Prop} : ∀ (is : List Ins) {pc pc' : Nat} {L S L' S' : List AV} {σ σ' : Hp} {Ps : List Prop}, chk M pc is = some pc' → exs is L S σ = some (L', S', σ', Ps) → andL Ps → Runs d M pc' L' S' σ' Q → Runs d M pc L S σ Q
  | [], pc, pc', L, S, L', S', σ, σ', Ps, hc, he, hp, h => by
    cases hc
    cases he
    exact h
  | i :: r, pc, pc', L, S, L', S', σ, σ', Ps, hc, he, hp, h => by
    unfold chk at hc
    unfold exs at he
    split at hc
    · rename_i j len hd
      split at hc
      · rename_i hj
        subst hj
        split at hc
        · rename_i pc1 hn
          split at he
          · rename_i L1 S1 σ1 Ps1 he1
            split at he
            · rename_i L2 S2 σ2 Ps2 he2
              cases he
              obtain ⟨p1, p2⟩ := andL_app hp
              exact ex1_sound hd hn he1 p1 (r_blk r hc he2 p2 h)
            · cases he
          · cases he
        · cases hc
      · cases hc
    · cases hc
def fgt : List AV → List AV → Prop
  | [], [] => True
  | a' :: r', a :: r => (a' = zU ∨ a' = a) ∧ fgt r' r
  | _, _ => False
theorem fgt_len : ∀ {L' L : List AV}, fgt L' L → L'.length = L.length ∧ ∀ (i : Nat) (v : AV), L'[i]? = some v → v = zU ∨ L[i]? = some v
  | [], [], _ => ⟨rfl, fun i v h => by simp at h⟩
  | a' :: r', a :: r, h => by
    obtain ⟨h1, h2⟩ := fgt_len h.2
    refine ⟨by simp [h1], fun i v hv => ?_⟩
    cases i with
    | zero =>
      rw [List.getElem?_cons_zero] at hv ⊢
      cases hv
      rcases h.1 with q | q
      · exact Or.inl q
      · exact Or.inr (by rw [q])
    | succ i =>
      rw [List.getElem?_cons_succ] at hv ⊢
      exact h2 i v hv
  | [], _ :: _, h => h.elim
  | _ :: _, [], h => h.elim
theorem fg0 : fgt [] [] := trivial
theorem fgU {a : AV} {r' r : List AV} (h : fgt r' r) : fgt (zU :: r') (a :: r) := ⟨Or.inl rfl, h⟩
theorem fgE {a : AV} {r' r : List AV} (h : fgt r' r) : fgt (a :: r') (a :: r) := ⟨Or.inr rfl, h⟩
theorem Runs.fg {d : Nat} {M : Mt} {pc : Nat} {L L' S : List AV} {σ : Hp} {Q : Option Int → Hp → Prop} (hf : fgt L' L) (h : Runs d M pc L' S σ Q) : Runs d M pc L S σ Q := Runs.forget (fgt_len hf).1 (fgt_len hf).2 h
end
section
/-! a method out of its walk; calls -/
def rmD (d : Nat) : Room := { frames := d, cells := 0, slots := 0, locals := 64 * d }
def wM (M : Mt) : List Cond := Cond.code M.1 M.2.1 M.2.2.1 M.2.2.2.1 :: gTbl
def rvO (rv : Option Int) : Option Value := rv.map (fun z => .int (n32 z))
theorem rvO_S (rv : Option Int) : (rvO rv).toList = rvS rv := by cases rv <;> rfl
def WT (G : Gw) (u : Hp) (t : State) : Prop := va_P G.2.1 clsL (wsOf G u) t.heap ∧ va_D (AD G) (wsOf G u) ∧ RO G (AD G) u t ∧ okH u
def PcW (G : Gw) (σ : Hp) (as : List AV) : Array Value → State → Prop := va_Pc (as.map (cvv G.1)) (fun U => WT G σ U ∧ va_K G.2.1 clsL (tysOf G) U ∧ NW U)
def QcW (G : Gw) (M : Mt) (Q : Option Int → Hp → Prop) : Array Value → State → Outcome → State → Prop := fun _ st oc t => (∃ (rv : Option Int) (u : Hp), oc = .returned (rvO rv) ∧ Q rv u ∧ okRv M rv ∧ WT G u t) ∧ va_F (AD G) st t
def eL : List AV → List AV
  | [] => []
  | .inr (.inr (.inl x)) :: r => zJ x :: zU :: eL r
  | v :: r => v :: eL r
def L0 (n : Nat) (as : List AV) : List AV := eL as ++ List.replicate (n - (eL as).length) zU
def noU (as : List AV) : Bool := as.all (fun v => match v with
  | .inr (.inr (.inr _)) => false
  | _ => true)
theorem lvl_rep {ad : Nat → Nat → Nat} : ∀ (n k : Nat), lvl ad k (List.replicate n zU) = []
  | 0, _ => rfl
  | n + 1, k => by
    rw [List.replicate_succ]
    show lvl ad (k + 1) (List.replicate n zU) = []
    exact lvl_rep n (k + 1)
theorem lvl_args {ad : Nat → Nat → Nat} {r : Nat} : ∀ (as : List AV) (k : Nat), noU as = true → lvl ad k (eL as ++ List.replicate r zU) = lv_args k (as.map (cvv ad))
  | [], k, _ => lvl_rep r k
  | v :: as, k, h => by
    have h2 : noU as = true := by
      simp only [noU, List.all_cons, Bool.and_eq_true] at h ⊢
      exact h.2
    rcases v with z | q | x | u
    · show (k, Value.int (n32 z)) :: lvl ad (k + 1) (eL as ++ List.replicate r zU) = _
      rw [lvl_args as (k + 1) h2]
      rfl
    · show (k, Value.ref (ad q.1 q.2)) :: lvl ad (k + 1) (eL as ++ List.replicate r zU) = _
      rw [lvl_args as (k + 1) h2]
      rfl
    · show (k, Value.long x) :: lvl ad (k + 1 + 1) (eL as ++ List.replicate r zU) = _
      rw [lvl_args as (k + 1 + 1) h2]
      rfl
    · simp [noU] at h
theorem eL_len {ad : Nat → Nat → Nat} : ∀ (as : List AV), (lg_sl (as.map (cvv ad))).length = (eL as).length
  | [] => rfl
  | v :: as => by
    have ih := eL_len (ad := ad) as
    rcases v with z | q | x | u
    · show (lg_sl (Value.int (n32 z) :: as.map (cvv ad))).length = (eL as).length + 1
      simp only [lg_sl, List.flatMap_cons, Value.category, List.length_append] at ih ⊢
      rw [ih]; simp; omega
    · show (lg_sl (Value.ref (ad q.1 q.2) :: as.map (cvv ad))).length = (eL as).length + 1
      simp only [lg_sl, List.flatMap_cons, Value.category, List.length_append] at ih ⊢
      rw [ih]; simp; omega
    · show (lg_sl (Value.long x :: as.map (cvv ad))).length = (eL as).length + 1 + 1
      simp only [lg_sl, List.flatMap_cons, Value.category, List.length_append] at ih ⊢
      rw [ih]; simp; omega
    · show (lg_sl (Value.null :: as.map (cvv ad))).length = (eL as).length + 1
      simp only [lg_sl, List.flatMap_cons, Value.category, List.length_append] at ih ⊢
      rw [ih]; simp; omega
theorem eL_ok : ∀ {as : List AV}, okVs as → okVs (eL as)
  | [], h => h
  | v :: as, h => by
    have ih := eL_ok (okVs_tl h)
    rcases v with z | q | x | u
    · exact okVs_cons (okVs_hd h) ih
    · exact okVs_cons (okVs_hd h) ih
    · exact okVs_cons trivial (okVs_cons trivial ih)
    · exact okVs_cons trivial ih
theorem L0_ok {n : Nat} {as : List AV} (h : okVs as) : okVs (L0 n as) := fun v hv => by
  rcases List.mem_append.mp hv with q | q
  · exact eL_ok h v q
  · rw [List.eq_of_mem_replicate q]; trivial
theorem toMet {l : Launch} {d : Nat} {M : Mt} {σ : Hp} {as : List AV} {Q : Option Int → Hp → Prop} (hy : plainName M.1.cls = true) (hn : noU as = true) (hlen : (eL as).length ≤ M.2.2.1) (hok : okVs as) (h : Runs d M 0 (L0 M.2.2.1 as) [] σ Q) (G : Gw) :
    Met l M.1 (wM M) (rmD d) (PcW G σ as) (QcW G M Q) 0 0 (AD G) := by
  refine Met.ofW (cc := M.2.1) (maxL := M.2.2.1) (ret := M.2.2.2.1) hy rfl ?_
  intro p e s m args below meth c s₁ B hml hv
  obtain ⟨rfl, ⟨hP, hD, hRO, hH⟩, hK, hNW⟩ := hv
  have hx := B.exec
  have hb := B.bytes
  have hr := B.returns
  have hts := atoms_spec (ws := wM M) B.pre
  have hown : s.vm.findClass M.1.cls = some m.cls := findClass_of_methodNamed B.named
  have hlocks := B.notSynchronized
  rw [lg_entry_eq]
  have hl := lv_entry (as.map (cvv G.1)) (n := M.2.2.1) (by rw [eL_len]; exact hlen)
  generalize hls : (lg_sl (as.map (cvv G.1)) ++ List.replicate (M.2.2.1 - (lg_sl (as.map (cvv G.1))).length) Slot.unset).toArray = ls at hl
  have hrel : lrel G.1 ls M.2.2.1 (L0 M.2.2.1 as) := by
    refine ⟨?_, ?_⟩
    · unfold L0; rw [List.length_append, List.length_replicate]; omega
    · unfold L0; rw [lvl_args as 0 hn]; exact hl
  refine h (L0_ok hok) (fun v hv => by cases hv) G p l e (rmD d) s m _ below meth c 0 0 (AD G) _ ⟨hx, hb, hml, hown, fun w hw => hts w (List.mem_cons_of_mem _ hw), ⟨Nat.le_refl _, Nat.le_refl _, Nat.le_refl _, Nat.le_refl _, hNW⟩, hK⟩ s.heap [] ls ⟨hP, hD, va_S.rf, hRO, hH⟩ hrel ?_
  intro rv σ' H' locs' ls' pc' hq hret hW'
  have post : ∀ t : State, t.heap = H' → s.WarmedH t.vm → QcW G M Q (as.map (cvv G.1)).toArray s (.returned (rvO rv)) t := fun t ht hW => by
    refine ⟨⟨rv, σ', rfl, hq, hret.1, ?_, hW'.2.1, hW'.2.2.2.1.kept hW'.2.2.1 ht hW.alike (fun _ h => h), hW'.2.2.2.2⟩, hW'.2.2.1.F ht⟩
    rw [ht]; exact hW'.1
  cases rv with
  | none =>
    have h1 : M.2.2.2.1 = none := hret.1
    exact W.vret hx hb (hr.trans h1) post hW'.2.2.1.2.2 hret.2
  | some z =>
    obtain ⟨⟨h1, h2⟩, h3⟩ := hret
    rcases h2 with h2 | ⟨h2, h4⟩
    · exact W.iret hx hb (hr.trans h2) post hW'.2.2.1.2.2 h3
    · exact W.zret hx hb (hr.trans h2) (narrow_z h4) post hW'.2.2.1.2.2 h3
theorem AD_in {G : Gw} {A : Nat → Prop} {σ : Hp} (h : va_D A (wsOf G σ)) : ∀ q, AD G q → A q := by
  rintro q ⟨g, i, hm, rfl⟩
  obtain ⟨k, hk, -⟩ := ws_at G σ (IDX_mem.mp hm).1 (IDX_mem.mp hm).2
  exact h.2 k _ hk
theorem D_AD {G : Gw} {A : Nat → Prop} {σ : Hp} (h : va_D A (wsOf G σ)) : va_D (AD G) (wsOf G σ) := by
  refine ⟨h.1, fun k q hk => ?_⟩
  unfold wsOf at hk
  rw [List.getElem?_map] at hk
  cases hq : IDX[k]? with
  | none => rw [hq] at hk; cases hk
  | some gi =>
    rw [hq] at hk
    cases hk
    exact ⟨gi.1, gi.2, List.mem_of_getElem? hq, rfl⟩
/-- behind a call -/
theorem callW {p : Program} {l : Launch} {e : Env} {R : Room} {s : State} {m : MethodId} {args : Array Value} {below : List Frame} {meth : Method} {c : Code} {H : Heap} {locs : List Loc} {cells slots : Nat} {QQ : State → Prop} {pc : Nat} {ls : Array Slot} {st0 rest : List Value} {a : Array Value}
    {G : Gw} {A : Nat → Prop} {σ : Hp} {Mc : Mt} {Q' : Option Int → Hp → Prop} (hr : va_Run p l e R s m args below meth c H locs cells slots 0 0 (F0 m pc ls st0) rest (QcW G Mc Q' a) (AD G)) (hW : Wld G A σ s H locs)
    (kk : ∀ (rv : Option Int) (σ' : Hp) (H' : Heap) (locs' : List Loc), Q' rv σ' → okRv Mc rv → Wld G A σ' s H' locs' → W p l e R s m args below meth c H' locs' cells slots QQ (F0 m (pc + 3) ls (rvS rv ++ rest))) : W p l e R s m args below meth c H locs cells slots QQ (F0 m pc ls st0) := by
  intro T hT X
  obtain ⟨v, st₀, t, T', L, h0, X', hL, e1, e2, ⟨⟨rv, u, hv, hq, hrv, hP1, hD1, hRO1, hH1⟩, hz, hk⟩, st⟩ := hr T hT X
  rw [h0] at hz hk
  obtain ⟨hP, hD, hS, hRO, hH⟩ := hW
  have hAD := AD_in hD
  have hv2 : v = rvO rv := by
    cases hv
    rfl
  subst hv2
  have hS' : va_S A s.heap T'.heap (locs ++ L) := ⟨Nat.le_trans hS.1 (by rw [e1]; exact hz), fun q h1 h2 => by rw [e1, hk q (Nat.lt_of_lt_of_le h1 hS.1) (fun z => h2 (hAD q z))]; exact hS.2.1 q h1 h2, fun q hq => by
      rcases List.mem_append.mp hq with h | h
      · exact hS.2.2 q h
      · exact hAD _ (hL q h)⟩
  have hRO' : RO G A u s := by
    obtain ⟨⟨⟨scr, a1, a2, a3, a4, a5⟩, b1, b2⟩, ⟨b3, b4⟩, b5⟩ := id hRO
    obtain ⟨⟨⟨scr', c1, c2, c3, c4, c5⟩, d1, d2⟩, ⟨d3, d4⟩, d5⟩ := hRO1
    refine hRO.out (fun j hj => ?_) (by rw [d3, b3]) (fun g hg j hj => ?_)
    · have hh : t.heap[G.1 60 0]? = s.heap[G.1 60 0]? := by rw [hk _ (Nat.lt_of_lt_of_le b1 hS.1) d2]; exact hS.2.1 _ b1 b2
      rw [c1, a1] at hh
      cases hh
      have := (c5 j hj).symm.trans (a5 j hj)
      exact Value.int.inj (Option.some.inj this)
    · obtain ⟨cell, f1, f2, f3, f4, f5, f6, f7⟩ := (b5 g hg).2
      obtain ⟨cell', g1, g2, g3, g4, g5, g6, g7⟩ := (d5 g hg).2
      have hlt : G.1 g 0 < s.heap.size := (Array.getElem?_eq_some_iff.mp f1).1
      have hh : t.heap[G.1 g 0]? = s.heap[G.1 g 0]? := by rw [hk _ (Nat.lt_of_lt_of_le hlt hS.1) g7]; exact hS.2.1 _ hlt f7
      rw [g1, f1] at hh
      cases hh
      have := (g6 j hj).symm.trans (f6 j hj)
      exact Value.int.inj (Option.some.inj this)
  obtain ⟨t2, a1, b1⟩ := kk rv u T'.heap (locs ++ L) hq hrv ⟨by rw [e1]; exact hP1, ⟨hD1.1, fun k q hk => hAD _ (hD1.2 k q hk)⟩, hS', hRO', hH1⟩ T' rfl X'
  refine ⟨t2, st t2 ?_, b1⟩
  rw [rvO_S]
  exact a1
def rvL (rv : Option Int) : List AV := match rv with
  | none => []
  | some z => [zI z]
theorem rvL_S (ad : Nat → Nat → Nat) (rv : Option Int) : (rvL rv).map (cvv ad) = rvS rv := by cases rv <;> rfl
theorem gTbl_good {w : Cond} (h : w ∈ gTbl) : (w.onTables && w.keeps) = true ∨ ∃ ty, w = .arrayClass ty := good_of_word (List.mem_filter.mp h).2
theorem wM_good {Mc : Mt} (h : Cond.code Mc.1 Mc.2.1 Mc.2.2.1 Mc.2.2.2.1 ∈ gTbl) : GoodIn gTbl (wM Mc) := fun w hw => by
  rcases List.mem_cons.mp hw with rfl | hw
  · exact ⟨h, gTbl_good h⟩
  · exact ⟨hw, gTbl_good hw⟩
def catS : List AV → Nat
  | [] => 0
  | .inr (.inr (.inl _)) :: r => 2 + catS r
  | _ :: r => 1 + catS r
theorem catS_of {ad : Nat → Nat → Nat} : ∀ (S : List AV), ((S.map (cvv ad)).map fun v => v.category).sum = catS S
  | [] => rfl
  | v :: S => by
    have ih := catS_of (ad := ad) S
    rcases v with z | q | x | u
    · show 1 + ((S.map (cvv ad)).map fun v => v.category).sum = 1 + catS S
      rw [ih]
    · show 1 + ((S.map (cvv ad)).map fun v => v.category).sum = 1 + catS S
      rw [ih]
    · show 2 + ((S.map (cvv ad)).map fun v => v.category).sum = 2 + catS S
      rw [ih]
    · show 1 + ((S.map (cvv ad)).map fun v => v.category).sum = 1 + catS S
      rw [ih]
theorem okVs_app {a b : List AV} (h : okVs (a ++ b)) : okVs a ∧ okVs b := ⟨fun v hv => h v (List.mem_append_left _ hv), fun v hv => h v (List.mem_append_right _ hv)⟩
theorem okRv_L {Mc : Mt} {rv : Option Int} {S : List AV} (h : okRv Mc rv) (hS : okVs S) : okVs (rvL rv ++ S) := by
  cases rv with
  | none => exact hS
  | some z => exact okVs_cons h.1 hS
theorem blind {G : Gw} {σ : Hp} {as : List AV} : FrameBlind (PcW G σ as) := fun a U g mk q => by
  obtain ⟨q0, ⟨q1, q2, q3, q4⟩, q5, q6⟩ := q
  exact ⟨q0, ⟨q1, q2, RO.moved (u := U) (U := U.calling g mk a) (Vm.Alike.refl U.vm) rfl q3, q4⟩, va_K.moved (u := U) (U := U.calling g mk a) (Vm.Alike.refl U.vm) q5, fun a1 i1 x1 h1 hm => va_Nw.same (u := U) (U := U.calling g mk a) rfl rfl (q6 a1 i1 x1 h1 hm)⟩
theorem preW {G : Gw} {A : Nat → Prop} {σ : Hp} {s : State} {H : Heap} {locs : List Loc} {as : List AV} (hW : Wld G A σ s H locs) (hK : va_K G.2.1 clsL (tysOf G) s) (hN : NW s) : ∀ U : State, U.heap = H → s.WarmedH U.vm → PcW G σ as (as.map (cvv G.1)).toArray U := fun U hU hw => by
  refine ⟨rfl, ⟨by rw [hU]; exact hW.1, D_AD hW.2.1, hW.2.2.2.1.kept hW.2.2.1 hU hw.alike (AD_in hW.2.1), hW.2.2.2.2⟩, hK.moved hw.alike, fun a1 i1 x1 h1 hm => va_Nw.warmM hw (hN a1 i1 x1 h1 hm)⟩
/-- a call of an object's method -/
theorem r_callV {d d' : Nat} {M Mc : Mt} {pc : Nat} {L S S0 As Lc : List AV} {σ : Hp} {Q Q' : Option Int → Hp → Prop} {g x idx n ci : Nat} (hM : okMc Mc n) (hV : okVc Mc) (hlk : Cond.methodLink M.1.cls idx Mc.1 ∈ gTbl) (hd : decode M.2.1 pc = .ok (.invokevirtual idx, 3)) (hdep : d' + 1 ≤ d) (hg : (shp g).1 = ci + 3) (hcls : (clsT ci).1 = Mc.1.cls) (hci : ci < 12)
    (hS0 : S0 = As.reverse ++ zR g x :: S) (hn : As.length = n) (hcat : catS S ≤ 8) (hU : noU (zR g x :: As) = true) (hLc : L0 Mc.2.2.1 (zR g x :: As) = Lc) (hle : (eL (zR g x :: As)).length ≤ Mc.2.2.1) (hc : Runs d' Mc 0 Lc [] σ Q') (k : ∀ rv σ', Q' rv σ' → okRv Mc rv → Runs d M (pc + 3) L (rvL rv ++ S) σ' Q) : Runs d M pc L S0 σ Q := by
  subst hS0
  subst hLc
  intro oL oS G p l e R s m args below meth c cells slots A QQ C H locs ls hW hl kk
  obtain ⟨oA, oB⟩ := okVs_app oS
  have oAs : okVs (zR g x :: As) := okVs_cons (okVs_hd oB) (fun v hv => oA v (List.mem_reverse.mpr hv))
  have hmet := toMet (l := l) hM.1 hU hle oAs hc G
  obtain ⟨hx, hb, hml, hown, hts, hR, hK⟩ := id C
  obtain ⟨m1, m2, m3, m4, m5, m6⟩ := hM
  have hlk2 := hlk
  obtain ⟨q0, he, -⟩ := ws_at G σ (kind_lt (g := g) (by rw [hg]; omega)) (okVs_hd oB)
  rw [cell_obj hg] at he
  obtain ⟨i1, i2, i3, i4⟩ := cls_in ci hci
  have hrun := va_runV (H := H) (locs := locs) (cells := cells) (slots := slots) (below := below) (meth := meth) (e := e) (As := As.map (cvv G.1)) (rest := S.map (cvv G.1)) (g := F0 m pc ls ((As.reverse ++ zR g x :: S).map (cvv G.1))) (b := G.1 g x) (C := Mc.1.cls) (n := n) (R := R) (mc := 0) (ms := 0) ⟨hx, hb, hml, hown, hts⟩ hmet
    ⟨callB_of n hts (wM_good m2) rfl rfl rfl (hts _ m3) (hts _ hlk2) ⟨m4.1, m4.2, m5⟩ ⟨by show d' + 1 ≤ R.frames; omega, by show 8 + (Mc.2.2.1 + 11) + 64 * d' ≤ R.locals; omega⟩, hts _ hV.1, hts _ hV.2⟩
    ⟨blind, by have hrc := va_recv hK hW.1 i4 he; rw [hcls] at hrc; exact hrc, by have hpp := preW (as := zR g x :: As) hW hK hR.2.2.2.2; exact hpp⟩ rfl (by rw [List.length_map]; exact hn) hl.2.1 (by simp [cvv]) (by rw [catS_of]; show 2 * 0 + catS S ≤ 8; omega) hd ⟨by omega, by omega⟩
  refine callW hrun hW (fun rv σ' H' locs' hq hrv hW' => ?_)
  have := k rv σ' hq hrv oL (okRv_L hrv (okVs_tl oB)) G p l e R s m args below meth c cells slots A QQ C H' locs' ls hW' hl kk
  rw [List.map_append, rvL_S] at this
  exact this
/-- a call of a static method -/
theorem r_callS {d d' : Nat} {M Mc : Mt} {pc : Nat} {L S S0 As Lc : List AV} {σ : Hp} {Q Q' : Option Int → Hp → Prop} {idx n : Nat} (hM : okMc Mc n) (hV : Cond.static Mc.1 ∈ gTbl) (hlk : Cond.methodLink M.1.cls idx Mc.1 ∈ gTbl) (hd : decode M.2.1 pc = .ok (.invokestatic idx, 3)) (hdep : d' + 1 ≤ d)
    (hS0 : S0 = As.reverse ++ S) (hn : As.length = n) (hcat : catS S ≤ 8) (hU : noU As = true) (hLc : L0 Mc.2.2.1 As = Lc) (hle : (eL As).length ≤ Mc.2.2.1) (hc : Runs d' Mc 0 Lc [] σ Q') (k : ∀ rv σ', Q' rv σ' → okRv Mc rv → Runs d M (pc + 3) L (rvL rv ++ S) σ' Q) : Runs d M pc L S0 σ Q := by
  subst hS0
  subst hLc
  intro oL oS G p l e R s m args below meth c cells slots A QQ C H locs ls hW hl kk
  obtain ⟨oA, oB⟩ := okVs_app oS
  have oAs : okVs As := fun v hv => oA v (List.mem_reverse.mpr hv)
  have hmet := toMet (l := l) hM.1 hU hle oAs hc G
  obtain ⟨hx, hb, hml, hown, hts, hR, hK⟩ := id C
  obtain ⟨m1, m2, m3, m4, m5, m6⟩ := hM
  have hlk2 := hlk
  have hrun := va_runS (H := H) (locs := locs) (cells := cells) (slots := slots) (below := below) (meth := meth) (e := e) (As := As.map (cvv G.1)) (rest := S.map (cvv G.1)) (g := F0 m pc ls ((As.reverse ++ S).map (cvv G.1))) (n := n) (R := R) (mc := 0) (ms := 0) ⟨hx, hb, hml, hown, hts⟩ hmet
    ⟨callB_of n hts (wM_good m2) rfl rfl rfl (hts _ m3) (hts _ hlk2) ⟨m4.1, m4.2, m5⟩ ⟨by show d' + 1 ≤ R.frames; omega, by show 8 + (Mc.2.2.1 + 11) + 64 * d' ≤ R.locals; omega⟩, hts _ hV⟩
    ⟨blind, preW hW hK hR.2.2.2.2⟩ rfl (by rw [List.length_map]; exact hn) hl.2.1 (by simp) (by rw [catS_of]; show 2 * 0 + catS S ≤ 8; omega) hd ⟨by omega, by omega⟩
  refine callW hrun hW (fun rv σ' H' locs' hq hrv hW' => ?_)
  have := k rv σ' hq hrv oL (okRv_L hrv oB) G p l e R s m args below meth c cells slots A QQ C H' locs' ls hW' hl kk
  rw [List.map_append, rvL_S] at this
  exact this
/-- a call of a nest mate's static method -/
theorem r_callN {d d' : Nat} {M Mc : Mt} {pc : Nat} {L S S0 As Lc : List AV} {σ : Hp} {Q Q' : Option Int → Hp → Prop} {idx n : Nat} {host : String} (hM : okMc Mc n) (hV : Cond.static Mc.1 ∈ gTbl) (hlk : Cond.methodLinkNest M.1.cls idx Mc.1 host ∈ lw_tbl) (hd : decode M.2.1 pc = .ok (.invokestatic idx, 3)) (hdep : d' + 1 ≤ d)
    (hS0 : S0 = As.reverse ++ S) (hn : As.length = n) (hcat : catS S ≤ 8) (hU : noU As = true) (hLc : L0 Mc.2.2.1 As = Lc) (hle : (eL As).length ≤ Mc.2.2.1) (hc : Runs d' Mc 0 Lc [] σ Q') (k : ∀ rv σ', Q' rv σ' → okRv Mc rv → Runs d M (pc + 3) L (rvL rv ++ S) σ' Q) : Runs d M pc L S0 σ Q := by
  subst hS0
  subst hLc
  intro oL oS G p l e R s m args below meth c cells slots A QQ C H locs ls hW hl kk
  obtain ⟨oA, oB⟩ := okVs_app oS
  have oAs : okVs As := fun v hv => oA v (List.mem_reverse.mpr hv)
  have hmet := toMet (l := l) hM.1 hU hle oAs hc G
  obtain ⟨hx, hb, hml, hown, hts, hR, hK⟩ := id C
  obtain ⟨m1, m2, m3, m4, m5, m6⟩ := hM
  have hlk2 := va_Nw.use (A := args) rfl (hR.2.2.2.2 _ _ _ _ hlk)
  have hrun := va_runSN (host := host) (own := M.1.cls) (index := idx) (H := H) (locs := locs) (cells := cells) (slots := slots) (below := below) (meth := meth) (e := e) (As := As.map (cvv G.1)) (rest := S.map (cvv G.1)) (g := F0 m pc ls ((As.reverse ++ S).map (cvv G.1))) (n := n) (R := R) (mc := 0) (ms := 0) (Ts := gTbl) ⟨hx, hb, hml, hown, hts⟩ hmet
    ⟨⟨⟨rfl, rfl, by show d' + 1 ≤ R.frames; omega, by show 8 + (Mc.2.2.1 + 11) + 64 * d' ≤ R.locals; omega, pay_in hts (wM_good m2), List.mem_cons_self⟩, hts _ m2, hts _ m3, m4, fun sig h => by rw [h] at m5; exact (Option.some.inj m5).symm, hlk2⟩, hts _ hV, trivial⟩
    ⟨blind, preW hW hK hR.2.2.2.2⟩ rfl (by rw [List.length_map]; exact hn) hl.2.1 (by simp) (by rw [catS_of]; show 2 * 0 + catS S ≤ 8; omega) hd ⟨by omega, by omega⟩
  refine callW hrun hW (fun rv σ' H' locs' hq hrv hW' => ?_)
  have := k rv σ' hq hrv oL (okRv_L hrv oB) G p l e R s m args below meth c cells slots A QQ C H' locs' ls hW' hl kk
  rw [List.map_append, rvL_S] at this
  exact this
end
section
/-! System.arraycopy over ints -/
def zcpy (σ : Hp) (gs xs gd xd n : Nat) : Hp := fun g i j => if g = gd ∧ i = xd ∧ j < n then σ gs xs j else σ g i j
theorem w_copy : lw_tbl[496]? = some (Cond.native arraycopyName) ∧ lw_tbl[76]? = some (Cond.initialized "java/lang/System") ∧ lw_tbl[495]? = some (Cond.static arraycopyName) := ⟨by decide +kernel, by decide +kernel, by decide +kernel⟩
theorem r_copy {d : Nat} {M : Mt} {pc : Nat} {L S : List AV} {σ : Hp} {Q : Option Int → Hp → Prop} {gs xs gd xd idx n : Nat} (hlk : Cond.methodLink M.1.cls idx arraycopyName ∈ gTbl) (hd : decode M.2.1 pc = .ok (.invokestatic idx, 3)) (hdep : 1 ≤ d) (hs : shp gs = shp gd) (hk : (shp gd).1 = 0) (hn : n ≤ (shp gd).2.2.1) (hcat : catS S ≤ 8) (hne : (gs, xs) ≠ (gd, xd))
    (h : Runs d M (pc + 3) L S (zcpy σ gs xs gd xd n) Q) : Runs d M pc L (zI (n : Int) :: zI 0 :: zR gd xd :: zI 0 :: zR gs xs :: S) σ Q := by
  have hg : gd < 52 := kind_lt (by omega)
  have hks : (shp gs).1 = 0 := by rw [hs]; exact hk
  have hgs : gs < 52 := kind_lt (by omega)
  have hsm : ∀ g, g < 52 → (shp g).2.2.1 < 1000 := by decide +kernel
  have hsm := hsm gd hg
  refine Runs.step (L' := L) (S' := S) (σ' := zcpy σ gs xs gd xd n) (fun oL oS oH => ⟨oL, okVs_tl (okVs_tl (okVs_tl (okVs_tl (okVs_tl oS))))⟩) (fun G p l e R s m args below meth c cells slots A QQ C oL oS H locs ls hW hl kk => ?_) h
  obtain ⟨hx, hb, hml, hown, hts, hR, hK⟩ := C
  obtain ⟨q0, he0, hq0⟩ := ws_at G σ hgs (okVs_hd (okVs_tl (okVs_tl (okVs_tl (okVs_tl oS)))))
  obtain ⟨q1, he1, hq1⟩ := ws_at G σ hg (okVs_hd (okVs_tl (okVs_tl oS)))
  obtain ⟨t0, ht0⟩ := ty_at G hgs (by omega)
  obtain ⟨t1, ht1⟩ := ty_at G hg (by omega)
  rw [cell_int hks] at he0
  rw [cell_int hk] at he1
  rw [show atyG gs = .int by unfold atyG; rw [hks]; rfl] at ht0
  rw [show atyG gd = .int by unfold atyG; rw [hk]; rfl] at ht1
  have e0 : ((n32 0).toNatClampNeg : Nat) = 0 := rfl
  have en : ((n32 (n : Int)).toNatClampNeg : Nat) = n := by rw [n32_nat (by omega) ⟨by omega, by omega⟩]; omega
  have nn : ∀ z : Int, 0 ≤ z → inR z → ¬ n32 z < 0 := fun z h1 h2 q => by
    have : n32 z < n32 0 := q
    rw [n32_lt h2 inR_0] at this
    omega
  refine va_copyi hx hb (hml.trans hl.2.1.symm) hown (hts _ hlk) (hts _ (gTbl_in w_copy.1 rfl)) (hts _ (gTbl_in w_copy.2.2 rfl)) (hts _ (gTbl_in w_copy.2.1 rfl)) hK hW.1 hW.2.1 hW.2.2.1 q0 q1 t0 t1 he0 he1 ht0 ht1 rfl (sp := n32 0) (dp := n32 0) (n := n32 (n : Int)) (nn 0 (by omega) inR_0) (nn 0 (by omega) inR_0) (nn n (by omega) ⟨by omega, by omega⟩) (by rw [e0, en, hs]; omega) (by rw [e0, en]; omega) (fun _ _ => rfl) (by omega) ?_ hd (fun H1 locs1 p1 p2 p3 => ?_)
  · rw [catS_of]
    have : nativeFrameWords "java/lang/System" "arraycopy" 5 = 7 := by decide
    omega
  · refine kk H1 locs1 ls ?_ hl
    have hc : cellOf G (zcpy σ gs xs gd xd n) gd xd = .inl (G.2.2.1 gd, (shp gd).2.2.1, .inl (va_cpy (fun j => n32 (σ gs xs j)) (fun j => n32 (σ gd xd j)) (n32 0).toNatClampNeg (n32 0).toNatClampNeg (n32 (n : Int)).toNatClampNeg)) := by
      rw [cell_int hk, e0, en]
      congr 4
      funext j
      by_cases hj : j < n
      · simp [zcpy, va_cpy, hj]
      · simp [zcpy, va_cpy, hj]
    have hneq : ∀ g' i', (g', i') ≠ (gd, xd) → (zcpy σ gs xs gd xd n) g' i' = σ g' i' := fun g' i' hh => by
      funext j
      unfold zcpy
      rw [if_neg]
      rintro ⟨rfl, rfl, -⟩
      exact hh rfl
    have hws := ws_set (G := G) (σ := σ) (σ' := zcpy σ gs xs gd xd n) hq1 (fun g' i' hh => cell_ne (hneq g' i' hh))
    have hset : (wsOf G σ).set q1 (G.1 gd xd, .inl (G.2.2.1 gd, (shp gd).2.2.1, .inl (va_cpy (fun j => n32 (σ gs xs j)) (fun j => n32 (σ gd xd j)) (n32 0).toNatClampNeg (n32 0).toNatClampNeg (n32 (n : Int)).toNatClampNeg))) = wsOf G (zcpy σ gs xs gd xd n) := by rw [← hc]; exact hws
    refine ⟨hset ▸ p1, hset ▸ p2, p3, hW.2.2.2.1.same ?_ ?_ ?_, fun g i j => ?_⟩
    · funext i'; exact hneq _ _ (fun e => by cases e; omega)
    · funext i'; exact hneq _ _ (fun e => by cases e; omega)
    · funext i'; exact hneq _ _ (fun e => by cases e; omega)
    · unfold zcpy
      split
      · exact hW.2.2.2.2 _ _ _
      · exact hW.2.2.2.2 _ _ _
/-! answers -/
def rI (K : Int → Hp → Prop) : Option Int → Hp → Prop := fun rv σ => match rv with
  | some z => K z σ
  | none => False
def rV (K : Hp → Prop) : Option Int → Hp → Prop := fun rv σ => match rv with
  | some _ => False
  | none => K σ
theorem Runs.monoI {d : Nat} {M : Mt} {pc : Nat} {L S : List AV} {σ : Hp} {K K' : Int → Hp → Prop} (h : Runs d M pc L S σ (rI K)) (hq : ∀ z σ', K z σ' → K' z σ') : Runs d M pc L S σ (rI K') := h.mono (fun rv σ' q => by
  cases rv with
  | none => exact q
  | some z => exact hq z σ' q)
theorem Runs.monoV {d : Nat} {M : Mt} {pc : Nat} {L S : List AV} {σ : Hp} {K K' : Hp → Prop} (h : Runs d M pc L S σ (rV K)) (hq : ∀ σ', K σ' → K' σ') : Runs d M pc L S σ (rV K') := h.mono (fun rv σ' q => by
  cases rv with
  | none => exact hq σ' q
  | some z => exact q)
theorem r_callVI {d d' : Nat} {M Mc : Mt} {pc : Nat} {L S S0 As Lc : List AV} {σ : Hp} {Q : Option Int → Hp → Prop} {g x idx n ci : Nat} (hM : okMc Mc n) (hV : okVc Mc) (hlk : Cond.methodLink M.1.cls idx Mc.1 ∈ gTbl) (hd : decode M.2.1 pc = .ok (.invokevirtual idx, 3)) (hdep : d' + 1 ≤ d) (hg : (shp g).1 = ci + 3) (hcls : (clsT ci).1 = Mc.1.cls) (hci : ci < 12)
    (hS0 : S0 = As.reverse ++ zR g x :: S) (hn : As.length = n) (hcat : catS S ≤ 8) (hU : noU (zR g x :: As) = true) (hLc : L0 Mc.2.2.1 (zR g x :: As) = Lc) (hle : (eL (zR g x :: As)).length ≤ Mc.2.2.1) (hc : Runs d' Mc 0 Lc [] σ (rI (fun z σ' => Runs d M (pc + 3) L (zI z :: S) σ' Q))) : Runs d M pc L S0 σ Q :=
  r_callV hM hV hlk hd hdep hg hcls hci hS0 hn hcat hU hLc hle hc (fun rv σ' hq _ => by
    cases rv with
    | none => exact hq.elim
    | some z => exact hq)
theorem r_callVV {d d' : Nat} {M Mc : Mt} {pc : Nat} {L S S0 As Lc : List AV} {σ : Hp} {Q : Option Int → Hp → Prop} {g x idx n ci : Nat} (hM : okMc Mc n) (hV : okVc Mc) (hlk : Cond.methodLink M.1.cls idx Mc.1 ∈ gTbl) (hd : decode M.2.1 pc = .ok (.invokevirtual idx, 3)) (hdep : d' + 1 ≤ d) (hg : (shp g).1 = ci + 3) (hcls : (clsT ci).1 = Mc.1.cls) (hci : ci < 12)
    (hS0 : S0 = As.reverse ++ zR g x :: S) (hn : As.length = n) (hcat : catS S ≤ 8) (hU : noU (zR g x :: As) = true) (hLc : L0 Mc.2.2.1 (zR g x :: As) = Lc) (hle : (eL (zR g x :: As)).length ≤ Mc.2.2.1) (hc : Runs d' Mc 0 Lc [] σ (rV (fun σ' => Runs d M (pc + 3) L S σ' Q))) : Runs d M pc L S0 σ Q :=
  r_callV hM hV hlk hd hdep hg hcls hci hS0 hn hcat hU hLc hle hc (fun rv σ' hq _ => by
    cases rv with
    | none => exact hq
    | some z => exact hq.elim)
theorem r_callSI {d d' : Nat} {M Mc : Mt} {pc : Nat} {L S S0 As Lc : List AV} {σ : Hp} {Q : Option Int → Hp → Prop} {idx n : Nat} (hM : okMc Mc n) (hV : Cond.static Mc.1 ∈ gTbl) (hlk : Cond.methodLink M.1.cls idx Mc.1 ∈ gTbl) (hd : decode M.2.1 pc = .ok (.invokestatic idx, 3)) (hdep : d' + 1 ≤ d)
    (hS0 : S0 = As.reverse ++ S) (hn : As.length = n) (hcat : catS S ≤ 8) (hU : noU As = true) (hLc : L0 Mc.2.2.1 As = Lc) (hle : (eL As).length ≤ Mc.2.2.1) (hc : Runs d' Mc 0 Lc [] σ (rI (fun z σ' => Runs d M (pc + 3) L (zI z :: S) σ' Q))) : Runs d M pc L S0 σ Q :=
  r_callS hM hV hlk hd hdep hS0 hn hcat hU hLc hle hc (fun rv σ' hq _ => by
    cases rv with
    | none => exact hq.elim
    | some z => exact hq)
theorem r_callSV {d d' : Nat} {M Mc : Mt} {pc : Nat} {L S S0 As Lc : List AV} {σ : Hp} {Q : Option Int → Hp → Prop} {idx n : Nat} (hM : okMc Mc n) (hV : Cond.static Mc.1 ∈ gTbl) (hlk : Cond.methodLink M.1.cls idx Mc.1 ∈ gTbl) (hd : decode M.2.1 pc = .ok (.invokestatic idx, 3)) (hdep : d' + 1 ≤ d)
    (hS0 : S0 = As.reverse ++ S) (hn : As.length = n) (hcat : catS S ≤ 8) (hU : noU As = true) (hLc : L0 Mc.2.2.1 As = Lc) (hle : (eL As).length ≤ Mc.2.2.1) (hc : Runs d' Mc 0 Lc [] σ (rV (fun σ' => Runs d M (pc + 3) L S σ' Q))) : Runs d M pc L S0 σ Q :=
  r_callS hM hV hlk hd hdep hS0 hn hcat hU hLc hle hc (fun rv σ' hq _ => by
    cases rv with
    | none => exact hq
    | some z => exact hq.elim)
theorem r_callNI {d d' : Nat} {M Mc : Mt} {pc : Nat} {L S S0 As Lc : List AV} {σ : Hp} {Q : Option Int → Hp → Prop} {idx n : Nat} {host : String} (hM : okMc Mc n) (hV : Cond.static Mc.1 ∈ gTbl) (hlk : Cond.methodLinkNest M.1.cls idx Mc.1 host ∈ lw_tbl) (hd : decode M.2.1 pc = .ok (.invokestatic idx, 3)) (hdep : d' + 1 ≤ d)
    (hS0 : S0 = As.reverse ++ S) (hn : As.length = n) (hcat : catS S ≤ 8) (hU : noU As = true) (hLc : L0 Mc.2.2.1 As = Lc) (hle : (eL As).length ≤ Mc.2.2.1) (hc : Runs d' Mc 0 Lc [] σ (rI (fun z σ' => Runs d M (pc + 3) L (zI z :: S) σ' Q))) : Runs d M pc L S0 σ Q :=
  r_callN hM hV hlk hd hdep hS0 hn hcat hU hLc hle hc (fun rv σ' hq _ => by
    cases rv with
    | none => exact hq.elim
    | some z => exact hq)
/-! Math.max, Math.min -/
theorem w_math : lw_tbl[77]? = some (Cond.initialized "java/lang/Math") ∧ lw_tbl[511]? = some (Cond.code Lib.Math.max.name Lib.Math.max.code 2 (some .int)) ∧ lw_tbl[510]? = some (Cond.static Lib.Math.max.name) ∧ lw_tbl[634]? = some (Cond.code Lib.Math.min.name Lib.Math.min.code 2 (some .int)) ∧ lw_tbl[633]? = some (Cond.static Lib.Math.min.name) := ⟨by decide +kernel, by decide +kernel, by decide +kernel, by decide +kernel, by decide +kernel⟩
theorem r_max {d : Nat} {M : Mt} {pc : Nat} {L S : List AV} {σ : Hp} {Q : Option Int → Hp → Prop} {a b : Int} {idx : Nat} (hlk : Cond.methodLink M.1.cls idx Lib.Math.max.name ∈ gTbl) (hd : decode M.2.1 pc = .ok (.invokestatic idx, 3)) (hdep : 1 ≤ d) (hcat : catS S ≤ 8) (h : Runs d M (pc + 3) L (zI (if a < b then b else a) :: S) σ Q) : Runs d M pc L (zI b :: zI a :: S) σ Q := by
  refine Runs.step (L' := L) (S' := zI (if a < b then b else a) :: S) (σ' := σ) (fun oL oS oH => ⟨oL, okVs_cons (by split; exact okVs_hd oS; exact okVs_hd (okVs_tl oS)) (okVs_tl (okVs_tl oS))⟩) (fun G p l e R s m args below meth c cells slots A QQ C oL oS H locs ls hW hl kk => ?_) h
  obtain ⟨hx, hb, hml, hown, hts, hR, hK⟩ := C
  refine va_mmax hx hb (hml.trans hl.2.1.symm) hown (hts _ hlk) (hts _ (gTbl_in w_math.2.2.1 rfl)) (hts _ (gTbl_in w_math.1 rfl)) (hts _ (gTbl_in w_math.2.1 rfl)) (by omega) (by rw [catS_of]; omega) hR.2.2.1 hR.2.2.2.1 hd ?_
  have := kk H locs ls hW hl
  have e : (if n32 a < n32 b then n32 b else n32 a) = n32 (if a < b then b else a) := by
    by_cases q : a < b
    · rw [if_pos q, if_pos ((n32_lt (okVs_hd (okVs_tl oS)) (okVs_hd oS)).mpr q)]
    · rw [if_neg q, if_neg (fun z => q ((n32_lt (okVs_hd (okVs_tl oS)) (okVs_hd oS)).mp z))]
  rw [e]
  exact this
theorem r_min {d : Nat} {M : Mt} {pc : Nat} {L S : List AV} {σ : Hp} {Q : Option Int → Hp → Prop} {a b : Int} {idx : Nat} (hlk : Cond.methodLink M.1.cls idx Lib.Math.min.name ∈ gTbl) (hd : decode M.2.1 pc = .ok (.invokestatic idx, 3)) (hdep : 1 ≤ d) (hcat : catS S ≤ 8) (h : Runs d M (pc + 3) L (zI (if b < a then b else a) :: S) σ Q) : Runs d M pc L (zI b :: zI a :: S) σ Q := by
  refine Runs.step (L' := L) (S' := zI (if b < a then b else a) :: S) (σ' := σ) (fun oL oS oH => ⟨oL, okVs_cons (by split; exact okVs_hd oS; exact okVs_hd (okVs_tl oS)) (okVs_tl (okVs_tl oS))⟩) (fun G p l e R s m args below meth c cells slots A QQ C oL oS H locs ls hW hl kk => ?_) h
  obtain ⟨hx, hb, hml, hown, hts, hR, hK⟩ := C
  refine va_mmin hx hb (hml.trans hl.2.1.symm) hown (hts _ hlk) (hts _ (gTbl_in w_math.2.2.2.2 rfl)) (hts _ (gTbl_in w_math.1 rfl)) (hts _ (gTbl_in w_math.2.2.2.1 rfl)) (by omega) (by rw [catS_of]; omega) hR.2.2.1 hR.2.2.2.1 hd ?_
  have := kk H locs ls hW hl
  have e : (if n32 b < n32 a then n32 b else n32 a) = n32 (if b < a then b else a) := by
    by_cases q : b < a
    · rw [if_pos q, if_pos ((n32_lt (okVs_hd oS) (okVs_hd (okVs_tl oS))).mpr q)]
    · rw [if_neg q, if_neg (fun z => q ((n32_lt (okVs_hd oS) (okVs_hd (okVs_tl oS))).mp z))]
  rw [e]
  exact this
end
section
/-! bits and quotients in plain numbers -/
theorem n32_and1 (a : Int) : zand a 1 = a % 2 := by
  unfold zand
  have h : (n32 a &&& n32 1).toBitVec = (n32 a).toBitVec &&& 1#32 := rfl
  have h2 : ((n32 a).toBitVec &&& 1#32).toNat = (n32 a).toBitVec.toNat % 2 := by
    rw [BitVec.toNat_and]
    show (n32 a).toBitVec.toNat &&& 1 = _
    exact Nat.and_one_is_mod _
  have h3 : (n32 a &&& n32 1).toInt = ((n32 a).toBitVec.toNat % 2 : Nat) := by
    show (n32 a &&& n32 1).toBitVec.toInt = _
    rw [h, BitVec.toInt_eq_toNat_of_lt (by rw [h2]; omega), h2]
  rw [h3]
  have h4 : ((n32 a).toBitVec.toNat : Int) = a % 4294967296 := by
    show ((BitVec.ofInt 32 a).toNat : Int) = _
    rw [BitVec.toNat_ofInt]
    have : (0 : Int) ≤ a % 4294967296 := Int.emod_nonneg _ (by omega)
    show ((a % (4294967296 : Int)).toNat : Int) = _
    omega
  omega
theorem sh_amount : ∀ b : Fin 32, ((n32 (b.val : Int) &&& 31).toBitVec.smod 32#32).toNat = b.val := by decide +kernel
theorem sh_amount' {b : Int} (h : 0 ≤ b ∧ b < 32) : ((n32 b &&& 31).toBitVec.smod 32#32).toNat = b.toNat := by
  have h1 := sh_amount ⟨b.toNat, by omega⟩
  have h2 : ((b.toNat : Nat) : Int) = b := by omega
  simp only [h2] at h1
  exact h1
theorem zshr_eq {a b : Int} (ha : inR a) (hb : 0 ≤ b ∧ b < 32) : zshr a b = a / 2 ^ b.toNat := by
  unfold zshr
  show ((n32 a).toBitVec.sshiftRight' ((n32 b &&& 31).toBitVec.smod 32#32)).toInt = _
  rw [BitVec.sshiftRight_eq', BitVec.toInt_sshiftRight, sh_amount' hb]
  have h1 : (n32 a).toBitVec.toInt = a := n32_canon ha
  rw [h1, Int.shiftRight_eq_div_pow]
  norm_cast
theorem bitz_eq {a b : Int} (ha : inR a) (hb : 0 ≤ b ∧ b < 32) : bitz a b = a / 2 ^ b.toNat % 2 := by
  show zand (zshr a b) 1 = _
  rw [n32_and1, zshr_eq ha hb]
theorem bitz_01 (a b : Int) : bitz a b = 0 ∨ bitz a b = 1 := by
  show zand (zshr a b) 1 = 0 ∨ zand (zshr a b) 1 = 1
  rw [n32_and1]
  omega
theorem zshl_1 : ∀ b : Fin 31, zshl 1 (b.val : Int) = 2 ^ b.val := by decide +kernel
theorem zshl_eq {b : Int} (hb : 0 ≤ b ∧ b < 31) : zshl 1 b = 2 ^ b.toNat := by
  have h1 := zshl_1 ⟨b.toNat, by omega⟩
  have h2 : ((b.toNat : Nat) : Int) = b := by omega
  simp only [h2] at h1
  exact h1
theorem n32_bvNat {a : Int} (h0 : 0 ≤ a) (h : a < 2147483648) : (n32 a).toBitVec.toNat = a.toNat := by
  show (BitVec.ofInt 32 a).toNat = _
  rw [BitVec.toNat_ofInt]
  show (a % (4294967296 : Int)).toNat = _
  rw [Int.emod_eq_of_lt h0 (by omega)]
theorem zor_nat {a b : Int} (ha : 0 ≤ a ∧ a < 2147483648) (hb : 0 ≤ b ∧ b < 2147483648) : zor a b = ((a.toNat ||| b.toNat : Nat) : Int) := by
  unfold zor
  have h : (n32 a ||| n32 b).toBitVec.toNat = a.toNat ||| b.toNat := by
    show ((n32 a).toBitVec ||| (n32 b).toBitVec).toNat = _
    rw [BitVec.toNat_or, n32_bvNat ha.1 ha.2, n32_bvNat hb.1 hb.2]
  have hlt : a.toNat ||| b.toNat < 2 ^ 31 := Nat.or_lt_two_pow (by omega) (by omega)
  show (n32 a ||| n32 b).toBitVec.toInt = _
  rw [BitVec.toInt_eq_toNat_of_lt (by rw [h]; omega), h]
theorem zxor_nat {a b : Int} (ha : 0 ≤ a ∧ a < 2147483648) (hb : 0 ≤ b ∧ b < 2147483648) : zxor a b = ((a.toNat ^^^ b.toNat : Nat) : Int) := by
  unfold zxor
  have h : (n32 a ^^^ n32 b).toBitVec.toNat = a.toNat ^^^ b.toNat := by
    show ((n32 a).toBitVec ^^^ (n32 b).toBitVec).toNat = _
    rw [BitVec.toNat_xor, n32_bvNat ha.1 ha.2, n32_bvNat hb.1 hb.2]
  have hlt : a.toNat ^^^ b.toNat < 2 ^ 31 := Nat.xor_lt_two_pow (by omega) (by omega)
  show (n32 a ^^^ n32 b).toBitVec.toInt = _
  rw [BitVec.toInt_eq_toNat_of_lt (by rw [h]; omega), h]
theorem zxor_not {a : Int} (ha : inR a) : zxor a (-1) = -a - 1 := by
  unfold zxor
  have h : (n32 a ^^^ n32 (-1)).toBitVec = ~~~ (n32 a).toBitVec := by
    show (n32 a).toBitVec ^^^ (n32 (-1)).toBitVec = _
    have : (n32 (-1)).toBitVec = BitVec.allOnes 32 := by decide
    rw [this, BitVec.xor_allOnes]
  show (n32 a ^^^ n32 (-1)).toBitVec.toInt = _
  rw [h, BitVec.toInt_not]
  have h2 : ((n32 a).toBitVec.toNat : Int) = a % 4294967296 := by
    show ((BitVec.ofInt 32 a).toNat : Int) = _
    rw [BitVec.toNat_ofInt]
    have : (0 : Int) ≤ a % 4294967296 := Int.emod_nonneg _ (by omega)
    show ((a % (4294967296 : Int)).toNat : Int) = _
    omega
  have hb : ∀ z : Int, z.bmod (2 ^ 32) = wrap z := fun z => (wrap_bmod z).symm
  rw [hb]
  unfold inR at ha
  unfold wrap
  omega
theorem tb_of (n t : Nat) : (n / 2 ^ t % 2 : Nat) = (n.testBit t).toNat := by
  rw [Nat.testBit_eq_decide_div_mod_eq]
  have := Nat.mod_two_eq_zero_or_one (n / 2 ^ t)
  rcases this with h | h <;> simp [h]
theorem bitz_tb {a t : Int} (ha : 0 ≤ a ∧ a < 2147483648) (ht : 0 ≤ t ∧ t < 32) : bitz a t = ((a.toNat.testBit t.toNat).toNat : Int) := by
  rw [bitz_eq ⟨by omega, by omega⟩ ht, ← tb_of]
  have : a = ((a.toNat : Nat) : Int) := by omega
  rw [this]
  norm_cast
theorem bitz_not {a t : Int} (ha : inR a) (ht : 0 ≤ t ∧ t < 32) : bitz (zxor a (-1)) t = 1 - bitz a t := by
  have hn : inR (-a - 1) := by unfold inR at *; omega
  rw [zxor_not ha, bitz_eq hn ht, bitz_eq ha ht]
  generalize hP : (2 : Int) ^ t.toNat = P
  have hpos : 0 < P := by rw [← hP]; exact Int.pow_pos (by omega)
  have e1 := Int.emod_add_mul_ediv a P
  have e2 := Int.emod_nonneg a (show P ≠ 0 by omega)
  have e3 := Int.emod_lt_of_pos a hpos
  have hq : (-a - 1) / P = -(a / P) - 1 := by
    have : -a - 1 = (P - 1 - a % P) + P * (-(a / P) - 1) := by
      have : P * (-(a / P) - 1) = -(P * (a / P)) - P := by rw [Int.mul_sub, Int.mul_neg]; omega
      omega
    rw [this, Int.add_mul_ediv_left _ _ (by omega), Int.ediv_eq_zero_of_lt (by omega) (by omega)]
    omega
  rw [hq]
  omega
theorem n32_quot {a b : Int} (ha : inR a) (hb : inR b) (h0 : 0 ≤ a) (h1 : 0 < b) : zdiv a b = a / b := by
  unfold zdiv
  rw [Int32.toInt_div, n32_canon ha, n32_canon hb, Int.tdiv_eq_ediv_of_nonneg h0]
  have hq : a / b ≤ a := Int.ediv_le_self b h0
  have hq0 : 0 ≤ a / b := Int.ediv_nonneg h0 (by omega)
  have := wrap_bmod (a / b)
  rw [wrap_eq ⟨by omega, by unfold inR at ha; omega⟩] at this
  exact this.symm
theorem zrem_eq {a b : Int} (ha : inR a) (hb : inR b) (h0 : 0 ≤ a) (h1 : 0 < b) : zrem a b = a % b := by
  have hd := n32_quot ha hb h0 h1
  unfold zdiv at hd
  unfold zrem
  have e : n32 a / n32 b = n32 (a / b) := by rw [← hd, n32_of]
  have e1 := Int.emod_add_mul_ediv a b
  have e2 := Int.emod_nonneg a (show b ≠ 0 by omega)
  have e3 := Int.emod_lt_of_pos a h1
  rw [e, n32_mul, n32_sub, n32_toInt]
  have hc : a / b * b = a - a % b := by rw [Int.mul_comm]; omega
  rw [hc]
  have hm : a % b ≤ a := by
    have := Int.mul_nonneg (show 0 ≤ b by omega) (Int.ediv_nonneg h0 (show 0 ≤ b by omega))
    omega
  unfold inR at ha
  rw [wrap_eq (z := a - a % b) ⟨by omega, by omega⟩, show a - (a - a % b) = a % b by omega]
  have hw : wrap (a % b) = a % b := wrap_eq ⟨by omega, by omega⟩
  rw [hw]
  try rw [hw]
end
section
theorem gX11_isIn_0 (a0 : Int) (a1 : Int) (σ : Hp) {Q : Option Int → Hp → Prop} (h : ((a0 < 0 → Q (some 0) σ) ∧ (¬ a0 < 0 → ((a1 ≤ a0 → Q (some 0) σ) ∧ (¬ a1 ≤ a0 → Q (some 1) σ))))) : Runs 0 mX11_isIn 0 [zI a0, zI a1] [] σ Q := by
  refine r_blk [qO (.iload_n 0)] (pc' := 1) (L' := [zI a0, zI a1]) (S' := [zI a0]) (σ' := σ) (Ps := []) (by decide +kernel) rfl trivial ?_
  refine r_if_lt (off := 12) (tgt := 13) (by decide +kernel) (by decide) (fun c => ?_) (fun c => ?_)
  · replace h := h.1 c
    refine r_blk [qO (.iconst 0)] (pc' := 14) (L' := [zI a0, zI a1]) (S' := [zI 0]) (σ' := σ) (Ps := []) (by decide +kernel) rfl trivial ?_
    exact r_retz (by decide +kernel) rfl (by decide) h
  · replace h := h.2 c
    refine r_blk [qO (.iload_n 0), qO (.iload_n 1)] (pc' := 6) (L' := [zI a0, zI a1]) (S' := [zI a1, zI a0]) (σ' := σ) (Ps := []) (by decide +kernel) rfl trivial ?_
    refine r_icmp_ge (off := 7) (tgt := 13) (by decide +kernel) (by decide) (fun c => ?_) (fun c => ?_)
    · replace h := h.1 c
      refine r_blk [qO (.iconst 0)] (pc' := 14) (L' := [zI a0, zI a1]) (S' := [zI 0]) (σ' := σ) (Ps := []) (by decide +kernel) rfl trivial ?_
      exact r_retz (by decide +kernel) rfl (by decide) h
    · replace h := h.2 c
      refine r_blk [qO (.iconst 1), qO (.goto 4)] (pc' := 14) (L' := [zI a0, zI a1]) (S' := [zI 1]) (σ' := σ) (Ps := []) (by decide +kernel) rfl trivial ?_
      exact r_retz (by decide +kernel) rfl (by decide) h
theorem gX11_within_0 (a0 : Int) (a1 : Int) (a2 : Int) (σ : Hp) {Q : Option Int → Hp → Prop} (h : ((a1 ≤ a0 → ((a0 ≤ a2 → Q (some 0) σ) ∧ (¬ a0 ≤ a2 → Q (some (-6)) σ))) ∧ (¬ a1 ≤ a0 → Q (some (-4)) σ))) : Runs 0 mX11_within 0 [zI a0, zI a1, zI a2] [] σ Q := by
  refine r_blk [qO (.iload_n 0), qO (.iload_n 1)] (pc' := 2) (L' := [zI a0, zI a1, zI a2]) (S' := [zI a1, zI a0]) (σ' := σ) (Ps := []) (by decide +kernel) rfl trivial ?_
  refine r_icmp_ge (off := 8) (tgt := 10) (by decide +kernel) (by decide) (fun c => ?_) (fun c => ?_)
  · replace h := h.1 c
    refine r_blk [qO (.iload_n 0), qO (.iload_n 2)] (pc' := 12) (L' := [zI a0, zI a1, zI a2]) (S' := [zI a2, zI a0]) (σ' := σ) (Ps := []) (by decide +kernel) rfl trivial ?_
    refine r_icmp_le (off := 8) (tgt := 20) (by decide +kernel) (by decide) (fun c => ?_) (fun c => ?_)
    · replace h := h.1 c
      refine r_blk [qO (.iconst 0)] (pc' := 21) (L' := [zI a0, zI a1, zI a2]) (S' := [zI 0]) (σ' := σ) (Ps := []) (by decide +kernel) rfl trivial ?_
      exact r_ret (by decide +kernel) rfl (fun _ => h)
    · replace h := h.2 c
      refine r_blk [qO (.bipush (-6)), qO (.goto 4)] (pc' := 21) (L' := [zI a0, zI a1, zI a2]) (S' := [zI (-6)]) (σ' := σ) (Ps := []) (by decide +kernel) rfl trivial ?_
      exact r_ret (by decide +kernel) rfl (fun _ => h)
  · replace h := h.2 c
    refine r_blk [qO (.bipush (-4)), qO (.goto 14)] (pc' := 21) (L' := [zI a0, zI a1, zI a2]) (S' := [zI (-4)]) (σ' := σ) (Ps := []) (by decide +kernel) rfl trivial ?_
    exact r_ret (by decide +kernel) rfl (fun _ => h)
theorem gX11_get_0 (a0 : Int) (a1 : Int) (σ : Hp) {Q : Option Int → Hp → Prop} (h : (-2147483648 ≤ 5 * a0 ∧ 5 * a0 ≤ 2147483647) ∧ (-2147483648 ≤ 11 + (5 * a0) ∧ 11 + (5 * a0) ≤ 2147483647) ∧ (-2147483648 ≤ (11 + (5 * a0)) + a1 ∧ (11 + (5 * a0)) + a1 ≤ 2147483647) ∧ (0 ≤ (11 + (5 * a0)) + a1 ∧ (11 + (5 * a0)) + a1 < 123) ∧ Q (some (σ 36 0 (((11 + (5 * a0)) + a1).toNat))) σ) : Runs 0 mX11_get 0 [zR 34 0, zI a0, zI a1] [] σ Q := by
  refine r_blk [qO (.aload_n 0), qF (.getfield 13) 11 1, qO (.bipush 11), qO (.iconst 5), qO (.iload_n 1), qO .imul, qO .iadd, qO (.iload_n 2), qO .iadd, qO .iaload] (pc' := 13) (L' := [zR 34 0, zI a0, zI a1]) (S' := [zI (σ 36 0 (((11 + (5 * a0)) + a1).toNat))]) (σ' := σ) (Ps := [-2147483648 ≤ 5 * a0 ∧ 5 * a0 ≤ 2147483647, -2147483648 ≤ 11 + (5 * a0) ∧ 11 + (5 * a0) ≤ 2147483647, -2147483648 ≤ (11 + (5 * a0)) + a1 ∧ (11 + (5 * a0)) + a1 ≤ 2147483647, 0 ≤ (11 + (5 * a0)) + a1 ∧ (11 + (5 * a0)) + a1 < 123]) (by decide +kernel) rfl ⟨h.1, h.2.1, h.2.2.1, h.2.2.2.1, trivial⟩ ?_
  replace h := h.2.2.2.2
  exact r_ret (by decide +kernel) rfl (fun _ => h)
theorem gX11_of_0 (a0 : Int) (a1 : Int) (σ : Hp) {Q : Option Int → Hp → Prop} (h : (-2147483648 ≤ 4 * a0 ∧ 4 * a0 ≤ 2147483647) ∧ (-2147483648 ≤ 81 + (4 * a0) ∧ 81 + (4 * a0) ≤ 2147483647) ∧ (-2147483648 ≤ (81 + (4 * a0)) + a1 ∧ (81 + (4 * a0)) + a1 ≤ 2147483647) ∧ (0 ≤ (81 + (4 * a0)) + a1 ∧ (81 + (4 * a0)) + a1 < 123) ∧ Q (some (σ 36 0 (((81 + (4 * a0)) + a1).toNat))) σ) : Runs 0 mX11_of 0 [zR 34 0, zI a0, zI a1] [] σ Q := by
  refine r_blk [qO (.aload_n 0), qF (.getfield 13) 11 1, qO (.bipush 81), qO (.iconst 4), qO (.iload_n 1), qO .imul, qO .iadd, qO (.iload_n 2), qO .iadd, qO .iaload] (pc' := 13) (L' := [zR 34 0, zI a0, zI a1]) (S' := [zI (σ 36 0 (((81 + (4 * a0)) + a1).toNat))]) (σ' := σ) (Ps := [-2147483648 ≤ 4 * a0 ∧ 4 * a0 ≤ 2147483647, -2147483648 ≤ 81 + (4 * a0) ∧ 81 + (4 * a0) ≤ 2147483647, -2147483648 ≤ (81 + (4 * a0)) + a1 ∧ (81 + (4 * a0)) + a1 ≤ 2147483647, 0 ≤ (81 + (4 * a0)) + a1 ∧ (81 + (4 * a0)) + a1 < 123]) (by decide +kernel) rfl ⟨h.1, h.2.1, h.2.2.1, h.2.2.2.1, trivial⟩ ?_
  replace h := h.2.2.2.2
  exact r_ret (by decide +kernel) rfl (fun _ => h)
theorem gX11_refuse_0 (a0 : Int) (σ : Hp) {Q : Option Int → Hp → Prop} (h : (-2147483648 ≤ -a0 ∧ -a0 ≤ 2147483647) ∧ (0 ≤ (-a0) ∧ (-a0) < 7) ∧ (-2147483648 ≤ (σ 35 0 ((-a0).toNat)) + 1 ∧ (σ 35 0 ((-a0).toNat)) + 1 ≤ 2147483647) ∧ (0 ≤ (-a0) ∧ (-a0) < 7) ∧ Q (some a0) (zup σ 35 0 ((-a0).toNat) ((σ 35 0 ((-a0).toNat)) + 1))) : Runs 0 mX11_refuse 0 [zR 34 0, zI a0] [] σ Q := by
  refine r_blk [qO (.aload_n 0), qF (.getfield 7) 11 0, qO (.iload_n 1), qO .ineg, qO .dup2, qO .iaload, qO (.iconst 1), qO .iadd, qO .iastore, qO (.iload_n 1)] (pc' := 12) (L' := [zR 34 0, zI a0]) (S' := [zI a0]) (σ' := (zup σ 35 0 ((-a0).toNat) ((σ 35 0 ((-a0).toNat)) + 1))) (Ps := [-2147483648 ≤ -a0 ∧ -a0 ≤ 2147483647, 0 ≤ (-a0) ∧ (-a0) < 7, -2147483648 ≤ (σ 35 0 ((-a0).toNat)) + 1 ∧ (σ 35 0 ((-a0).toNat)) + 1 ≤ 2147483647, 0 ≤ (-a0) ∧ (-a0) < 7]) (by decide +kernel) rfl ⟨h.1, h.2.1, h.2.2.1, h.2.2.2.1, trivial⟩ ?_
  replace h := h.2.2.2.2
  exact r_ret (by decide +kernel) rfl (fun _ => h)
theorem gX11_sign_0 (σ : Hp) {Q : Option Int → Hp → Prop} (h : ((σ 34 0 8 < σ 34 0 7 → (0 ≤ σ 34 0 8 ∧ σ 34 0 8 < 64) ∧ Q (some (σ 39 0 ((σ 34 0 8).toNat))) σ) ∧ (¬ σ 34 0 8 < σ 34 0 7 → Q (some (-1)) σ))) : Runs 0 mX11_sign 0 [zR 34 0] [] σ Q := by
  refine r_blk [qO (.aload_n 0), qF (.getfield 76) 11 8, qO (.aload_n 0), qF (.getfield 70) 11 7] (pc' := 8) (L' := [zR 34 0]) (S' := [zI (σ 34 0 7), zI (σ 34 0 8)]) (σ' := σ) (Ps := []) (by decide +kernel) rfl trivial ?_
  refine r_icmp_lt (off := 7) (tgt := 15) (by decide +kernel) (by decide) (fun c => ?_) (fun c => ?_)
  · replace h := h.1 c
    refine r_blk [qO (.aload_n 0), qF (.getfield 22) 11 5, qO (.aload_n 0), qF (.getfield 76) 11 8, qO .iaload] (pc' := 24) (L' := [zR 34 0]) (S' := [zI (σ 39 0 ((σ 34 0 8).toNat))]) (σ' := σ) (Ps := [0 ≤ σ 34 0 8 ∧ σ 34 0 8 < 64]) (by decide +kernel) rfl ⟨h.1, trivial⟩ ?_
    replace h := h.2
    exact r_ret (by decide +kernel) rfl (fun _ => h)
  · replace h := h.2 c
    refine r_blk [qO (.iconst (-1)), qO (.goto 12)] (pc' := 24) (L' := [zR 34 0]) (S' := [zI (-1)]) (σ' := σ) (Ps := []) (by decide +kernel) rfl trivial ?_
    exact r_ret (by decide +kernel) rfl (fun _ => h)
theorem gX11_becomes_0 (a0 : Int) (a1 : Int) (σ : Hp) {Q : Option Int → Hp → Prop} (h : (0 ≤ a0 ∧ a0 < 123) ∧ (0 ≤ a0 ∧ a0 < 123) ∧ Q (some (σ 36 0 a0.toNat)) (zup σ 36 0 a0.toNat a1)) : Runs 0 mX11_becomes 0 [zR 34 0, zI a0, zI a1, zU] [] σ Q := by
  refine r_blk [qO (.aload_n 0), qF (.getfield 13) 11 1, qO (.iload_n 1), qO .iaload, qO (.istore_n 3), qO (.aload_n 0), qF (.getfield 13) 11 1, qO (.iload_n 1), qO (.iload_n 2), qO .iastore, qO (.iload_n 3)] (pc' := 15) (L' := [zR 34 0, zI a0, zI a1, zI (σ 36 0 a0.toNat)]) (S' := [zI (σ 36 0 a0.toNat)]) (σ' := (zup σ 36 0 a0.toNat a1)) (Ps := [0 ≤ a0 ∧ a0 < 123, 0 ≤ a0 ∧ a0 < 123]) (by decide +kernel) rfl ⟨h.1, h.2.1, trivial⟩ ?_
  replace h := h.2.2
  exact r_ret (by decide +kernel) rfl (fun _ => h)
theorem gX11_most_0 (a0 : Int) (σ : Hp) {Q : Option Int → Hp → Prop} (h : ((¬ a0 = 0 → ((¬ a0 = 1 → ((¬ a0 = 2 → Q (some 9) σ) ∧ (a0 = 2 → Q (some 720) σ))) ∧ (a0 = 1 → Q (some 4) σ))) ∧ (a0 = 0 → Q (some 1439) σ))) : Runs 0 mX11_most 0 [zI a0] [] σ Q := by
  refine r_blk [qO (.iload_n 0)] (pc' := 1) (L' := [zI a0]) (S' := [zI a0]) (σ' := σ) (Ps := []) (by decide +kernel) rfl trivial ?_
  refine r_if_ne (off := 9) (tgt := 10) (by decide +kernel) (by decide) (fun c => ?_) (fun c => ?_)
  · replace h := h.1 c
    refine r_blk [qO (.iload_n 0), qO (.iconst 1)] (pc' := 12) (L' := [zI a0]) (S' := [zI 1, zI a0]) (σ' := σ) (Ps := []) (by decide +kernel) rfl trivial ?_
    refine r_icmp_ne (off := 7) (tgt := 19) (by decide +kernel) (by decide) (fun c => ?_) (fun c => ?_)
    · replace h := h.1 c
      refine r_blk [qO (.iload_n 0), qO (.iconst 2)] (pc' := 21) (L' := [zI a0]) (S' := [zI 2, zI a0]) (σ' := σ) (Ps := []) (by decide +kernel) rfl trivial ?_
      refine r_icmp_ne (off := 9) (tgt := 30) (by decide +kernel) (by decide) (fun c => ?_) (fun c => ?_)
      · replace h := h.1 c
        refine r_blk [qO (.bipush 9)] (pc' := 32) (L' := [zI a0]) (S' := [zI 9]) (σ' := σ) (Ps := []) (by decide +kernel) rfl trivial ?_
        exact r_ret (by decide +kernel) rfl (fun _ => h)
      · replace h := h.2 c
        refine r_blk [qO (.sipush 720), qO (.goto 5)] (pc' := 32) (L' := [zI a0]) (S' := [zI 720]) (σ' := σ) (Ps := []) (by decide +kernel) rfl trivial ?_
        exact r_ret (by decide +kernel) rfl (fun _ => h)
    · replace h := h.2 c
      refine r_blk [qO (.iconst 4), qO (.goto 16)] (pc' := 32) (L' := [zI a0]) (S' := [zI 4]) (σ' := σ) (Ps := []) (by decide +kernel) rfl trivial ?_
      exact r_ret (by decide +kernel) rfl (fun _ => h)
  · replace h := h.2 c
    refine r_blk [qO (.sipush 1439), qO (.goto 25)] (pc' := 32) (L' := [zI a0]) (S' := [zI 1439]) (σ' := σ) (Ps := []) (by decide +kernel) rfl trivial ?_
    exact r_ret (by decide +kernel) rfl (fun _ => h)
theorem gX10_bitOf_0 (a0 : Int) (a1 : Int) (σ : Hp) {Q : Option Int → Hp → Prop} (h : Q (some (bitz a0 a1)) σ) : Runs 0 mX10_bitOf 0 [zI a0, zI a1] [] σ Q := by
  refine r_blk [qO (.iload_n 0), qO (.iload_n 1), qO .ishr, qO (.iconst 1), qO .iand] (pc' := 5) (L' := [zI a0, zI a1]) (S' := [zI (bitz a0 a1)]) (σ' := σ) (Ps := []) (by decide +kernel) rfl trivial ?_
  exact r_ret (by decide +kernel) rfl (fun _ => h)
theorem gX6_hasCorner_0 (a0 : Int) (t : Nat) (σ : Hp) {Q : Option Int → Hp → Prop} (h : ((a0 < 0 → Q (some 0) σ) ∧ (¬ a0 < 0 → ((σ 1 t 0 ≤ a0 → Q (some 0) σ) ∧ (¬ σ 1 t 0 ≤ a0 → Q (some 1) σ))))) : Runs 0 mX6_hasCorner 0 [zR 1 t, zI a0] [] σ Q := by
  refine r_blk [qO (.iload_n 1)] (pc' := 1) (L' := [zR 1 t, zI a0]) (S' := [zI a0]) (σ' := σ) (Ps := []) (by decide +kernel) rfl trivial ?_
  refine r_if_lt (off := 15) (tgt := 16) (by decide +kernel) (by decide) (fun c => ?_) (fun c => ?_)
  · replace h := h.1 c
    refine r_blk [qO (.iconst 0)] (pc' := 17) (L' := [zR 1 t, zI a0]) (S' := [zI 0]) (σ' := σ) (Ps := []) (by decide +kernel) rfl trivial ?_
    exact r_retz (by decide +kernel) rfl (by decide) h
  · replace h := h.2 c
    refine r_blk [qO (.iload_n 1), qO (.aload_n 0), qF (.getfield 9) 6 0] (pc' := 9) (L' := [zR 1 t, zI a0]) (S' := [zI (σ 1 t 0), zI a0]) (σ' := σ) (Ps := []) (by decide +kernel) rfl trivial ?_
    refine r_icmp_ge (off := 7) (tgt := 16) (by decide +kernel) (by decide) (fun c => ?_) (fun c => ?_)
    · replace h := h.1 c
      refine r_blk [qO (.iconst 0)] (pc' := 17) (L' := [zR 1 t, zI a0]) (S' := [zI 0]) (σ' := σ) (Ps := []) (by decide +kernel) rfl trivial ?_
      exact r_retz (by decide +kernel) rfl (by decide) h
    · replace h := h.2 c
      refine r_blk [qO (.iconst 1), qO (.goto 4)] (pc' := 17) (L' := [zR 1 t, zI a0]) (S' := [zI 1]) (σ' := σ) (Ps := []) (by decide +kernel) rfl trivial ?_
      exact r_retz (by decide +kernel) rfl (by decide) h
theorem gX6_hasStreet_0 (a0 : Int) (t : Nat) (σ : Hp) {Q : Option Int → Hp → Prop} (h : ((a0 < 0 → Q (some 0) σ) ∧ (¬ a0 < 0 → ((σ 1 t 1 ≤ a0 → Q (some 0) σ) ∧ (¬ σ 1 t 1 ≤ a0 → Q (some 1) σ))))) : Runs 0 mX6_hasStreet 0 [zR 1 t, zI a0] [] σ Q := by
  refine r_blk [qO (.iload_n 1)] (pc' := 1) (L' := [zR 1 t, zI a0]) (S' := [zI a0]) (σ' := σ) (Ps := []) (by decide +kernel) rfl trivial ?_
  refine r_if_lt (off := 15) (tgt := 16) (by decide +kernel) (by decide) (fun c => ?_) (fun c => ?_)
  · replace h := h.1 c
    refine r_blk [qO (.iconst 0)] (pc' := 17) (L' := [zR 1 t, zI a0]) (S' := [zI 0]) (σ' := σ) (Ps := []) (by decide +kernel) rfl trivial ?_
    exact r_retz (by decide +kernel) rfl (by decide) h
  · replace h := h.2 c
    refine r_blk [qO (.iload_n 1), qO (.aload_n 0), qF (.getfield 46) 6 1] (pc' := 9) (L' := [zR 1 t, zI a0]) (S' := [zI (σ 1 t 1), zI a0]) (σ' := σ) (Ps := []) (by decide +kernel) rfl trivial ?_
    refine r_icmp_ge (off := 7) (tgt := 16) (by decide +kernel) (by decide) (fun c => ?_) (fun c => ?_)
    · replace h := h.1 c
      refine r_blk [qO (.iconst 0)] (pc' := 17) (L' := [zR 1 t, zI a0]) (S' := [zI 0]) (σ' := σ) (Ps := []) (by decide +kernel) rfl trivial ?_
      exact r_retz (by decide +kernel) rfl (by decide) h
    · replace h := h.2 c
      refine r_blk [qO (.iconst 1), qO (.goto 4)] (pc' := 17) (L' := [zR 1 t, zI a0]) (S' := [zI 1]) (σ' := σ) (Ps := []) (by decide +kernel) rfl trivial ?_
      exact r_retz (by decide +kernel) rfl (by decide) h
theorem gX6_hasErrand_0 (a0 : Int) (t : Nat) (σ : Hp) {Q : Option Int → Hp → Prop} (h : ((a0 < 0 → Q (some 0) σ) ∧ (¬ a0 < 0 → ((σ 1 t 2 ≤ a0 → Q (some 0) σ) ∧ (¬ σ 1 t 2 ≤ a0 → Q (some 1) σ))))) : Runs 0 mX6_hasErrand 0 [zR 1 t, zI a0] [] σ Q := by
  refine r_blk [qO (.iload_n 1)] (pc' := 1) (L' := [zR 1 t, zI a0]) (S' := [zI a0]) (σ' := σ) (Ps := []) (by decide +kernel) rfl trivial ?_
  refine r_if_lt (off := 15) (tgt := 16) (by decide +kernel) (by decide) (fun c => ?_) (fun c => ?_)
  · replace h := h.1 c
    refine r_blk [qO (.iconst 0)] (pc' := 17) (L' := [zR 1 t, zI a0]) (S' := [zI 0]) (σ' := σ) (Ps := []) (by decide +kernel) rfl trivial ?_
    exact r_retz (by decide +kernel) rfl (by decide) h
  · replace h := h.2 c
    refine r_blk [qO (.iload_n 1), qO (.aload_n 0), qF (.getfield 49) 6 2] (pc' := 9) (L' := [zR 1 t, zI a0]) (S' := [zI (σ 1 t 2), zI a0]) (σ' := σ) (Ps := []) (by decide +kernel) rfl trivial ?_
    refine r_icmp_ge (off := 7) (tgt := 16) (by decide +kernel) (by decide) (fun c => ?_) (fun c => ?_)
    · replace h := h.1 c
      refine r_blk [qO (.iconst 0)] (pc' := 17) (L' := [zR 1 t, zI a0]) (S' := [zI 0]) (σ' := σ) (Ps := []) (by decide +kernel) rfl trivial ?_
      exact r_retz (by decide +kernel) rfl (by decide) h
    · replace h := h.2 c
      refine r_blk [qO (.iconst 1), qO (.goto 4)] (pc' := 17) (L' := [zR 1 t, zI a0]) (S' := [zI 1]) (σ' := σ) (Ps := []) (by decide +kernel) rfl trivial ?_
      exact r_retz (by decide +kernel) rfl (by decide) h
theorem gX10_refuse_0 (a0 : Int) (σ : Hp) {Q : Option Int → Hp → Prop} (h : (((-1) < a0 → Q (some a0) σ) ∧ (¬ (-1) < a0 → ((a0 < (-6) → Q (some a0) σ) ∧ (¬ a0 < (-6) → (-2147483648 ≤ -a0 ∧ -a0 ≤ 2147483647) ∧ (0 ≤ (-a0) ∧ (-a0) < 7) ∧ (-2147483648 ≤ (σ 33 0 ((-a0).toNat)) + 1 ∧ (σ 33 0 ((-a0).toNat)) + 1 ≤ 2147483647) ∧ (0 ≤ (-a0) ∧ (-a0) < 7) ∧ Q (some a0) (zup σ 33 0 ((-a0).toNat) ((σ 33 0 ((-a0).toNat)) + 1))))))) : Runs 0 mX10_refuse 0 [zR 0 0, zI a0] [] σ Q := by
  refine r_blk [qO (.iload_n 1), qO (.iconst (-1))] (pc' := 2) (L' := [zR 0 0, zI a0]) (S' := [zI (-1), zI a0]) (σ' := σ) (Ps := []) (by decide +kernel) rfl trivial ?_
  refine r_icmp_gt (off := 20) (tgt := 22) (by decide +kernel) (by decide) (fun c => ?_) (fun c => ?_)
  · replace h := h.1 c
    refine r_blk [qO (.iload_n 1)] (pc' := 23) (L' := [zR 0 0, zI a0]) (S' := [zI a0]) (σ' := σ) (Ps := []) (by decide +kernel) rfl trivial ?_
    exact r_ret (by decide +kernel) rfl (fun _ => h)
  · replace h := h.2 c
    refine r_blk [qO (.iload_n 1), qO (.bipush (-6))] (pc' := 8) (L' := [zR 0 0, zI a0]) (S' := [zI (-6), zI a0]) (σ' := σ) (Ps := []) (by decide +kernel) rfl trivial ?_
    refine r_icmp_lt (off := 14) (tgt := 22) (by decide +kernel) (by decide) (fun c => ?_) (fun c => ?_)
    · replace h := h.1 c
      refine r_blk [qO (.iload_n 1)] (pc' := 23) (L' := [zR 0 0, zI a0]) (S' := [zI a0]) (σ' := σ) (Ps := []) (by decide +kernel) rfl trivial ?_
      exact r_ret (by decide +kernel) rfl (fun _ => h)
    · replace h := h.2 c
      refine r_blk [qO (.aload_n 0), qF (.getfield 91) 10 11, qO (.iload_n 1), qO .ineg, qO .dup2, qO .iaload, qO (.iconst 1), qO .iadd, qO .iastore, qO (.iload_n 1)] (pc' := 23) (L' := [zR 0 0, zI a0]) (S' := [zI a0]) (σ' := (zup σ 33 0 ((-a0).toNat) ((σ 33 0 ((-a0).toNat)) + 1))) (Ps := [-2147483648 ≤ -a0 ∧ -a0 ≤ 2147483647, 0 ≤ (-a0) ∧ (-a0) < 7, -2147483648 ≤ (σ 33 0 ((-a0).toNat)) + 1 ∧ (σ 33 0 ((-a0).toNat)) + 1 ≤ 2147483647, 0 ≤ (-a0) ∧ (-a0) < 7]) (by decide +kernel) rfl ⟨h.1, h.2.1, h.2.2.1, h.2.2.2.1, trivial⟩ ?_
      replace h := h.2.2.2.2
      exact r_ret (by decide +kernel) rfl (fun _ => h)
theorem gX10_refusalOfMinute_0 (a0 : Int) (σ : Hp) {Q : Option Int → Hp → Prop} (h : ((0 ≤ a0 → ((a0 ≤ 2879 → Q (some 0) σ) ∧ (¬ a0 ≤ 2879 → Q (some (-6)) σ))) ∧ (¬ 0 ≤ a0 → Q (some (-4)) σ))) : Runs 0 mX10_refusalOfMinute 0 [zR 0 0, zI a0] [] σ Q := by
  refine r_blk [qO (.iload_n 1)] (pc' := 1) (L' := [zR 0 0, zI a0]) (S' := [zI a0]) (σ' := σ) (Ps := []) (by decide +kernel) rfl trivial ?_
  refine r_if_ge (off := 6) (tgt := 7) (by decide +kernel) (by decide) (fun c => ?_) (fun c => ?_)
  · replace h := h.1 c
    refine r_blk [qO (.iload_n 1), qO (.sipush 2879)] (pc' := 11) (L' := [zR 0 0, zI a0]) (S' := [zI 2879, zI a0]) (σ' := σ) (Ps := []) (by decide +kernel) rfl trivial ?_
    refine r_icmp_le (off := 8) (tgt := 19) (by decide +kernel) (by decide) (fun c => ?_) (fun c => ?_)
    · replace h := h.1 c
      refine r_blk [qO (.iconst 0)] (pc' := 20) (L' := [zR 0 0, zI a0]) (S' := [zI 0]) (σ' := σ) (Ps := []) (by decide +kernel) rfl trivial ?_
      exact r_ret (by decide +kernel) rfl (fun _ => h)
    · replace h := h.2 c
      refine r_blk [qO (.bipush (-6)), qO (.goto 4)] (pc' := 20) (L' := [zR 0 0, zI a0]) (S' := [zI (-6)]) (σ' := σ) (Ps := []) (by decide +kernel) rfl trivial ?_
      exact r_ret (by decide +kernel) rfl (fun _ => h)
  · replace h := h.2 c
    refine r_blk [qO (.bipush (-4))] (pc' := 6) (L' := [zR 0 0, zI a0]) (S' := [zI (-4)]) (σ' := σ) (Ps := []) (by decide +kernel) rfl trivial ?_
    exact r_ret (by decide +kernel) rfl (fun _ => h)
theorem gX5_byteAt_0 (a0 : Int) (σ : Hp) {Q : Option Int → Hp → Prop} (h : ((a0 < 0 → Q (some (-1)) σ) ∧ (¬ a0 < 0 → ((σ 12 0 1 ≤ a0 → Q (some (-1)) σ) ∧ (¬ σ 12 0 1 ≤ a0 → (0 ≤ a0 ∧ a0 < 64) ∧ Q (some (σ 13 0 a0.toNat)) σ))))) : Runs 0 mX5_byteAt 0 [zR 12 0, zI a0] [] σ Q := by
  refine r_blk [qO (.iload_n 1)] (pc' := 1) (L' := [zR 12 0, zI a0]) (S' := [zI a0]) (σ' := σ) (Ps := []) (by decide +kernel) rfl trivial ?_
  refine r_if_lt (off := 20) (tgt := 21) (by decide +kernel) (by decide) (fun c => ?_) (fun c => ?_)
  · replace h := h.1 c
    refine r_blk [qO (.iconst (-1))] (pc' := 22) (L' := [zR 12 0, zI a0]) (S' := [zI (-1)]) (σ' := σ) (Ps := []) (by decide +kernel) rfl trivial ?_
    exact r_ret (by decide +kernel) rfl (fun _ => h)
  · replace h := h.2 c
    refine r_blk [qO (.iload_n 1), qO (.aload_n 0), qF (.getfield 15) 5 1] (pc' := 9) (L' := [zR 12 0, zI a0]) (S' := [zI (σ 12 0 1), zI a0]) (σ' := σ) (Ps := []) (by decide +kernel) rfl trivial ?_
    refine r_icmp_ge (off := 12) (tgt := 21) (by decide +kernel) (by decide) (fun c => ?_) (fun c => ?_)
    · replace h := h.1 c
      refine r_blk [qO (.iconst (-1))] (pc' := 22) (L' := [zR 12 0, zI a0]) (S' := [zI (-1)]) (σ' := σ) (Ps := []) (by decide +kernel) rfl trivial ?_
      exact r_ret (by decide +kernel) rfl (fun _ => h)
    · replace h := h.2 c
      refine r_blk [qO (.aload_n 0), qF (.getfield 9) 5 0, qO (.iload_n 1), qO .iaload, qO (.goto 4)] (pc' := 22) (L' := [zR 12 0, zI a0]) (S' := [zI (σ 13 0 a0.toNat)]) (σ' := σ) (Ps := [0 ≤ a0 ∧ a0 < 64]) (by decide +kernel) rfl ⟨h.1, trivial⟩ ?_
      replace h := h.2
      exact r_ret (by decide +kernel) rfl (fun _ => h)
theorem gX3_isDigit_0 (a0 : Int) (σ : Hp) {Q : Option Int → Hp → Prop} (h : ((a0 < 48 → Q (some 0) σ) ∧ (¬ a0 < 48 → ((57 < a0 → Q (some 0) σ) ∧ (¬ 57 < a0 → Q (some 1) σ))))) : Runs 0 mX3_isDigit 0 [zI a0] [] σ Q := by
  refine r_blk [qO (.iload_n 0), qO (.bipush 48)] (pc' := 3) (L' := [zI a0]) (S' := [zI 48, zI a0]) (σ' := σ) (Ps := []) (by decide +kernel) rfl trivial ?_
  refine r_icmp_lt (off := 13) (tgt := 16) (by decide +kernel) (by decide) (fun c => ?_) (fun c => ?_)
  · replace h := h.1 c
    refine r_blk [qO (.iconst 0)] (pc' := 17) (L' := [zI a0]) (S' := [zI 0]) (σ' := σ) (Ps := []) (by decide +kernel) rfl trivial ?_
    exact r_retz (by decide +kernel) rfl (by decide) h
  · replace h := h.2 c
    refine r_blk [qO (.iload_n 0), qO (.bipush 57)] (pc' := 9) (L' := [zI a0]) (S' := [zI 57, zI a0]) (σ' := σ) (Ps := []) (by decide +kernel) rfl trivial ?_
    refine r_icmp_gt (off := 7) (tgt := 16) (by decide +kernel) (by decide) (fun c => ?_) (fun c => ?_)
    · replace h := h.1 c
      refine r_blk [qO (.iconst 0)] (pc' := 17) (L' := [zI a0]) (S' := [zI 0]) (σ' := σ) (Ps := []) (by decide +kernel) rfl trivial ?_
      exact r_retz (by decide +kernel) rfl (by decide) h
    · replace h := h.2 c
      refine r_blk [qO (.iconst 1), qO (.goto 4)] (pc' := 17) (L' := [zI a0]) (S' := [zI 1]) (σ' := σ) (Ps := []) (by decide +kernel) rfl trivial ?_
      exact r_retz (by decide +kernel) rfl (by decide) h
theorem gX8_minuteAt_0 (a0 : Int) (σ : Hp) {Q : Option Int → Hp → Prop} (h : (0 ≤ a0 ∧ a0 < 10) ∧ ((¬ σ 18 0 a0.toNat = 1000000 → (0 ≤ a0 ∧ a0 < 10) ∧ Q (some (σ 18 0 a0.toNat)) σ) ∧ (σ 18 0 a0.toNat = 1000000 → Q (some (-9)) σ))) : Runs 0 mX8_minuteAt 0 [zR 17 0, zI a0] [] σ Q := by
  refine r_blk [qO (.aload_n 0), qF (.getfield 9) 8 2, qO (.iload_n 1), qO .iaload, qC (.ldc 23) 1000000] (pc' := 8) (L' := [zR 17 0, zI a0]) (S' := [zI 1000000, zI (σ 18 0 a0.toNat)]) (σ' := σ) (Ps := [0 ≤ a0 ∧ a0 < 10]) (by decide +kernel) rfl ⟨h.1, trivial⟩ ?_
  replace h := h.2
  refine r_icmp_ne (off := 8) (tgt := 16) (by decide +kernel) (by decide) (fun c => ?_) (fun c => ?_)
  · replace h := h.1 c
    refine r_blk [qO (.aload_n 0), qF (.getfield 9) 8 2, qO (.iload_n 1), qO .iaload] (pc' := 22) (L' := [zR 17 0, zI a0]) (S' := [zI (σ 18 0 a0.toNat)]) (σ' := σ) (Ps := [0 ≤ a0 ∧ a0 < 10]) (by decide +kernel) rfl ⟨h.1, trivial⟩ ?_
    replace h := h.2
    exact r_ret (by decide +kernel) rfl (fun _ => h)
  · replace h := h.2 c
    refine r_blk [qO (.bipush (-9)), qO (.goto 9)] (pc' := 22) (L' := [zR 17 0, zI a0]) (S' := [zI (-9)]) (σ' := σ) (Ps := []) (by decide +kernel) rfl trivial ?_
    exact r_ret (by decide +kernel) rfl (fun _ => h)
theorem gX7_turnAt_0 (a0 : Int) (σ : Hp) {Q : Option Int → Hp → Prop} (h : Q none (zup σ 16 0 2 a0)) : Runs 0 mX7_turnAt 0 [zR 16 0, zI a0] [] σ Q := by
  refine r_blk [qO (.aload_n 0), qO (.iload_n 1), qF (.putfield 25) 7 2] (pc' := 5) (L' := [zR 16 0, zI a0]) (S' := []) (σ' := (zup σ 16 0 2 a0)) (Ps := []) (by decide +kernel) rfl trivial ?_
  exact r_retv (by decide +kernel) rfl h
theorem gX7_entryOf_0 (a0 : Int) (a1 : Int) (σ : Hp) {Q : Option Int → Hp → Prop} (h : ((2879 < σ 16 0 7 → Q (some (-9)) σ) ∧ (¬ 2879 < σ 16 0 7 → ((¬ bitz (σ 16 0 5) a0 = 1 → ((bitz (σ 16 0 6) a0 = 1 → Q (some (σ 16 0 7)) σ) ∧ (¬ bitz (σ 16 0 6) a0 = 1 → ((¬ bitz (σ 16 0 9) a0 = a1 → Q (some (σ 16 0 8)) σ) ∧ (bitz (σ 16 0 9) a0 = a1 → Q (some (σ 16 0 7)) σ))))) ∧ (bitz (σ 16 0 5) a0 = 1 → Q (some (-9)) σ))))) : Runs 0 mX7_entryOf 0 [zR 16 0, zI a0, zI a1] [] σ Q := by
  refine r_blk [qO (.aload_n 0), qF (.getfield 54) 7 7, qO (.sipush 2879)] (pc' := 7) (L' := [zR 16 0, zI a0, zI a1]) (S' := [zI 2879, zI (σ 16 0 7)]) (σ' := σ) (Ps := []) (by decide +kernel) rfl trivial ?_
  refine r_icmp_gt (off := 15) (tgt := 22) (by decide +kernel) (by decide) (fun c => ?_) (fun c => ?_)
  · replace h := h.1 c
    refine r_blk [qO (.bipush (-9))] (pc' := 24) (L' := [zR 16 0, zI a0, zI a1]) (S' := [zI (-9)]) (σ' := σ) (Ps := []) (by decide +kernel) rfl trivial ?_
    exact r_ret (by decide +kernel) rfl (fun _ => h)
  · replace h := h.2 c
    refine r_blk [qO (.aload_n 0), qF (.getfield 34) 7 5, qO (.iload_n 1), qO .ishr, qO (.iconst 1), qO .iand, qO (.iconst 1)] (pc' := 19) (L' := [zR 16 0, zI a0, zI a1]) (S' := [zI 1, zI (bitz (σ 16 0 5) a0)]) (σ' := σ) (Ps := []) (by decide +kernel) rfl trivial ?_
    refine r_icmp_ne (off := 6) (tgt := 25) (by decide +kernel) (by decide) (fun c => ?_) (fun c => ?_)
    · replace h := h.1 c
      refine r_blk [qO (.aload_n 0), qF (.getfield 51) 7 6, qO (.iload_n 1), qO .ishr, qO (.iconst 1), qO .iand, qO (.iconst 1)] (pc' := 34) (L' := [zR 16 0, zI a0, zI a1]) (S' := [zI 1, zI (bitz (σ 16 0 6) a0)]) (σ' := σ) (Ps := []) (by decide +kernel) rfl trivial ?_
      refine r_icmp_eq (off := 15) (tgt := 49) (by decide +kernel) (by decide) (fun c => ?_) (fun c => ?_)
      · replace h := h.1 c
        refine r_blk [qO (.aload_n 0), qF (.getfield 54) 7 7, qO (.goto 7)] (pc' := 60) (L' := [zR 16 0, zI a0, zI a1]) (S' := [zI (σ 16 0 7)]) (σ' := σ) (Ps := []) (by decide +kernel) rfl trivial ?_
        exact r_ret (by decide +kernel) rfl (fun _ => h)
      · replace h := h.2 c
        refine r_blk [qO (.aload_n 0), qF (.getfield 60) 7 9, qO (.iload_n 1), qO .ishr, qO (.iconst 1), qO .iand, qO (.iload_n 2)] (pc' := 46) (L' := [zR 16 0, zI a0, zI a1]) (S' := [zI a1, zI (bitz (σ 16 0 9) a0)]) (σ' := σ) (Ps := []) (by decide +kernel) rfl trivial ?_
        refine r_icmp_ne (off := 10) (tgt := 56) (by decide +kernel) (by decide) (fun c => ?_) (fun c => ?_)
        · replace h := h.1 c
          refine r_blk [qO (.aload_n 0), qF (.getfield 57) 7 8] (pc' := 60) (L' := [zR 16 0, zI a0, zI a1]) (S' := [zI (σ 16 0 8)]) (σ' := σ) (Ps := []) (by decide +kernel) rfl trivial ?_
          exact r_ret (by decide +kernel) rfl (fun _ => h)
        · replace h := h.2 c
          refine r_blk [qO (.aload_n 0), qF (.getfield 54) 7 7, qO (.goto 7)] (pc' := 60) (L' := [zR 16 0, zI a0, zI a1]) (S' := [zI (σ 16 0 7)]) (σ' := σ) (Ps := []) (by decide +kernel) rfl trivial ?_
          exact r_ret (by decide +kernel) rfl (fun _ => h)
    · replace h := h.2 c
      refine r_blk [qO (.bipush (-9))] (pc' := 24) (L' := [zR 16 0, zI a0, zI a1]) (S' := [zI (-9)]) (σ' := σ) (Ps := []) (by decide +kernel) rfl trivial ?_
      exact r_ret (by decide +kernel) rfl (fun _ => h)
theorem gX7_standAt_0 (a0 : Int) (σ : Hp) {Q : Option Int → Hp → Prop} (h : ((σ 16 0 1 = 4 → Runs 0 mX7_standAt 29 [zR 16 0, zI a0, zI 0, zI (-9)] [] σ Q) ∧ (¬ σ 16 0 1 = 4 → ((σ 16 0 2 ≤ a0 → Runs 0 mX7_standAt 29 [zR 16 0, zI a0, zI 0, zI (-9)] [] σ Q) ∧ (¬ σ 16 0 2 ≤ a0 → Runs 0 mX7_standAt 83 [zR 16 0, zI a0, zI 0, zI (σ 16 0 2)] [] σ Q))))) : Runs 0 mX7_standAt 0 [zR 16 0, zI a0, zU, zU] [] σ Q := by
  refine r_blk [qO (.iconst 0), qO (.istore_n 2), qO (.bipush (-9)), qO (.istore_n 3), qO (.aload_n 0), qF (.getfield 21) 7 1, qO (.iconst 4)] (pc' := 10) (L' := [zR 16 0, zI a0, zI 0, zI (-9)]) (S' := [zI 4, zI (σ 16 0 1)]) (σ' := σ) (Ps := []) (by decide +kernel) rfl trivial ?_
  refine r_icmp_eq (off := 19) (tgt := 29) (by decide +kernel) (by decide) (fun c => ?_) (fun c => ?_)
  · replace h := h.1 c
    exact Runs.fg (fgE (fgE (fgE (fgE fg0)))) h
  · replace h := h.2 c
    refine r_blk [qO (.iload_n 1), qO (.aload_n 0), qF (.getfield 25) 7 2] (pc' := 18) (L' := [zR 16 0, zI a0, zI 0, zI (-9)]) (S' := [zI (σ 16 0 2), zI a0]) (σ' := σ) (Ps := []) (by decide +kernel) rfl trivial ?_
    refine r_icmp_ge (off := 11) (tgt := 29) (by decide +kernel) (by decide) (fun c => ?_) (fun c => ?_)
    · replace h := h.1 c
      exact Runs.fg (fgE (fgE (fgE (fgE fg0)))) h
    · replace h := h.2 c
      refine r_blk [qO (.aload_n 0), qF (.getfield 25) 7 2, qO (.istore_n 3), qO (.goto 57)] (pc' := 83) (L' := [zR 16 0, zI a0, zI 0, zI (σ 16 0 2)]) (S' := []) (σ' := σ) (Ps := []) (by decide +kernel) rfl trivial ?_
      exact Runs.fg (fgE (fgE (fgE (fgE fg0)))) h
theorem gX7_standAt_29 (l1 : Int) (l2 : Int) (l3 : Int) (σ : Hp) {Q : Option Int → Hp → Prop} (h : ((¬ σ 16 0 1 = 2 → Runs 0 mX7_standAt 73 [zR 16 0, zI l1, zI l2, zI l3] [] σ Q) ∧ (σ 16 0 1 = 2 → ((σ 16 0 3 ≤ 0 → Runs 0 mX7_standAt 73 [zR 16 0, zI l1, zI l2, zI l3] [] σ Q) ∧ (¬ σ 16 0 3 ≤ 0 → (-2147483648 ≤ l1 - (σ 16 0 2) ∧ l1 - (σ 16 0 2) ≤ 2147483647) ∧ (σ 16 0 3 ≠ 0) ∧ (-2147483648 ≤ 1 + (zdiv (l1 - (σ 16 0 2)) (σ 16 0 3)) ∧ 1 + (zdiv (l1 - (σ 16 0 2)) (σ 16 0 3)) ≤ 2147483647) ∧ (-2147483648 ≤ (1 + (zdiv (l1 - (σ 16 0 2)) (σ 16 0 3))) * (σ 16 0 3) ∧ (1 + (zdiv (l1 - (σ 16 0 2)) (σ 16 0 3))) * (σ 16 0 3) ≤ 2147483647) ∧ (-2147483648 ≤ (σ 16 0 2) + ((1 + (zdiv (l1 - (σ 16 0 2)) (σ 16 0 3))) * (σ 16 0 3)) ∧ (σ 16 0 2) + ((1 + (zdiv (l1 - (σ 16 0 2)) (σ 16 0 3))) * (σ 16 0 3)) ≤ 2147483647) ∧ Runs 0 mX7_standAt 83 [zR 16 0, zI l1, zI (1 + (zdiv (l1 - (σ 16 0 2)) (σ 16 0 3))), zI ((σ 16 0 2) + ((1 + (zdiv (l1 - (σ 16 0 2)) (σ 16 0 3))) * (σ 16 0 3)))] [] σ Q))))) : Runs 0 mX7_standAt 29 [zR 16 0, zI l1, zI l2, zI l3] [] σ Q := by
  refine r_blk [qO (.aload_n 0), qF (.getfield 21) 7 1, qO (.iconst 2)] (pc' := 34) (L' := [zR 16 0, zI l1, zI l2, zI l3]) (S' := [zI 2, zI (σ 16 0 1)]) (σ' := σ) (Ps := []) (by decide +kernel) rfl trivial ?_
  refine r_icmp_ne (off := 39) (tgt := 73) (by decide +kernel) (by decide) (fun c => ?_) (fun c => ?_)
  · replace h := h.1 c
    exact Runs.fg (fgE (fgE (fgE (fgE fg0)))) h
  · replace h := h.2 c
    refine r_blk [qO (.aload_n 0), qF (.getfield 28) 7 3] (pc' := 41) (L' := [zR 16 0, zI l1, zI l2, zI l3]) (S' := [zI (σ 16 0 3)]) (σ' := σ) (Ps := []) (by decide +kernel) rfl trivial ?_
    refine r_if_le (off := 32) (tgt := 73) (by decide +kernel) (by decide) (fun c => ?_) (fun c => ?_)
    · replace h := h.1 c
      exact Runs.fg (fgE (fgE (fgE (fgE fg0)))) h
    · replace h := h.2 c
      refine r_blk [qO (.iconst 1), qO (.iload_n 1), qO (.aload_n 0), qF (.getfield 25) 7 2, qO .isub, qO (.aload_n 0), qF (.getfield 28) 7 3, qO .idiv, qO .iadd, qO (.istore_n 2), qO (.aload_n 0), qF (.getfield 25) 7 2, qO (.iload_n 2), qO (.aload_n 0), qF (.getfield 28) 7 3, qO .imul, qO .iadd, qO (.istore_n 3), qO (.goto 13)] (pc' := 83) (L' := [zR 16 0, zI l1, zI (1 + (zdiv (l1 - (σ 16 0 2)) (σ 16 0 3))), zI ((σ 16 0 2) + ((1 + (zdiv (l1 - (σ 16 0 2)) (σ 16 0 3))) * (σ 16 0 3)))]) (S' := []) (σ' := σ) (Ps := [-2147483648 ≤ l1 - (σ 16 0 2) ∧ l1 - (σ 16 0 2) ≤ 2147483647, σ 16 0 3 ≠ 0, -2147483648 ≤ 1 + (zdiv (l1 - (σ 16 0 2)) (σ 16 0 3)) ∧ 1 + (zdiv (l1 - (σ 16 0 2)) (σ 16 0 3)) ≤ 2147483647, -2147483648 ≤ (1 + (zdiv (l1 - (σ 16 0 2)) (σ 16 0 3))) * (σ 16 0 3) ∧ (1 + (zdiv (l1 - (σ 16 0 2)) (σ 16 0 3))) * (σ 16 0 3) ≤ 2147483647, -2147483648 ≤ (σ 16 0 2) + ((1 + (zdiv (l1 - (σ 16 0 2)) (σ 16 0 3))) * (σ 16 0 3)) ∧ (σ 16 0 2) + ((1 + (zdiv (l1 - (σ 16 0 2)) (σ 16 0 3))) * (σ 16 0 3)) ≤ 2147483647]) (by decide +kernel) rfl ⟨h.1, h.2.1, h.2.2.1, h.2.2.2.1, h.2.2.2.2.1, trivial⟩ ?_
      replace h := h.2.2.2.2.2
      exact Runs.fg (fgE (fgE (fgE (fgE fg0)))) h
theorem gX7_standAt_73 (l1 : Int) (l2 : Int) (l3 : Int) (σ : Hp) {Q : Option Int → Hp → Prop} (h : ((σ 16 0 1 = 4 → Runs 0 mX7_standAt 83 [zR 16 0, zI l1, zI l2, zI l3] [] σ Q) ∧ (¬ σ 16 0 1 = 4 → Runs 0 mX7_standAt 83 [zR 16 0, zI l1, zI 1, zI l3] [] σ Q))) : Runs 0 mX7_standAt 73 [zR 16 0, zI l1, zI l2, zI l3] [] σ Q := by
  refine r_blk [qO (.aload_n 0), qF (.getfield 21) 7 1, qO (.iconst 4)] (pc' := 78) (L' := [zR 16 0, zI l1, zI l2, zI l3]) (S' := [zI 4, zI (σ 16 0 1)]) (σ' := σ) (Ps := []) (by decide +kernel) rfl trivial ?_
  refine r_icmp_eq (off := 5) (tgt := 83) (by decide +kernel) (by decide) (fun c => ?_) (fun c => ?_)
  · replace h := h.1 c
    exact Runs.fg (fgE (fgE (fgE (fgE fg0)))) h
  · replace h := h.2 c
    refine r_blk [qO (.iconst 1), qO (.istore_n 2)] (pc' := 83) (L' := [zR 16 0, zI l1, zI 1, zI l3]) (S' := []) (σ' := σ) (Ps := []) (by decide +kernel) rfl trivial ?_
    exact Runs.fg (fgE (fgE (fgE (fgE fg0)))) h
theorem gX7_standAt_83 (l1 : Int) (l2 : Int) (l3 : Int) (σ : Hp) {Q : Option Int → Hp → Prop} (h : ((l3 ≤ 2879 → ((¬ zand l2 1 = 1 → Q none (zup (zup (zup σ 16 0 7 l1) 16 0 8 l3) 16 0 9 (σ 16 0 4))) ∧ (zand l2 1 = 1 → Q none (zup (zup (zup σ 16 0 7 l1) 16 0 8 l3) 16 0 9 (zxor (σ 16 0 4) (-1)))))) ∧ (¬ l3 ≤ 2879 → ((¬ zand l2 1 = 1 → Q none (zup (zup (zup σ 16 0 7 l1) 16 0 8 (-9)) 16 0 9 (σ 16 0 4))) ∧ (zand l2 1 = 1 → ∀ σ1 : Hp, σ1 = (zup (zup (zup σ 16 0 7 l1) 16 0 8 (-9)) 16 0 9 (zxor (σ 16 0 4) (-1))) → Q none σ1))))) : Runs 0 mX7_standAt 83 [zR 16 0, zI l1, zI l2, zI l3] [] σ Q := by
  refine r_blk [qO (.aload_n 0), qO (.iload_n 1), qF (.putfield 54) 7 7, qO (.aload_n 0), qO (.iload_n 3), qO (.sipush 2879)] (pc' := 93) (L' := [zR 16 0, zI l1, zI l2, zI l3]) (S' := [zI 2879, zI l3, zR 16 0]) (σ' := (zup σ 16 0 7 l1)) (Ps := []) (by decide +kernel) rfl trivial ?_
  refine r_icmp_le (off := 8) (tgt := 101) (by decide +kernel) (by decide) (fun c => ?_) (fun c => ?_)
  · replace h := h.1 c
    refine r_blk [qO (.iload_n 3), qF (.putfield 57) 7 8, qO (.aload_n 0), qO (.iload_n 2), qO (.iconst 1), qO .iand, qO (.iconst 1)] (pc' := 110) (L' := [zR 16 0, zI l1, zI l2, zI l3]) (S' := [zI 1, zI (zand l2 1), zR 16 0]) (σ' := (zup (zup σ 16 0 7 l1) 16 0 8 l3)) (Ps := []) (by decide +kernel) rfl trivial ?_
    refine r_icmp_ne (off := 12) (tgt := 122) (by decide +kernel) (by decide) (fun c => ?_) (fun c => ?_)
    · replace h := h.1 c
      refine r_blk [qO (.aload_n 0), qF (.getfield 45) 7 4, qF (.putfield 60) 7 9] (pc' := 129) (L' := [zR 16 0, zI l1, zI l2, zI l3]) (S' := []) (σ' := (zup (zup (zup σ 16 0 7 l1) 16 0 8 l3) 16 0 9 (σ 16 0 4))) (Ps := []) (by decide +kernel) rfl trivial ?_
      exact r_retv (by decide +kernel) rfl h
    · replace h := h.2 c
      refine r_blk [qO (.aload_n 0), qF (.getfield 45) 7 4, qO (.iconst (-1)), qO .ixor, qO (.goto 7), qF (.putfield 60) 7 9] (pc' := 129) (L' := [zR 16 0, zI l1, zI l2, zI l3]) (S' := []) (σ' := (zup (zup (zup σ 16 0 7 l1) 16 0 8 l3) 16 0 9 (zxor (σ 16 0 4) (-1)))) (Ps := []) (by decide +kernel) rfl trivial ?_
      exact r_retv (by decide +kernel) rfl h
  · replace h := h.2 c
    refine r_blk [qO (.bipush (-9)), qO (.goto 4), qF (.putfield 57) 7 8, qO (.aload_n 0), qO (.iload_n 2), qO (.iconst 1), qO .iand, qO (.iconst 1)] (pc' := 110) (L' := [zR 16 0, zI l1, zI l2, zI l3]) (S' := [zI 1, zI (zand l2 1), zR 16 0]) (σ' := (zup (zup σ 16 0 7 l1) 16 0 8 (-9))) (Ps := []) (by decide +kernel) rfl trivial ?_
    refine r_icmp_ne (off := 12) (tgt := 122) (by decide +kernel) (by decide) (fun c => ?_) (fun c => ?_)
    · replace h := h.1 c
      refine r_blk [qO (.aload_n 0), qF (.getfield 45) 7 4, qF (.putfield 60) 7 9] (pc' := 129) (L' := [zR 16 0, zI l1, zI l2, zI l3]) (S' := []) (σ' := (zup (zup (zup σ 16 0 7 l1) 16 0 8 (-9)) 16 0 9 (σ 16 0 4))) (Ps := []) (by decide +kernel) rfl trivial ?_
      exact r_retv (by decide +kernel) rfl h
    · replace h := h.2 c
      refine r_blk [qO (.aload_n 0), qF (.getfield 45) 7 4, qO (.iconst (-1)), qO .ixor, qO (.goto 7), qF (.putfield 60) 7 9] (pc' := 129) (L' := [zR 16 0, zI l1, zI l2, zI l3]) (S' := []) (σ' := (zup (zup (zup σ 16 0 7 l1) 16 0 8 (-9)) 16 0 9 (zxor (σ 16 0 4) (-1)))) (Ps := []) (by decide +kernel) rfl trivial ?_
      generalize hσ1 : (zup (zup (zup σ 16 0 7 l1) 16 0 8 (-9)) 16 0 9 (zxor (σ 16 0 4) (-1))) = σ1
      replace h := h σ1 hσ1.symm
      exact r_retv (by decide +kernel) rfl h
theorem gX7_pointAs_0 (a0 : Int) (σ : Hp) {Q : Option Int → Hp → Prop} (h : ((¬ σ 16 0 1 = 3 → Q none (zup σ 16 0 4 a0)) ∧ (σ 16 0 1 = 3 → ((¬ zand (σ 11 0 3) 1 = 1 → Q none (zup σ 16 0 4 a0)) ∧ (zand (σ 11 0 3) 1 = 1 → Q none (zup σ 16 0 4 (zxor a0 (-1)))))))) : Runs 0 mX7_pointAs 0 [zR 16 0, zI a0, zU] [] σ Q := by
  refine r_blk [qO (.aload_n 0), qF (.getfield 21) 7 1, qO (.iconst 3)] (pc' := 5) (L' := [zR 16 0, zI a0, zU]) (S' := [zI 3, zI (σ 16 0 1)]) (σ' := σ) (Ps := []) (by decide +kernel) rfl trivial ?_
  refine r_icmp_ne (off := 22) (tgt := 27) (by decide +kernel) (by decide) (fun c => ?_) (fun c => ?_)
  · replace h := h.1 c
    refine r_blk [qO (.iconst 0), qO (.istore_n 2), qO (.aload_n 0), qO (.iload_n 2)] (pc' := 31) (L' := [zR 16 0, zI a0, zI 0]) (S' := [zI 0, zR 16 0]) (σ' := σ) (Ps := []) (by decide +kernel) rfl trivial ?_
    refine r_if_eq (off := 9) (tgt := 40) (by decide +kernel) (by decide) (fun c => ?_) (fun c => ?_)
    · refine r_blk [qO (.iload_n 1), qF (.putfield 45) 7 4] (pc' := 44) (L' := [zR 16 0, zI a0, zI 0]) (S' := []) (σ' := (zup σ 16 0 4 a0)) (Ps := []) (by decide +kernel) rfl trivial ?_
      exact r_retv (by decide +kernel) rfl h
    · exact absurd c (by decide)
  · replace h := h.2 c
    refine r_blk [qO (.aload_n 0), qF (.getfield 9) 7 0, qF (.getfield 15) 6 16, qO (.iconst 3), qO .iaload, qO (.iconst 1), qO .iand, qO (.iconst 1)] (pc' := 20) (L' := [zR 16 0, zI a0, zU]) (S' := [zI 1, zI (zand (σ 11 0 3) 1)]) (σ' := σ) (Ps := [0 ≤ 3 ∧ 3 < 4]) (by decide +kernel) rfl ⟨(by decide), trivial⟩ ?_
    refine r_icmp_ne (off := 7) (tgt := 27) (by decide +kernel) (by decide) (fun c => ?_) (fun c => ?_)
    · replace h := h.1 c
      refine r_blk [qO (.iconst 0), qO (.istore_n 2), qO (.aload_n 0), qO (.iload_n 2)] (pc' := 31) (L' := [zR 16 0, zI a0, zI 0]) (S' := [zI 0, zR 16 0]) (σ' := σ) (Ps := []) (by decide +kernel) rfl trivial ?_
      refine r_if_eq (off := 9) (tgt := 40) (by decide +kernel) (by decide) (fun c => ?_) (fun c => ?_)
      · refine r_blk [qO (.iload_n 1), qF (.putfield 45) 7 4] (pc' := 44) (L' := [zR 16 0, zI a0, zI 0]) (S' := []) (σ' := (zup σ 16 0 4 a0)) (Ps := []) (by decide +kernel) rfl trivial ?_
        exact r_retv (by decide +kernel) rfl h
      · exact absurd c (by decide)
    · replace h := h.2 c
      refine r_blk [qO (.iconst 1), qO (.goto 4), qO (.istore_n 2), qO (.aload_n 0), qO (.iload_n 2)] (pc' := 31) (L' := [zR 16 0, zI a0, zI 1]) (S' := [zI 1, zR 16 0]) (σ' := σ) (Ps := []) (by decide +kernel) rfl trivial ?_
      refine r_if_eq (off := 9) (tgt := 40) (by decide +kernel) (by decide) (fun c => ?_) (fun c => ?_)
      · exact absurd c (by decide)
      · refine r_blk [qO (.iload_n 1), qO (.iconst (-1)), qO .ixor, qO (.goto 4), qF (.putfield 45) 7 4] (pc' := 44) (L' := [zR 16 0, zI a0, zI 1]) (S' := []) (σ' := (zup σ 16 0 4 (zxor a0 (-1)))) (Ps := []) (by decide +kernel) rfl trivial ?_
        exact r_retv (by decide +kernel) rfl h
theorem gX7_openBothWays_0 (a0 : Int) (σ : Hp) {Q : Option Int → Hp → Prop} (h : ((¬ σ 16 0 1 = 1 → Q none (zup σ 16 0 6 a0)) ∧ (σ 16 0 1 = 1 → Q none (zup σ 16 0 6 (zor (σ 1 0 4) a0))))) : Runs 0 mX7_openBothWays 0 [zR 16 0, zI a0] [] σ Q := by
  refine r_blk [qO (.aload_n 0), qO (.aload_n 0), qF (.getfield 21) 7 1, qO (.iconst 1)] (pc' := 6) (L' := [zR 16 0, zI a0]) (S' := [zI 1, zI (σ 16 0 1), zR 16 0]) (σ' := σ) (Ps := []) (by decide +kernel) rfl trivial ?_
  refine r_icmp_ne (off := 15) (tgt := 21) (by decide +kernel) (by decide) (fun c => ?_) (fun c => ?_)
  · replace h := h.1 c
    refine r_blk [qO (.iload_n 1), qF (.putfield 51) 7 6] (pc' := 25) (L' := [zR 16 0, zI a0]) (S' := []) (σ' := (zup σ 16 0 6 a0)) (Ps := []) (by decide +kernel) rfl trivial ?_
    exact r_retv (by decide +kernel) rfl h
  · replace h := h.2 c
    refine r_blk [qO (.aload_n 0), qF (.getfield 9) 7 0, qF (.getfield 48) 6 4, qO (.iload_n 1), qO .ior, qO (.goto 4), qF (.putfield 51) 7 6] (pc' := 25) (L' := [zR 16 0, zI a0]) (S' := []) (σ' := (zup σ 16 0 6 (zor (σ 1 0 4) a0))) (Ps := []) (by decide +kernel) rfl trivial ?_
    exact r_retv (by decide +kernel) rfl h
theorem gX7_shutAlso_0 (a0 : Int) (σ : Hp) {Q : Option Int → Hp → Prop} (h : Q none (zup σ 16 0 5 (zor (σ 1 0 5) (zshl 1 a0)))) : Runs 0 mX7_shutAlso 0 [zR 16 0, zI a0] [] σ Q := by
  refine r_blk [qO (.aload_n 0), qO (.aload_n 0), qF (.getfield 9) 7 0, qF (.getfield 31) 6 5, qO (.iconst 1), qO (.iload_n 1), qO .ishl, qO .ior, qF (.putfield 34) 7 5] (pc' := 15) (L' := [zR 16 0, zI a0]) (S' := []) (σ' := (zup σ 16 0 5 (zor (σ 1 0 5) (zshl 1 a0)))) (Ps := []) (by decide +kernel) rfl trivial ?_
  exact r_retv (by decide +kernel) rfl h
end
section
/-! the small methods -/
def zwithin (v a b : Int) : Int := if v < a then -4 else if b < v then -6 else 0
def sg (s : Nat → Int) (t k : Int) : Int := s (11 + 5 * t + k).toNat
def se (s : Nat → Int) (t k : Int) : Int := s (81 + 4 * t + k).toNat
def zsign (σ : Hp) : Int := if σ 34 0 8 < σ 34 0 7 then σ 39 0 (σ 34 0 8).toNat else -1
def zmost (a : Int) : Int := if a = 0 then 1439 else if a = 1 then 4 else if a = 2 then 720 else 9
def zbyte (σ : Hp) (p : Int) : Int := if 0 ≤ p ∧ p < σ 12 0 1 then σ 13 0 p.toNat else -1
def zmin (σ : Hp) (c : Int) : Int := if σ 18 0 c.toNat = 1000000 then -9 else σ 18 0 c.toNat
def tTurns (σ : Hp) (m : Int) : Int := if σ 16 0 1 = 4 then 0 else if m < σ 16 0 2 then 0 else if σ 16 0 1 = 2 then 1 + (m - σ 16 0 2) / σ 16 0 3 else 1
def tTurn (σ : Hp) (m : Int) : Int := if σ 16 0 1 = 4 then -9 else if m < σ 16 0 2 then σ 16 0 2 else if σ 16 0 1 = 2 then σ 16 0 2 + (1 + (m - σ 16 0 2) / σ 16 0 3) * σ 16 0 3 else -9
def tNext (σ : Hp) (m : Int) : Int := if tTurn σ m ≤ 2879 then tTurn σ m else -9
def tThen (σ : Hp) (m : Int) : Int := if tTurns σ m % 2 = 1 then zxor (σ 16 0 4) (-1) else σ 16 0 4
def tStand (σ : Hp) (m : Int) : Hp := zup (zup (zup σ 16 0 7 m) 16 0 8 (tNext σ m)) 16 0 9 (tThen σ m)
def tWay (σ : Hp) (t : Int) : Int := if bitz (σ 16 0 5) t = 1 then 3 else if bitz (σ 16 0 6) t = 1 then 2 else bitz (σ 16 0 9) t
def tEnt (σ : Hp) (t e : Int) : Int := if 2879 < σ 16 0 7 ∨ bitz (σ 16 0 5) t = 1 then -9 else if bitz (σ 16 0 6) t = 1 ∨ bitz (σ 16 0 9) t = e then σ 16 0 7 else σ 16 0 8
def tBits (σ : Hp) (b : Int) : Int := if σ 16 0 1 = 3 ∧ σ 11 0 3 % 2 = 1 then zxor b (-1) else b
def tOpen (σ : Hp) (b : Int) : Int := if σ 16 0 1 = 1 then zor (σ 1 0 4) b else b
section Small
variable {σ : Hp} {K : Int → Hp → Prop} {K' : Hp → Prop}
theorem pX11_isIn {a0 a1 : Int} (h1 : 0 ≤ a0 ∧ a0 < a1 → K 1 σ) (h0 : ¬ (0 ≤ a0 ∧ a0 < a1) → K 0 σ) : Runs 0 mX11_isIn 0 [zI a0, zI a1] [] σ (rI K) :=
  gX11_isIn_0 a0 a1 σ ⟨fun c => h0 (by omega), fun c => ⟨fun c2 => h0 (by omega), fun c2 => h1 (by omega)⟩⟩
theorem pX11_within {a0 a1 a2 : Int} (h : K (zwithin a0 a1 a2) σ) : Runs 0 mX11_within 0 [zI a0, zI a1, zI a2] [] σ (rI K) := by
  refine gX11_within_0 a0 a1 a2 σ ⟨fun c => ⟨fun c2 => ?_, fun c2 => ?_⟩, fun c => ?_⟩
  · rw [show zwithin a0 a1 a2 = 0 by unfold zwithin; rw [if_neg (by omega), if_neg (by omega)]] at h; exact h
  · rw [show zwithin a0 a1 a2 = -6 by unfold zwithin; rw [if_neg (by omega), if_pos (by omega)]] at h; exact h
  · rw [show zwithin a0 a1 a2 = -4 by unfold zwithin; rw [if_pos (by omega)]] at h; exact h
theorem pX11_get {t k : Int} (c : 0 ≤ t ∧ t < 14) (c2 : (0 : Int) ≤ k ∧ k < 5) (h : K (sg (σ 36 0) t k) σ) : Runs 0 mX11_get 0 [zR 34 0, zI t, zI k] [] σ (rI K) :=
  gX11_get_0 t k σ ⟨by omega, by omega, by omega, by omega, h⟩
theorem pX11_of {t k : Int} (c : 0 ≤ t ∧ t < 8) (c2 : (0 : Int) ≤ k ∧ k < 4) (h : K (se (σ 36 0) t k) σ) : Runs 0 mX11_of 0 [zR 34 0, zI t, zI k] [] σ (rI K) :=
  gX11_of_0 t k σ ⟨by omega, by omega, by omega, by omega, h⟩
theorem pX11_refuse {n : Int} (c : -6 ≤ n ∧ n ≤ -1) (c2 : σ 35 0 (-n).toNat ≤ 2147483646) (h : K n (zup σ 35 0 (-n).toNat (σ 35 0 (-n).toNat + 1))) : Runs 0 mX11_refuse 0 [zR 34 0, zI n] [] σ (rI K) := by
  refine Runs.okh (fun oH _ _ => ?_)
  have := oH 35 0 (-n).toNat
  unfold inR at this
  exact gX11_refuse_0 n σ ⟨by omega, by omega, by omega, by omega, h⟩
theorem pX11_sign (c : 0 ≤ σ 34 0 8 ∧ σ 34 0 7 ≤ 64) (h : K (zsign σ) σ) : Runs 0 mX11_sign 0 [zR 34 0] [] σ (rI K) := by
  refine gX11_sign_0 σ ⟨fun c1 => ⟨by omega, ?_⟩, fun c1 => ?_⟩
  · rw [show zsign σ = σ 39 0 (σ 34 0 8).toNat by unfold zsign; rw [if_pos c1]] at h; exact h
  · rw [show zsign σ = -1 by unfold zsign; rw [if_neg c1]] at h; exact h
theorem pX11_becomes {a v : Int} (c : 0 ≤ a ∧ a < 123) (h : K (σ 36 0 a.toNat) (zup σ 36 0 a.toNat v)) : Runs 0 mX11_becomes 0 [zR 34 0, zI a, zI v, zU] [] σ (rI K) :=
  gX11_becomes_0 a v σ ⟨c, c, h⟩
theorem pX11_most {a : Int} (h : K (zmost a) σ) : Runs 0 mX11_most 0 [zI a] [] σ (rI K) := by
  refine gX11_most_0 a σ ⟨fun c => ⟨fun c2 => ⟨fun c3 => ?_, fun c3 => ?_⟩, fun c2 => ?_⟩, fun c => ?_⟩
  · rw [show zmost a = 9 by unfold zmost; rw [if_neg c, if_neg c2, if_neg c3]] at h; exact h
  · rw [show zmost a = 720 by unfold zmost; rw [if_neg c, if_neg c2, if_pos c3]] at h; exact h
  · rw [show zmost a = 4 by unfold zmost; rw [if_neg c, if_pos c2]] at h; exact h
  · rw [show zmost a = 1439 by unfold zmost; rw [if_pos c]] at h; exact h
theorem pX10_bitOf {a b : Int} (h : K (bitz a b) σ) : Runs 0 mX10_bitOf 0 [zI a, zI b] [] σ (rI K) := gX10_bitOf_0 a b σ h
theorem pX6_hasCorner {t : Nat} {a0 : Int} (h1 : 0 ≤ a0 ∧ a0 < σ 1 t 0 → K 1 σ) (h0 : ¬ (0 ≤ a0 ∧ a0 < σ 1 t 0) → K 0 σ) : Runs 0 mX6_hasCorner 0 [zR 1 t, zI a0] [] σ (rI K) :=
  gX6_hasCorner_0 a0 t σ ⟨fun c => h0 (by omega), fun c => ⟨fun c2 => h0 (by omega), fun c2 => h1 (by omega)⟩⟩
theorem pX6_hasStreet {t : Nat} {a0 : Int} (h1 : 0 ≤ a0 ∧ a0 < σ 1 t 1 → K 1 σ) (h0 : ¬ (0 ≤ a0 ∧ a0 < σ 1 t 1) → K 0 σ) : Runs 0 mX6_hasStreet 0 [zR 1 t, zI a0] [] σ (rI K) :=
  gX6_hasStreet_0 a0 t σ ⟨fun c => h0 (by omega), fun c => ⟨fun c2 => h0 (by omega), fun c2 => h1 (by omega)⟩⟩
theorem pX6_hasErrand {t : Nat} {a0 : Int} (h1 : 0 ≤ a0 ∧ a0 < σ 1 t 2 → K 1 σ) (h0 : ¬ (0 ≤ a0 ∧ a0 < σ 1 t 2) → K 0 σ) : Runs 0 mX6_hasErrand 0 [zR 1 t, zI a0] [] σ (rI K) :=
  gX6_hasErrand_0 a0 t σ ⟨fun c => h0 (by omega), fun c => ⟨fun c2 => h0 (by omega), fun c2 => h1 (by omega)⟩⟩
theorem pX10_refuse {n : Int} (c : -6 ≤ n ∧ n ≤ -1) (c2 : σ 33 0 (-n).toNat ≤ 2147483646) (h : K n (zup σ 33 0 (-n).toNat (σ 33 0 (-n).toNat + 1))) : Runs 0 mX10_refuse 0 [zR 0 0, zI n] [] σ (rI K) := by
  refine Runs.okh (fun oH _ _ => ?_)
  have := oH 33 0 (-n).toNat
  unfold inR at this
  exact gX10_refuse_0 n σ ⟨fun q => absurd q (by omega), fun _ => ⟨fun q => absurd q (by omega), fun _ => ⟨by omega, by omega, by omega, by omega, h⟩⟩⟩
theorem pX10_refusalOfMinute {a0 : Int} (h : K (zwithin a0 0 2879) σ) : Runs 0 mX10_refusalOfMinute 0 [zR 0 0, zI a0] [] σ (rI K) := by
  refine gX10_refusalOfMinute_0 a0 σ ⟨fun c => ⟨fun c2 => ?_, fun c2 => ?_⟩, fun c => ?_⟩
  · rw [show zwithin a0 0 2879 = 0 by unfold zwithin; rw [if_neg (by omega), if_neg (by omega)]] at h; exact h
  · rw [show zwithin a0 0 2879 = -6 by unfold zwithin; rw [if_neg (by omega), if_pos (by omega)]] at h; exact h
  · rw [show zwithin a0 0 2879 = -4 by unfold zwithin; rw [if_pos (by omega)]] at h; exact h
theorem pX5_byteAt {p : Int} (c : σ 12 0 1 ≤ 64) (h : K (zbyte σ p) σ) : Runs 0 mX5_byteAt 0 [zR 12 0, zI p] [] σ (rI K) := by
  refine gX5_byteAt_0 p σ ⟨fun c1 => ?_, fun c1 => ⟨fun c2 => ?_, fun c2 => ⟨by omega, ?_⟩⟩⟩
  · rw [show zbyte σ p = -1 by unfold zbyte; rw [if_neg (by omega)]] at h; exact h
  · rw [show zbyte σ p = -1 by unfold zbyte; rw [if_neg (by omega)]] at h; exact h
  · rw [show zbyte σ p = σ 13 0 p.toNat by unfold zbyte; rw [if_pos (by omega)]] at h; exact h
theorem pX3_isDigit {a0 : Int} (h1 : 48 ≤ a0 ∧ a0 ≤ 57 → K 1 σ) (h0 : ¬ (48 ≤ a0 ∧ a0 ≤ 57) → K 0 σ) : Runs 0 mX3_isDigit 0 [zI a0] [] σ (rI K) :=
  gX3_isDigit_0 a0 σ ⟨fun c => h0 (by omega), fun c => ⟨fun c2 => h0 (by omega), fun c2 => h1 (by omega)⟩⟩
theorem pX8_minuteAt {c : Int} (hc : 0 ≤ c ∧ c < 10) (h : K (zmin σ c) σ) : Runs 0 mX8_minuteAt 0 [zR 17 0, zI c] [] σ (rI K) := by
  refine gX8_minuteAt_0 c σ ⟨hc, fun c1 => ⟨hc, ?_⟩, fun c1 => ?_⟩
  · rw [show zmin σ c = σ 18 0 c.toNat by unfold zmin; rw [if_neg c1]] at h; exact h
  · rw [show zmin σ c = -9 by unfold zmin; rw [if_pos c1]] at h; exact h
theorem pX7_turnAt {n : Int} (h : K' (zup σ 16 0 2 n)) : Runs 0 mX7_turnAt 0 [zR 16 0, zI n] [] σ (rV K') := gX7_turnAt_0 n σ h
theorem pX7_shutAlso {n : Int} (h : K' (zup σ 16 0 5 (zor (σ 1 0 5) (zshl 1 n)))) : Runs 0 mX7_shutAlso 0 [zR 16 0, zI n] [] σ (rV K') := gX7_shutAlso_0 n σ h
theorem pX7_pointAs {n : Int} (h : K' (zup σ 16 0 4 (tBits σ n))) : Runs 0 mX7_pointAs 0 [zR 16 0, zI n, zU] [] σ (rV K') := by
  refine gX7_pointAs_0 n σ ⟨fun c => ?_, fun c => ⟨fun c2 => ?_, fun c2 => ?_⟩⟩
  · rw [show tBits σ n = n by unfold tBits; rw [if_neg (fun q => c q.1)]] at h; exact h
  · rw [n32_and1] at c2; rw [show tBits σ n = n by unfold tBits; rw [if_neg (fun q => c2 q.2)]] at h; exact h
  · rw [n32_and1] at c2; rw [show tBits σ n = zxor n (-1) by unfold tBits; rw [if_pos ⟨c, c2⟩]] at h; exact h
theorem pX7_openBothWays {n : Int} (h : K' (zup σ 16 0 6 (tOpen σ n))) : Runs 0 mX7_openBothWays 0 [zR 16 0, zI n] [] σ (rV K') := by
  refine gX7_openBothWays_0 n σ ⟨fun c => ?_, fun c => ?_⟩
  · rw [show tOpen σ n = n by unfold tOpen; rw [if_neg c]] at h; exact h
  · rw [show tOpen σ n = zor (σ 1 0 4) n by unfold tOpen; rw [if_pos c]] at h; exact h
theorem pX7_entryOf {t e : Int} (h : K (tEnt σ t e) σ) : Runs 0 mX7_entryOf 0 [zR 16 0, zI t, zI e] [] σ (rI K) := by
  unfold tEnt at h
  refine gX7_entryOf_0 t e σ ⟨fun c => ?_, fun c => ⟨fun c2 => ⟨fun c3 => ?_, fun c3 => ⟨fun c4 => ?_, fun c4 => ?_⟩⟩, fun c2 => ?_⟩⟩
  · rw [if_pos (Or.inl c)] at h; exact h
  · rw [if_neg (fun q => q.elim c c2), if_pos (Or.inl c3)] at h; exact h
  · rw [if_neg (fun q => q.elim c c2), if_neg (fun q => q.elim c3 c4)] at h; exact h
  · rw [if_neg (fun q => q.elim c c2), if_pos (Or.inr c4)] at h; exact h
  · rw [if_pos (Or.inr c2)] at h; exact h
theorem standEnd {l1 l2 l3 : Int} (e2 : l2 = tTurns σ l1) (e3 : l3 = tTurn σ l1) (h : K' (tStand σ l1)) : Runs 0 mX7_standAt 83 [zR 16 0, zI l1, zI l2, zI l3] [] σ (rV K') := by
  unfold tStand at h
  have n1 : l3 ≤ 2879 → tNext σ l1 = l3 := fun c => by unfold tNext; rw [← e3, if_pos c]
  have n2 : ¬ l3 ≤ 2879 → tNext σ l1 = -9 := fun c => by unfold tNext; rw [← e3, if_neg c]
  have b1 : zand l2 1 = 1 → tThen σ l1 = zxor (σ 16 0 4) (-1) := fun c => by rw [n32_and1] at c; unfold tThen; rw [← e2, if_pos c]
  have b2 : ¬ zand l2 1 = 1 → tThen σ l1 = σ 16 0 4 := fun c => by rw [n32_and1] at c; unfold tThen; rw [← e2, if_neg c]
  refine gX7_standAt_83 l1 l2 l3 σ ⟨fun c => ⟨fun c2 => ?_, fun c2 => ?_⟩, fun c => ⟨fun c2 => ?_, fun c2 σ1 hσ => ?_⟩⟩
  · rw [n1 c, b2 c2] at h; exact h
  · rw [n1 c, b1 c2] at h; exact h
  · rw [n2 c, b2 c2] at h; exact h
  · rw [n2 c, b1 c2] at h; subst hσ; exact h
theorem pX7_standAt {m : Int} (c1 : 0 ≤ σ 16 0 2 ∧ σ 16 0 2 ≤ 1439) (c2 : 10 ≤ σ 16 0 3 ∧ σ 16 0 3 ≤ 720) (c3 : 0 ≤ m ∧ m ≤ 1000000) (h : K' (tStand σ m)) : Runs 0 mX7_standAt 0 [zR 16 0, zI m, zU, zU] [] σ (rV K') := by
  have hd : ∀ q : Int, q = m - σ 16 0 2 → 0 ≤ q → zdiv q (σ 16 0 3) = q / σ 16 0 3 := fun q hq h0 => n32_quot ⟨by omega, by omega⟩ ⟨by omega, by omega⟩ h0 (by omega)
  have late : (σ 16 0 1 = 4 ∨ ¬ m < σ 16 0 2) → Runs 0 mX7_standAt 29 [zR 16 0, zI m, zI 0, zI (-9)] [] σ (rV K') := fun hl => by
    refine gX7_standAt_29 m 0 (-9) σ ⟨fun r => ?_, fun r => ⟨fun z => absurd z (by omega), fun z => ?_⟩⟩
    · refine gX7_standAt_73 m 0 (-9) σ ⟨fun r4 => ?_, fun r4 => ?_⟩
      · exact standEnd (by unfold tTurns; rw [if_pos r4]) (by unfold tTurn; rw [if_pos r4]) h
      · have hm : ¬ m < σ 16 0 2 := hl.resolve_left r4
        exact standEnd (by unfold tTurns; rw [if_neg r4, if_neg hm, if_neg r]) (by unfold tTurn; rw [if_neg r4, if_neg hm, if_neg r]) h
    · have r4 : ¬ σ 16 0 1 = 4 := by omega
      have hm : ¬ m < σ 16 0 2 := hl.resolve_left r4
      have q1 := Int.ediv_le_self (σ 16 0 3) (show 0 ≤ m - σ 16 0 2 by omega)
      have q0 := Int.ediv_nonneg (show 0 ≤ m - σ 16 0 2 by omega) (show 0 ≤ σ 16 0 3 by omega)
      have q2 := Int.ediv_mul_le (m - σ 16 0 2) (show σ 16 0 3 ≠ 0 by omega)
      have hmul : (1 + (m - σ 16 0 2) / σ 16 0 3) * σ 16 0 3 = σ 16 0 3 + (m - σ 16 0 2) / σ 16 0 3 * σ 16 0 3 := by rw [Int.add_mul, Int.one_mul]
      have hnn : 0 ≤ (m - σ 16 0 2) / σ 16 0 3 * σ 16 0 3 := Int.mul_nonneg q0 (by omega)
      rw [hd _ rfl (by omega)]
      refine ⟨by omega, by omega, by omega, ?_, ?_, ?_⟩
      · rw [hmul]; omega
      · rw [hmul]; omega
      · exact standEnd (by unfold tTurns; rw [if_neg r4, if_neg hm, if_pos r]) (by unfold tTurn; rw [if_neg r4, if_neg hm, if_pos r]) h
  refine gX7_standAt_0 m σ ⟨fun c => late (Or.inl c), fun c => ⟨fun c5 => late (Or.inr (by omega)), fun c5 => ?_⟩⟩
  exact standEnd (by unfold tTurns; rw [if_neg c, if_pos (by omega)]) (by unfold tTurn; rw [if_neg c, if_pos (by omega)]) h
end Small
end
section
theorem gX11_isCorner_0 (a0 : Int) (σ : Hp) {Q : Option Int → Hp → Prop} (h : ((0 ≤ a0 ∧ a0 < (σ 36 0 0) → Q (some 1) σ) ∧ (¬ (0 ≤ a0 ∧ a0 < (σ 36 0 0)) → Q (some 0) σ))) : Runs 1 mX11_isCorner 0 [zR 34 0, zI a0] [] σ Q := by
  refine r_blk [qO (.iload_n 1), qO (.aload_n 0), qF (.getfield 13) 11 1, qO (.iconst 0), qO .iaload] (pc' := 7) (L' := [zR 34 0, zI a0]) (S' := [zI (σ 36 0 0), zI a0]) (σ' := σ) (Ps := [0 ≤ 0 ∧ 0 < 123]) (by decide +kernel) rfl ⟨(by decide), trivial⟩ ?_
  refine r_callSI (As := [zI a0, zI (σ 36 0 0)]) (S := []) (Lc := [zI a0, zI (σ 36 0 0)]) (d' := 0) (n := 2) kX11_isIn vX11_isIn lkX11_62 (by decide +kernel) (by decide) rfl rfl (Nat.le_of_ble_eq_true rfl) rfl rfl (Nat.le_of_ble_eq_true rfl) (pX11_isIn  (fun c => ?_) (fun c => ?_))
  · replace h := h.1 c
    exact r_retz (by decide +kernel) rfl (by decide) h
  · replace h := h.2 c
    exact r_retz (by decide +kernel) rfl (by decide) h
theorem gX11_isStreet_0 (a0 : Int) (σ : Hp) {Q : Option Int → Hp → Prop} (h : ((0 ≤ a0 ∧ a0 < (σ 36 0 1) → Q (some 1) σ) ∧ (¬ (0 ≤ a0 ∧ a0 < (σ 36 0 1)) → Q (some 0) σ))) : Runs 1 mX11_isStreet 0 [zR 34 0, zI a0] [] σ Q := by
  refine r_blk [qO (.iload_n 1), qO (.aload_n 0), qF (.getfield 13) 11 1, qO (.iconst 1), qO .iaload] (pc' := 7) (L' := [zR 34 0, zI a0]) (S' := [zI (σ 36 0 1), zI a0]) (σ' := σ) (Ps := [0 ≤ 1 ∧ 1 < 123]) (by decide +kernel) rfl ⟨(by decide), trivial⟩ ?_
  refine r_callSI (As := [zI a0, zI (σ 36 0 1)]) (S := []) (Lc := [zI a0, zI (σ 36 0 1)]) (d' := 0) (n := 2) kX11_isIn vX11_isIn lkX11_62 (by decide +kernel) (by decide) rfl rfl (Nat.le_of_ble_eq_true rfl) rfl rfl (Nat.le_of_ble_eq_true rfl) (pX11_isIn  (fun c => ?_) (fun c => ?_))
  · replace h := h.1 c
    exact r_retz (by decide +kernel) rfl (by decide) h
  · replace h := h.2 c
    exact r_retz (by decide +kernel) rfl (by decide) h
theorem gX11_isErrand_0 (a0 : Int) (σ : Hp) {Q : Option Int → Hp → Prop} (h : ((0 ≤ a0 ∧ a0 < (σ 36 0 2) → Q (some 1) σ) ∧ (¬ (0 ≤ a0 ∧ a0 < (σ 36 0 2)) → Q (some 0) σ))) : Runs 1 mX11_isErrand 0 [zR 34 0, zI a0] [] σ Q := by
  refine r_blk [qO (.iload_n 1), qO (.aload_n 0), qF (.getfield 13) 11 1, qO (.iconst 2), qO .iaload] (pc' := 7) (L' := [zR 34 0, zI a0]) (S' := [zI (σ 36 0 2), zI a0]) (σ' := σ) (Ps := [0 ≤ 2 ∧ 2 < 123]) (by decide +kernel) rfl ⟨(by decide), trivial⟩ ?_
  refine r_callSI (As := [zI a0, zI (σ 36 0 2)]) (S := []) (Lc := [zI a0, zI (σ 36 0 2)]) (d' := 0) (n := 2) kX11_isIn vX11_isIn lkX11_62 (by decide +kernel) (by decide) rfl rfl (Nat.le_of_ble_eq_true rfl) rfl rfl (Nat.le_of_ble_eq_true rfl) (pX11_isIn  (fun c => ?_) (fun c => ?_))
  · replace h := h.1 c
    exact r_retz (by decide +kernel) rfl (by decide) h
  · replace h := h.2 c
    exact r_retz (by decide +kernel) rfl (by decide) h
theorem gX11_takes_0 (a0 : Int) (σ : Hp) {Q : Option Int → Hp → Prop} (h : (0 ≤ σ 34 0 8 ∧ σ 34 0 7 ≤ 64) ∧ ((zsign σ = a0 → (-2147483648 ≤ (σ 34 0 8) + 1 ∧ (σ 34 0 8) + 1 ≤ 2147483647) ∧ Q (some 1) (zup σ 34 0 8 ((σ 34 0 8) + 1))) ∧ (¬ zsign σ = a0 → Q (some 0) σ))) : Runs 1 mX11_takes 0 [zR 34 0, zI a0] [] σ Q := by
  refine r_blk [qO (.aload_n 0)] (pc' := 1) (L' := [zR 34 0, zI a0]) (S' := [zR 34 0]) (σ' := σ) (Ps := []) (by decide +kernel) rfl trivial ?_
  refine r_callVI (As := []) (S := []) (Lc := [zR 34 0]) (d' := 0) (n := 0) (g := 34) (x := 0) (ci := 11) kX11_sign vX11_sign lkX11_79 (by decide +kernel) (by decide) rfl rfl (by decide) rfl rfl (Nat.le_of_ble_eq_true rfl) rfl rfl (Nat.le_of_ble_eq_true rfl) (pX11_sign h.1 ?_)
  replace h := h.2
  refine r_blk [qO (.iload_n 1)] (pc' := 5) (L' := [zR 34 0, zI a0]) (S' := [zI a0, zI (zsign σ)]) (σ' := σ) (Ps := []) (by decide +kernel) rfl trivial ?_
  refine r_icmp_eq (off := 5) (tgt := 10) (by decide +kernel) (by decide) (fun c => ?_) (fun c => ?_)
  · replace h := h.1 c
    refine r_blk [qO (.aload_n 0), qO .dup, qF (.getfield 76) 11 8, qO (.iconst 1), qO .iadd, qF (.putfield 76) 11 8, qO (.iconst 1)] (pc' := 21) (L' := [zR 34 0, zI a0]) (S' := [zI 1]) (σ' := (zup σ 34 0 8 ((σ 34 0 8) + 1))) (Ps := [-2147483648 ≤ (σ 34 0 8) + 1 ∧ (σ 34 0 8) + 1 ≤ 2147483647]) (by decide +kernel) rfl ⟨h.1, trivial⟩ ?_
    replace h := h.2
    exact r_retz (by decide +kernel) rfl (by decide) h
  · replace h := h.2 c
    refine r_blk [qO (.iconst 0)] (pc' := 9) (L' := [zR 34 0, zI a0]) (S' := [zI 0]) (σ' := σ) (Ps := []) (by decide +kernel) rfl trivial ?_
    exact r_retz (by decide +kernel) rfl (by decide) h
theorem gX11_wayOf_0 (a0 : Int) (a1 : Int) (σ : Hp) {Q : Option Int → Hp → Prop} (h : ((¬ bitz (σ 36 0 4) a0 = 1 → ((bitz (σ 36 0 5) a0 = 1 → Q (some 2) σ) ∧ (¬ bitz (σ 36 0 5) a0 = 1 → ((¬ σ 36 0 8 = 1 → Runs 1 mX11_wayOf 55 [zR 34 0, zI a0, zI a1, zI (σ 36 0 8), zU, zU] [] σ Q) ∧ (σ 36 0 8 = 1 → (0 ≤ a0 ∧ a0 < 14) ∧ ((¬ sg (σ 36 0) a0 3 = 1 → Runs 1 mX11_wayOf 55 [zR 34 0, zI a0, zI a1, zI (σ 36 0 8), zU, zU] [] σ Q) ∧ (sg (σ 36 0) a0 3 = 1 → Q (some 2) σ))))))) ∧ (bitz (σ 36 0 4) a0 = 1 → Q (some 3) σ))) : Runs 1 mX11_wayOf 0 [zR 34 0, zI a0, zI a1, zU, zU, zU] [] σ Q := by
  refine r_blk [qO (.aload_n 0), qF (.getfield 13) 11 1, qO (.iconst 4), qO .iaload, qO (.iload_n 1), qO .ishr, qO (.iconst 1), qO .iand, qO (.iconst 1)] (pc' := 11) (L' := [zR 34 0, zI a0, zI a1, zU, zU, zU]) (S' := [zI 1, zI (bitz (σ 36 0 4) a0)]) (σ' := σ) (Ps := [0 ≤ 4 ∧ 4 < 123]) (by decide +kernel) rfl ⟨(by decide), trivial⟩ ?_
  refine r_icmp_ne (off := 5) (tgt := 16) (by decide +kernel) (by decide) (fun c => ?_) (fun c => ?_)
  · replace h := h.1 c
    refine r_blk [qO (.aload_n 0), qF (.getfield 13) 11 1, qO (.bipush 8), qO .iaload, qO (.istore_n 3), qO (.aload_n 0), qF (.getfield 13) 11 1, qO (.iconst 5), qO .iaload, qO (.iload_n 1), qO .ishr, qO (.iconst 1), qO .iand, qO (.iconst 1)] (pc' := 35) (L' := [zR 34 0, zI a0, zI a1, zI (σ 36 0 8), zU, zU]) (S' := [zI 1, zI (bitz (σ 36 0 5) a0)]) (σ' := σ) (Ps := [0 ≤ 8 ∧ 8 < 123, 0 ≤ 5 ∧ 5 < 123]) (by decide +kernel) rfl ⟨(by decide), (by decide), trivial⟩ ?_
    refine r_icmp_eq (off := 18) (tgt := 53) (by decide +kernel) (by decide) (fun c => ?_) (fun c => ?_)
    · replace h := h.1 c
      refine r_blk [qO (.iconst 2)] (pc' := 54) (L' := [zR 34 0, zI a0, zI a1, zI (σ 36 0 8), zU, zU]) (S' := [zI 2]) (σ' := σ) (Ps := []) (by decide +kernel) rfl trivial ?_
      exact r_ret (by decide +kernel) rfl (fun _ => h)
    · replace h := h.2 c
      refine r_blk [qO (.iload_n 3), qO (.iconst 1)] (pc' := 40) (L' := [zR 34 0, zI a0, zI a1, zI (σ 36 0 8), zU, zU]) (S' := [zI 1, zI (σ 36 0 8)]) (σ' := σ) (Ps := []) (by decide +kernel) rfl trivial ?_
      refine r_icmp_ne (off := 15) (tgt := 55) (by decide +kernel) (by decide) (fun c => ?_) (fun c => ?_)
      · replace h := h.1 c
        exact Runs.fg (fgE (fgE (fgE (fgE (fgU (fgU fg0)))))) h
      · replace h := h.2 c
        refine r_blk [qO (.aload_n 0), qO (.iload_n 1), qO (.iconst 3)] (pc' := 46) (L' := [zR 34 0, zI a0, zI a1, zI (σ 36 0 8), zU, zU]) (S' := [zI 3, zI a0, zR 34 0]) (σ' := σ) (Ps := []) (by decide +kernel) rfl trivial ?_
        refine r_callVI (As := [zI a0, zI 3]) (S := []) (Lc := [zR 34 0, zI a0, zI 3]) (d' := 0) (n := 2) (g := 34) (x := 0) (ci := 11) kX11_get vX11_get lkX11_106 (by decide +kernel) (by decide) rfl rfl (by decide) rfl rfl (Nat.le_of_ble_eq_true rfl) rfl rfl (Nat.le_of_ble_eq_true rfl) (pX11_get h.1 (by decide) ?_)
        replace h := h.2
        refine r_blk [qO (.iconst 1)] (pc' := 50) (L' := [zR 34 0, zI a0, zI a1, zI (σ 36 0 8), zU, zU]) (S' := [zI 1, zI (sg (σ 36 0) a0 3)]) (σ' := σ) (Ps := []) (by decide +kernel) rfl trivial ?_
        refine r_icmp_ne (off := 5) (tgt := 55) (by decide +kernel) (by decide) (fun c => ?_) (fun c => ?_)
        · replace h := h.1 c
          exact Runs.fg (fgE (fgE (fgE (fgE (fgU (fgU fg0)))))) h
        · replace h := h.2 c
          refine r_blk [qO (.iconst 2)] (pc' := 54) (L' := [zR 34 0, zI a0, zI a1, zI (σ 36 0 8), zU, zU]) (S' := [zI 2]) (σ' := σ) (Ps := []) (by decide +kernel) rfl trivial ?_
          exact r_ret (by decide +kernel) rfl (fun _ => h)
  · replace h := h.2 c
    refine r_blk [qO (.iconst 3)] (pc' := 15) (L' := [zR 34 0, zI a0, zI a1, zU, zU, zU]) (S' := [zI 3]) (σ' := σ) (Ps := []) (by decide +kernel) rfl trivial ?_
    exact r_ret (by decide +kernel) rfl (fun _ => h)
theorem gX11_wayOf_55 (l1 : Int) (l2 : Int) (l3 : Int) (σ : Hp) {Q : Option Int → Hp → Prop} (h : ((¬ l3 = 4 → ((¬ l3 = 3 → Runs 1 mX11_wayOf 108 [zR 34 0, zU, zI l2, zI l3, zI (bitz (σ 36 0 3) l1), zI (σ 36 0 7)] [] σ Q) ∧ (l3 = 3 → ((¬ zrem (σ 36 0 10) 2 = 1 → Runs 1 mX11_wayOf 108 [zR 34 0, zU, zI l2, zI l3, zI (bitz (σ 36 0 3) l1), zI (σ 36 0 7)] [] σ Q) ∧ (zrem (σ 36 0 10) 2 = 1 → (-2147483648 ≤ 1 - (bitz (σ 36 0 3) l1) ∧ 1 - (bitz (σ 36 0 3) l1) ≤ 2147483647) ∧ Runs 1 mX11_wayOf 108 [zR 34 0, zU, zI l2, zI l3, zI (1 - (bitz (σ 36 0 3) l1)), zI (σ 36 0 7)] [] σ Q))))) ∧ (l3 = 4 → Q (some (bitz (σ 36 0 3) l1)) σ))) : Runs 1 mX11_wayOf 55 [zR 34 0, zI l1, zI l2, zI l3, zU, zU] [] σ Q := by
  refine r_blk [qO (.aload_n 0), qF (.getfield 13) 11 1, qO (.iconst 3), qO .iaload, qO (.iload_n 1), qO .ishr, qO (.iconst 1), qO .iand, qO (.istore 4), qO (.aload_n 0), qF (.getfield 13) 11 1, qO (.bipush 7), qO .iaload, qO (.istore 5), qO (.iload_n 3), qO (.iconst 4)] (pc' := 78) (L' := [zR 34 0, zI l1, zI l2, zI l3, zI (bitz (σ 36 0 3) l1), zI (σ 36 0 7)]) (S' := [zI 4, zI l3]) (σ' := σ) (Ps := [0 ≤ 3 ∧ 3 < 123, 0 ≤ 7 ∧ 7 < 123]) (by decide +kernel) rfl ⟨(by decide), (by decide), trivial⟩ ?_
  refine r_icmp_ne (off := 6) (tgt := 84) (by decide +kernel) (by decide) (fun c => ?_) (fun c => ?_)
  · replace h := h.1 c
    refine r_blk [qO (.iload_n 3), qO (.iconst 3)] (pc' := 86) (L' := [zR 34 0, zI l1, zI l2, zI l3, zI (bitz (σ 36 0 3) l1), zI (σ 36 0 7)]) (S' := [zI 3, zI l3]) (σ' := σ) (Ps := []) (by decide +kernel) rfl trivial ?_
    refine r_icmp_ne (off := 22) (tgt := 108) (by decide +kernel) (by decide) (fun c => ?_) (fun c => ?_)
    · replace h := h.1 c
      exact Runs.fg (fgE (fgU (fgE (fgE (fgE (fgE fg0)))))) h
    · replace h := h.2 c
      refine r_blk [qO (.aload_n 0), qF (.getfield 13) 11 1, qO (.bipush 10), qO .iaload, qO (.iconst 2), qO .irem, qO (.iconst 1)] (pc' := 99) (L' := [zR 34 0, zI l1, zI l2, zI l3, zI (bitz (σ 36 0 3) l1), zI (σ 36 0 7)]) (S' := [zI 1, zI (zrem (σ 36 0 10) 2)]) (σ' := σ) (Ps := [0 ≤ 10 ∧ 10 < 123, 2 ≠ 0]) (by decide +kernel) rfl ⟨(by decide), (by decide), trivial⟩ ?_
      refine r_icmp_ne (off := 9) (tgt := 108) (by decide +kernel) (by decide) (fun c => ?_) (fun c => ?_)
      · replace h := h.1 c
        exact Runs.fg (fgE (fgU (fgE (fgE (fgE (fgE fg0)))))) h
      · replace h := h.2 c
        refine r_blk [qO (.iconst 1), qO (.iload 4), qO .isub, qO (.istore 4)] (pc' := 108) (L' := [zR 34 0, zI l1, zI l2, zI l3, zI (1 - (bitz (σ 36 0 3) l1)), zI (σ 36 0 7)]) (S' := []) (σ' := σ) (Ps := [-2147483648 ≤ 1 - (bitz (σ 36 0 3) l1) ∧ 1 - (bitz (σ 36 0 3) l1) ≤ 2147483647]) (by decide +kernel) rfl ⟨h.1, trivial⟩ ?_
        replace h := h.2
        exact Runs.fg (fgE (fgU (fgE (fgE (fgE (fgE fg0)))))) h
  · replace h := h.2 c
    refine r_blk [qO (.iload 4)] (pc' := 83) (L' := [zR 34 0, zI l1, zI l2, zI l3, zI (bitz (σ 36 0 3) l1), zI (σ 36 0 7)]) (S' := [zI (bitz (σ 36 0 3) l1)]) (σ' := σ) (Ps := []) (by decide +kernel) rfl trivial ?_
    exact r_ret (by decide +kernel) rfl (fun _ => h)
theorem gX11_wayOf_108 (l2 : Int) (l3 : Int) (l4 : Int) (l5 : Int) (σ : Hp) {Q : Option Int → Hp → Prop} (h : ((l5 ≤ l2 → ((¬ l3 = 2 → (-2147483648 ≤ 1 - l4 ∧ 1 - l4 ≤ 2147483647) ∧ Q (some (1 - l4)) σ) ∧ (l3 = 2 → (-2147483648 ≤ l4 + 1 ∧ l4 + 1 ≤ 2147483647) ∧ (-2147483648 ≤ l2 - l5 ∧ l2 - l5 ≤ 2147483647) ∧ (σ 36 0 9 ≠ 0) ∧ (-2147483648 ≤ (l4 + 1) + (zdiv (l2 - l5) (σ 36 0 9)) ∧ (l4 + 1) + (zdiv (l2 - l5) (σ 36 0 9)) ≤ 2147483647) ∧ Q (some (zrem ((l4 + 1) + (zdiv (l2 - l5) (σ 36 0 9))) 2)) σ))) ∧ (¬ l5 ≤ l2 → Q (some l4) σ))) : Runs 1 mX11_wayOf 108 [zR 34 0, zU, zI l2, zI l3, zI l4, zI l5] [] σ Q := by
  refine r_blk [qO (.iload_n 2), qO (.iload 5)] (pc' := 111) (L' := [zR 34 0, zU, zI l2, zI l3, zI l4, zI l5]) (S' := [zI l5, zI l2]) (σ' := σ) (Ps := []) (by decide +kernel) rfl trivial ?_
  refine r_icmp_ge (off := 6) (tgt := 117) (by decide +kernel) (by decide) (fun c => ?_) (fun c => ?_)
  · replace h := h.1 c
    refine r_blk [qO (.iload_n 3), qO (.iconst 2)] (pc' := 119) (L' := [zR 34 0, zU, zI l2, zI l3, zI l4, zI l5]) (S' := [zI 2, zI l3]) (σ' := σ) (Ps := []) (by decide +kernel) rfl trivial ?_
    refine r_icmp_ne (off := 23) (tgt := 142) (by decide +kernel) (by decide) (fun c => ?_) (fun c => ?_)
    · replace h := h.1 c
      refine r_blk [qO (.iconst 1), qO (.iload 4), qO .isub] (pc' := 146) (L' := [zR 34 0, zU, zI l2, zI l3, zI l4, zI l5]) (S' := [zI (1 - l4)]) (σ' := σ) (Ps := [-2147483648 ≤ 1 - l4 ∧ 1 - l4 ≤ 2147483647]) (by decide +kernel) rfl ⟨h.1, trivial⟩ ?_
      replace h := h.2
      exact r_ret (by decide +kernel) rfl (fun _ => h)
    · replace h := h.2 c
      refine r_blk [qO (.iload 4), qO (.iconst 1), qO .iadd, qO (.iload_n 2), qO (.iload 5), qO .isub, qO (.aload_n 0), qF (.getfield 13) 11 1, qO (.bipush 9), qO .iaload, qO .idiv, qO .iadd, qO (.iconst 2), qO .irem] (pc' := 141) (L' := [zR 34 0, zU, zI l2, zI l3, zI l4, zI l5]) (S' := [zI (zrem ((l4 + 1) + (zdiv (l2 - l5) (σ 36 0 9))) 2)]) (σ' := σ) (Ps := [-2147483648 ≤ l4 + 1 ∧ l4 + 1 ≤ 2147483647, -2147483648 ≤ l2 - l5 ∧ l2 - l5 ≤ 2147483647, 0 ≤ 9 ∧ 9 < 123, σ 36 0 9 ≠ 0, -2147483648 ≤ (l4 + 1) + (zdiv (l2 - l5) (σ 36 0 9)) ∧ (l4 + 1) + (zdiv (l2 - l5) (σ 36 0 9)) ≤ 2147483647, 2 ≠ 0]) (by decide +kernel) rfl ⟨h.1, h.2.1, (by decide), h.2.2.1, h.2.2.2.1, (by decide), trivial⟩ ?_
      replace h := h.2.2.2.2
      exact r_ret (by decide +kernel) rfl (fun _ => h)
  · replace h := h.2 c
    refine r_blk [qO (.iload 4)] (pc' := 116) (L' := [zR 34 0, zU, zI l2, zI l3, zI l4, zI l5]) (S' := [zI l4]) (σ' := σ) (Ps := []) (by decide +kernel) rfl trivial ?_
    exact r_ret (by decide +kernel) rfl (fun _ => h)
theorem gX11_wrongFew_0 (σ : Hp) {Q : Option Int → Hp → Prop} (h : ((σ 36 0 1 ≤ 10 → ((¬ σ 36 0 1 = 0 → Q (some 0) σ) ∧ (σ 36 0 1 = 0 → Q (some (-3)) σ))) ∧ (¬ σ 36 0 1 ≤ 10 → Q (some (-6)) σ))) : Runs 0 mX11_wrongFew 0 [zR 34 0] [] σ Q := by
  refine r_blk [qO (.aload_n 0), qF (.getfield 13) 11 1, qO (.iconst 1), qO .iaload, qO (.bipush 10)] (pc' := 8) (L' := [zR 34 0]) (S' := [zI 10, zI (σ 36 0 1)]) (σ' := σ) (Ps := [0 ≤ 1 ∧ 1 < 123]) (by decide +kernel) rfl ⟨(by decide), trivial⟩ ?_
  refine r_icmp_le (off := 8) (tgt := 16) (by decide +kernel) (by decide) (fun c => ?_) (fun c => ?_)
  · replace h := h.1 c
    refine r_blk [qO (.aload_n 0), qF (.getfield 13) 11 1, qO (.iconst 1), qO .iaload] (pc' := 22) (L' := [zR 34 0]) (S' := [zI (σ 36 0 1)]) (σ' := σ) (Ps := [0 ≤ 1 ∧ 1 < 123]) (by decide +kernel) rfl ⟨(by decide), trivial⟩ ?_
    refine r_if_ne (off := 8) (tgt := 30) (by decide +kernel) (by decide) (fun c => ?_) (fun c => ?_)
    · replace h := h.1 c
      refine r_blk [qO (.iconst 0)] (pc' := 31) (L' := [zR 34 0]) (S' := [zI 0]) (σ' := σ) (Ps := []) (by decide +kernel) rfl trivial ?_
      exact r_ret (by decide +kernel) rfl (fun _ => h)
    · replace h := h.2 c
      refine r_blk [qO (.bipush (-3)), qO (.goto 4)] (pc' := 31) (L' := [zR 34 0]) (S' := [zI (-3)]) (σ' := σ) (Ps := []) (by decide +kernel) rfl trivial ?_
      exact r_ret (by decide +kernel) rfl (fun _ => h)
  · replace h := h.2 c
    refine r_blk [qO (.bipush (-6)), qO (.goto 18)] (pc' := 31) (L' := [zR 34 0]) (S' := [zI (-6)]) (σ' := σ) (Ps := []) (by decide +kernel) rfl trivial ?_
    exact r_ret (by decide +kernel) rfl (fun _ => h)
theorem gX7_wayOf_0 (a0 : Int) (σ : Hp) {Q : Option Int → Hp → Prop} (h : ((¬ bitz (σ 16 0 5) a0 = 1 → ((¬ bitz (σ 16 0 6) a0 = 1 → Q (some (bitz (σ 16 0 9) a0)) σ) ∧ (bitz (σ 16 0 6) a0 = 1 → Q (some 2) σ))) ∧ (bitz (σ 16 0 5) a0 = 1 → Q (some 3) σ))) : Runs 1 mX7_wayOf 0 [zR 16 0, zI a0] [] σ Q := by
  refine r_blk [qO (.aload_n 0), qF (.getfield 34) 7 5, qO (.iload_n 1)] (pc' := 5) (L' := [zR 16 0, zI a0]) (S' := [zI a0, zI (σ 16 0 5)]) (σ' := σ) (Ps := []) (by decide +kernel) rfl trivial ?_
  refine r_callNI (As := [zI (σ 16 0 5), zI a0]) (S := []) (Lc := [zI (σ 16 0 5), zI a0]) (d' := 0) (n := 2) kX10_bitOf vX10_bitOf lkX7_63 (by decide +kernel) (by decide) rfl rfl (Nat.le_of_ble_eq_true rfl) rfl rfl (Nat.le_of_ble_eq_true rfl) (pX10_bitOf  ?_)
  refine r_blk [qO (.iconst 1)] (pc' := 9) (L' := [zR 16 0, zI a0]) (S' := [zI 1, zI (bitz (σ 16 0 5) a0)]) (σ' := σ) (Ps := []) (by decide +kernel) rfl trivial ?_
  refine r_icmp_ne (off := 5) (tgt := 14) (by decide +kernel) (by decide) (fun c => ?_) (fun c => ?_)
  · replace h := h.1 c
    refine r_blk [qO (.aload_n 0), qF (.getfield 51) 7 6, qO (.iload_n 1)] (pc' := 19) (L' := [zR 16 0, zI a0]) (S' := [zI a0, zI (σ 16 0 6)]) (σ' := σ) (Ps := []) (by decide +kernel) rfl trivial ?_
    refine r_callNI (As := [zI (σ 16 0 6), zI a0]) (S := []) (Lc := [zI (σ 16 0 6), zI a0]) (d' := 0) (n := 2) kX10_bitOf vX10_bitOf lkX7_63 (by decide +kernel) (by decide) rfl rfl (Nat.le_of_ble_eq_true rfl) rfl rfl (Nat.le_of_ble_eq_true rfl) (pX10_bitOf  ?_)
    refine r_blk [qO (.iconst 1)] (pc' := 23) (L' := [zR 16 0, zI a0]) (S' := [zI 1, zI (bitz (σ 16 0 6) a0)]) (σ' := σ) (Ps := []) (by decide +kernel) rfl trivial ?_
    refine r_icmp_ne (off := 7) (tgt := 30) (by decide +kernel) (by decide) (fun c => ?_) (fun c => ?_)
    · replace h := h.1 c
      refine r_blk [qO (.aload_n 0), qF (.getfield 60) 7 9, qO (.iload_n 1)] (pc' := 35) (L' := [zR 16 0, zI a0]) (S' := [zI a0, zI (σ 16 0 9)]) (σ' := σ) (Ps := []) (by decide +kernel) rfl trivial ?_
      refine r_callNI (As := [zI (σ 16 0 9), zI a0]) (S := []) (Lc := [zI (σ 16 0 9), zI a0]) (d' := 0) (n := 2) kX10_bitOf vX10_bitOf lkX7_63 (by decide +kernel) (by decide) rfl rfl (Nat.le_of_ble_eq_true rfl) rfl rfl (Nat.le_of_ble_eq_true rfl) (pX10_bitOf  ?_)
      exact r_ret (by decide +kernel) rfl (fun _ => h)
    · replace h := h.2 c
      refine r_blk [qO (.iconst 2), qO (.goto 11)] (pc' := 38) (L' := [zR 16 0, zI a0]) (S' := [zI 2]) (σ' := σ) (Ps := []) (by decide +kernel) rfl trivial ?_
      exact r_ret (by decide +kernel) rfl (fun _ => h)
  · replace h := h.2 c
    refine r_blk [qO (.iconst 3)] (pc' := 13) (L' := [zR 16 0, zI a0]) (S' := [zI 3]) (σ' := σ) (Ps := []) (by decide +kernel) rfl trivial ?_
    exact r_ret (by decide +kernel) rfl (fun _ => h)
theorem gX10_refusalOfWay_0 (a0 : Int) (a1 : Int) (a2 : Int) (σ : Hp) {Q : Option Int → Hp → Prop} (h : ((0 ≤ a0 ∧ a0 < σ 1 0 0 → ((0 ≤ a1 ∧ a1 < σ 1 0 0 → Q (some (zwithin a2 0 2879)) σ) ∧ (¬ (0 ≤ a1 ∧ a1 < σ 1 0 0) → Q (some (-1)) σ))) ∧ (¬ (0 ≤ a0 ∧ a0 < σ 1 0 0) → Q (some (-1)) σ))) : Runs 1 mX10_refusalOfWay 0 [zR 0 0, zI a0, zI a1, zI a2] [] σ Q := by
  refine r_blk [qO (.aload_n 0), qF (.getfield 10) 10 0, qO (.iload_n 1)] (pc' := 5) (L' := [zR 0 0, zI a0, zI a1, zI a2]) (S' := [zI a0, zR 1 0]) (σ' := σ) (Ps := []) (by decide +kernel) rfl trivial ?_
  refine r_callVI (As := [zI a0]) (S := []) (Lc := [zR 1 0, zI a0]) (d' := 0) (n := 1) (g := 1) (x := 0) (ci := 6) kX6_hasCorner vX6_hasCorner lkX10_241 (by decide +kernel) (by decide) rfl rfl (by decide) rfl rfl (Nat.le_of_ble_eq_true rfl) rfl rfl (Nat.le_of_ble_eq_true rfl) (pX6_hasCorner  (fun c => ?_) (fun c => ?_))
  · replace h := h.1 c
    refine r_if_eq (off := 14) (tgt := 22) (by decide +kernel) (by decide) (fun c => ?_) (fun c => ?_)
    · exact absurd c (by decide)
    · refine r_blk [qO (.aload_n 0), qF (.getfield 10) 10 0, qO (.iload_n 2)] (pc' := 16) (L' := [zR 0 0, zI a0, zI a1, zI a2]) (S' := [zI a1, zR 1 0]) (σ' := σ) (Ps := []) (by decide +kernel) rfl trivial ?_
      refine r_callVI (As := [zI a1]) (S := []) (Lc := [zR 1 0, zI a1]) (d' := 0) (n := 1) (g := 1) (x := 0) (ci := 6) kX6_hasCorner vX6_hasCorner lkX10_241 (by decide +kernel) (by decide) rfl rfl (by decide) rfl rfl (Nat.le_of_ble_eq_true rfl) rfl rfl (Nat.le_of_ble_eq_true rfl) (pX6_hasCorner  (fun c => ?_) (fun c => ?_))
      · replace h := h.1 c
        refine r_if_ne (off := 5) (tgt := 24) (by decide +kernel) (by decide) (fun c => ?_) (fun c => ?_)
        · refine r_blk [qO (.aload_n 0), qO (.iload_n 3)] (pc' := 26) (L' := [zR 0 0, zI a0, zI a1, zI a2]) (S' := [zI a2, zR 0 0]) (σ' := σ) (Ps := []) (by decide +kernel) rfl trivial ?_
          refine r_callVI (As := [zI a2]) (S := []) (Lc := [zR 0 0, zI a2]) (d' := 0) (n := 1) (g := 0) (x := 0) (ci := 10) kX10_refusalOfMinute vX10_refusalOfMinute lkX10_170 (by decide +kernel) (by decide) rfl rfl (by decide) rfl rfl (Nat.le_of_ble_eq_true rfl) rfl rfl (Nat.le_of_ble_eq_true rfl) (pX10_refusalOfMinute  ?_)
          exact r_ret (by decide +kernel) rfl (fun _ => h)
        · exact absurd c (by decide)
      · replace h := h.2 c
        refine r_if_ne (off := 5) (tgt := 24) (by decide +kernel) (by decide) (fun c => ?_) (fun c => ?_)
        · exact absurd c (by decide)
        · refine r_blk [qO (.iconst (-1))] (pc' := 23) (L' := [zR 0 0, zI a0, zI a1, zI a2]) (S' := [zI (-1)]) (σ' := σ) (Ps := []) (by decide +kernel) rfl trivial ?_
          exact r_ret (by decide +kernel) rfl (fun _ => h)
  · replace h := h.2 c
    refine r_if_eq (off := 14) (tgt := 22) (by decide +kernel) (by decide) (fun c => ?_) (fun c => ?_)
    · refine r_blk [qO (.iconst (-1))] (pc' := 23) (L' := [zR 0 0, zI a0, zI a1, zI a2]) (S' := [zI (-1)]) (σ' := σ) (Ps := []) (by decide +kernel) rfl trivial ?_
      exact r_ret (by decide +kernel) rfl (fun _ => h)
    · exact absurd c (by decide)
theorem gX10_refusalOfTrying_0 (σ : Hp) {Q : Option Int → Hp → Prop} (h : ((σ 1 0 1 ≤ 10 → ((¬ σ 1 0 1 = 0 → Q (some 0) σ) ∧ (σ 1 0 1 = 0 → Q (some (-3)) σ))) ∧ (¬ σ 1 0 1 ≤ 10 → Q (some (-6)) σ))) : Runs 0 mX10_refusalOfTrying 0 [zR 0 0] [] σ Q := by
  refine r_blk [qO (.aload_n 0), qF (.getfield 10) 10 0, qF (.getfield 164) 6 1, qO (.bipush 10)] (pc' := 9) (L' := [zR 0 0]) (S' := [zI 10, zI (σ 1 0 1)]) (σ' := σ) (Ps := []) (by decide +kernel) rfl trivial ?_
  refine r_icmp_le (off := 6) (tgt := 15) (by decide +kernel) (by decide) (fun c => ?_) (fun c => ?_)
  · replace h := h.1 c
    refine r_blk [qO (.aload_n 0), qF (.getfield 10) 10 0, qF (.getfield 164) 6 1] (pc' := 22) (L' := [zR 0 0]) (S' := [zI (σ 1 0 1)]) (σ' := σ) (Ps := []) (by decide +kernel) rfl trivial ?_
    refine r_if_ne (off := 8) (tgt := 30) (by decide +kernel) (by decide) (fun c => ?_) (fun c => ?_)
    · replace h := h.1 c
      refine r_blk [qO (.iconst 0)] (pc' := 31) (L' := [zR 0 0]) (S' := [zI 0]) (σ' := σ) (Ps := []) (by decide +kernel) rfl trivial ?_
      exact r_ret (by decide +kernel) rfl (fun _ => h)
    · replace h := h.2 c
      refine r_blk [qO (.bipush (-3)), qO (.goto 4)] (pc' := 31) (L' := [zR 0 0]) (S' := [zI (-3)]) (σ' := σ) (Ps := []) (by decide +kernel) rfl trivial ?_
      exact r_ret (by decide +kernel) rfl (fun _ => h)
  · replace h := h.2 c
    refine r_blk [qO (.bipush (-6))] (pc' := 14) (L' := [zR 0 0]) (S' := [zI (-6)]) (σ' := σ) (Ps := []) (by decide +kernel) rfl trivial ?_
    exact r_ret (by decide +kernel) rfl (fun _ => h)
theorem gX6_areTwoCorners_0 (a0 : Int) (a1 : Int) (t : Nat) (σ : Hp) {Q : Option Int → Hp → Prop} (h : ((0 ≤ a0 ∧ a0 < σ 1 t 0 → ((0 ≤ a1 ∧ a1 < σ 1 t 0 → ((a0 = a1 → Q (some 0) σ) ∧ (¬ a0 = a1 → Q (some 1) σ))) ∧ (¬ (0 ≤ a1 ∧ a1 < σ 1 t 0) → Q (some 0) σ))) ∧ (¬ (0 ≤ a0 ∧ a0 < σ 1 t 0) → Q (some 0) σ))) : Runs 1 mX6_areTwoCorners 0 [zR 1 t, zI a0, zI a1] [] σ Q := by
  refine r_blk [qO (.aload_n 0), qO (.iload_n 1)] (pc' := 2) (L' := [zR 1 t, zI a0, zI a1]) (S' := [zI a0, zR 1 t]) (σ' := σ) (Ps := []) (by decide +kernel) rfl trivial ?_
  refine r_callVI (As := [zI a0]) (S := []) (Lc := [zR 1 t, zI a0]) (d' := 0) (n := 1) (g := 1) (x := t) (ci := 6) kX6_hasCorner vX6_hasCorner lkX6_80 (by decide +kernel) (by decide) rfl rfl (by decide) rfl rfl (Nat.le_of_ble_eq_true rfl) rfl rfl (Nat.le_of_ble_eq_true rfl) (pX6_hasCorner  (fun c => ?_) (fun c => ?_))
  · replace h := h.1 c
    refine r_if_eq (off := 20) (tgt := 25) (by decide +kernel) (by decide) (fun c => ?_) (fun c => ?_)
    · exact absurd c (by decide)
    · refine r_blk [qO (.aload_n 0), qO (.iload_n 2)] (pc' := 10) (L' := [zR 1 t, zI a0, zI a1]) (S' := [zI a1, zR 1 t]) (σ' := σ) (Ps := []) (by decide +kernel) rfl trivial ?_
      refine r_callVI (As := [zI a1]) (S := []) (Lc := [zR 1 t, zI a1]) (d' := 0) (n := 1) (g := 1) (x := t) (ci := 6) kX6_hasCorner vX6_hasCorner lkX6_80 (by decide +kernel) (by decide) rfl rfl (by decide) rfl rfl (Nat.le_of_ble_eq_true rfl) rfl rfl (Nat.le_of_ble_eq_true rfl) (pX6_hasCorner  (fun c => ?_) (fun c => ?_))
      · replace h := h.1 c
        refine r_if_eq (off := 12) (tgt := 25) (by decide +kernel) (by decide) (fun c => ?_) (fun c => ?_)
        · exact absurd c (by decide)
        · refine r_blk [qO (.iload_n 1), qO (.iload_n 2)] (pc' := 18) (L' := [zR 1 t, zI a0, zI a1]) (S' := [zI a1, zI a0]) (σ' := σ) (Ps := []) (by decide +kernel) rfl trivial ?_
          refine r_icmp_eq (off := 7) (tgt := 25) (by decide +kernel) (by decide) (fun c => ?_) (fun c => ?_)
          · replace h := h.1 c
            refine r_blk [qO (.iconst 0)] (pc' := 26) (L' := [zR 1 t, zI a0, zI a1]) (S' := [zI 0]) (σ' := σ) (Ps := []) (by decide +kernel) rfl trivial ?_
            exact r_retz (by decide +kernel) rfl (by decide) h
          · replace h := h.2 c
            refine r_blk [qO (.iconst 1), qO (.goto 4)] (pc' := 26) (L' := [zR 1 t, zI a0, zI a1]) (S' := [zI 1]) (σ' := σ) (Ps := []) (by decide +kernel) rfl trivial ?_
            exact r_retz (by decide +kernel) rfl (by decide) h
      · replace h := h.2 c
        refine r_if_eq (off := 12) (tgt := 25) (by decide +kernel) (by decide) (fun c => ?_) (fun c => ?_)
        · refine r_blk [qO (.iconst 0)] (pc' := 26) (L' := [zR 1 t, zI a0, zI a1]) (S' := [zI 0]) (σ' := σ) (Ps := []) (by decide +kernel) rfl trivial ?_
          exact r_retz (by decide +kernel) rfl (by decide) h
        · exact absurd c (by decide)
  · replace h := h.2 c
    refine r_if_eq (off := 20) (tgt := 25) (by decide +kernel) (by decide) (fun c => ?_) (fun c => ?_)
    · refine r_blk [qO (.iconst 0)] (pc' := 26) (L' := [zR 1 t, zI a0, zI a1]) (S' := [zI 0]) (σ' := σ) (Ps := []) (by decide +kernel) rfl trivial ?_
      exact r_retz (by decide +kernel) rfl (by decide) h
    · exact absurd c (by decide)
theorem gX6_mustLets_0 (a0 : Int) (a1 : Int) (t : Nat) (σ : Hp) {Q : Option Int → Hp → Prop} (h : (0 ≤ a0 ∧ a0 < 14) ∧ ((σ 5 t a0.toNat = 2 → Q (some 1) σ) ∧ (¬ σ 5 t a0.toNat = 2 → (0 ≤ a0 ∧ a0 < 14) ∧ ((¬ σ 5 t a0.toNat = a1 → Q (some 0) σ) ∧ (σ 5 t a0.toNat = a1 → Q (some 1) σ))))) : Runs 0 mX6_mustLets 0 [zR 1 t, zI a0, zI a1] [] σ Q := by
  refine r_blk [qO (.aload_n 0), qF (.getfield 25) 6 10, qO (.iload_n 1), qO .iaload, qO (.iconst 2)] (pc' := 7) (L' := [zR 1 t, zI a0, zI a1]) (S' := [zI 2, zI (σ 5 t a0.toNat)]) (σ' := σ) (Ps := [0 ≤ a0 ∧ a0 < 14]) (by decide +kernel) rfl ⟨h.1, trivial⟩ ?_
  replace h := h.2
  refine r_icmp_eq (off := 13) (tgt := 20) (by decide +kernel) (by decide) (fun c => ?_) (fun c => ?_)
  · replace h := h.1 c
    refine r_blk [qO (.iconst 1), qO (.goto 4)] (pc' := 25) (L' := [zR 1 t, zI a0, zI a1]) (S' := [zI 1]) (σ' := σ) (Ps := []) (by decide +kernel) rfl trivial ?_
    exact r_retz (by decide +kernel) rfl (by decide) h
  · replace h := h.2 c
    refine r_blk [qO (.aload_n 0), qF (.getfield 25) 6 10, qO (.iload_n 1), qO .iaload, qO (.iload_n 2)] (pc' := 17) (L' := [zR 1 t, zI a0, zI a1]) (S' := [zI a1, zI (σ 5 t a0.toNat)]) (σ' := σ) (Ps := [0 ≤ a0 ∧ a0 < 14]) (by decide +kernel) rfl ⟨h.1, trivial⟩ ?_
    replace h := h.2
    refine r_icmp_ne (off := 7) (tgt := 24) (by decide +kernel) (by decide) (fun c => ?_) (fun c => ?_)
    · replace h := h.1 c
      refine r_blk [qO (.iconst 0)] (pc' := 25) (L' := [zR 1 t, zI a0, zI a1]) (S' := [zI 0]) (σ' := σ) (Ps := []) (by decide +kernel) rfl trivial ?_
      exact r_retz (by decide +kernel) rfl (by decide) h
    · replace h := h.2 c
      refine r_blk [qO (.iconst 1), qO (.goto 4)] (pc' := 25) (L' := [zR 1 t, zI a0, zI a1]) (S' := [zI 1]) (σ' := σ) (Ps := []) (by decide +kernel) rfl trivial ?_
      exact r_retz (by decide +kernel) rfl (by decide) h
theorem gX3_sign_0 (a0 : Int) (σ : Hp) {Q : Option Int → Hp → Prop} (h : (σ 12 0 1 ≤ 64) ∧ ((zbyte σ (σ 14 0 2) = a0 → (-2147483648 ≤ (σ 14 0 2) + 1 ∧ (σ 14 0 2) + 1 ≤ 2147483647) ∧ Q (some 1) (zup σ 14 0 2 ((σ 14 0 2) + 1))) ∧ (¬ zbyte σ (σ 14 0 2) = a0 → Q (some 0) σ))) : Runs 1 mX3_sign 0 [zR 14 0, zI a0] [] σ Q := by
  refine r_blk [qO (.aload_n 0), qF (.getfield 22) 3 0, qO (.aload_n 0), qF (.getfield 34) 3 2] (pc' := 8) (L' := [zR 14 0, zI a0]) (S' := [zI (σ 14 0 2), zR 12 0]) (σ' := σ) (Ps := []) (by decide +kernel) rfl trivial ?_
  refine r_callVI (As := [zI (σ 14 0 2)]) (S := []) (Lc := [zR 12 0, zI (σ 14 0 2)]) (d' := 0) (n := 1) (g := 12) (x := 0) (ci := 5) kX5_byteAt vX5_byteAt lkX3_53 (by decide +kernel) (by decide) rfl rfl (by decide) rfl rfl (Nat.le_of_ble_eq_true rfl) rfl rfl (Nat.le_of_ble_eq_true rfl) (pX5_byteAt h.1 ?_)
  replace h := h.2
  refine r_blk [qO (.iload_n 1)] (pc' := 12) (L' := [zR 14 0, zI a0]) (S' := [zI a0, zI (zbyte σ (σ 14 0 2))]) (σ' := σ) (Ps := []) (by decide +kernel) rfl trivial ?_
  refine r_icmp_eq (off := 5) (tgt := 17) (by decide +kernel) (by decide) (fun c => ?_) (fun c => ?_)
  · replace h := h.1 c
    refine r_blk [qO (.aload_n 0), qO .dup, qF (.getfield 34) 3 2, qO (.iconst 1), qO .iadd, qF (.putfield 34) 3 2, qO (.iconst 1)] (pc' := 28) (L' := [zR 14 0, zI a0]) (S' := [zI 1]) (σ' := (zup σ 14 0 2 ((σ 14 0 2) + 1))) (Ps := [-2147483648 ≤ (σ 14 0 2) + 1 ∧ (σ 14 0 2) + 1 ≤ 2147483647]) (by decide +kernel) rfl ⟨h.1, trivial⟩ ?_
    replace h := h.2
    exact r_retz (by decide +kernel) rfl (by decide) h
  · replace h := h.2 c
    refine r_blk [qO (.iconst 0)] (pc' := 16) (L' := [zR 14 0, zI a0]) (S' := [zI 0]) (σ' := σ) (Ps := []) (by decide +kernel) rfl trivial ?_
    exact r_retz (by decide +kernel) rfl (by decide) h
theorem gX8_goAlong_0 (a0 : Int) (a1 : Int) (a2 : Int) (σ : Hp) {Q : Option Int → Hp → Prop} (h : ((a2 = (-9) → Q none σ) ∧ (¬ a2 = (-9) → (0 ≤ a1 ∧ a1 < 10) ∧ (0 ≤ a0 ∧ a0 < 14) ∧ (-2147483648 ≤ a2 + (σ 4 0 a0.toNat) ∧ a2 + (σ 4 0 a0.toNat) ≤ 2147483647) ∧ (0 ≤ a1 ∧ a1 < 10) ∧ ∀ σ1 : Hp, σ1 = (zup σ 18 0 a1.toNat (if a2 + (σ 4 0 a0.toNat) < σ 18 0 a1.toNat then a2 + (σ 4 0 a0.toNat) else σ 18 0 a1.toNat)) → Q none σ1))) : Runs 1 mX8_goAlong 0 [zR 17 0, zI a0, zI a1, zI a2] [] σ Q := by
  refine r_blk [qO (.iload_n 3), qO (.bipush (-9))] (pc' := 3) (L' := [zR 17 0, zI a0, zI a1, zI a2]) (S' := [zI (-9), zI a2]) (σ' := σ) (Ps := []) (by decide +kernel) rfl trivial ?_
  refine r_icmp_eq (off := 29) (tgt := 32) (by decide +kernel) (by decide) (fun c => ?_) (fun c => ?_)
  · replace h := h.1 c
    exact r_retv (by decide +kernel) rfl h
  · replace h := h.2 c
    refine r_blk [qO (.aload_n 0), qF (.getfield 9) 8 2, qO (.iload_n 2), qO (.aload_n 0), qF (.getfield 9) 8 2, qO (.iload_n 2), qO .iaload, qO (.iload_n 3), qO (.aload_n 0), qF (.getfield 15) 8 0, qF (.getfield 72) 6 9, qO (.iload_n 1), qO .iaload, qO .iadd] (pc' := 28) (L' := [zR 17 0, zI a0, zI a1, zI a2]) (S' := [zI (a2 + (σ 4 0 a0.toNat)), zI (σ 18 0 a1.toNat), zI a1, zR 18 0]) (σ' := σ) (Ps := [0 ≤ a1 ∧ a1 < 10, 0 ≤ a0 ∧ a0 < 14, -2147483648 ≤ a2 + (σ 4 0 a0.toNat) ∧ a2 + (σ 4 0 a0.toNat) ≤ 2147483647]) (by decide +kernel) rfl ⟨h.1, h.2.1, h.2.2.1, trivial⟩ ?_
    replace h := h.2.2.2
    refine r_min lkX8_75 (by decide +kernel) (by decide) (Nat.le_of_ble_eq_true rfl) ?_
    refine r_blk [qO .iastore] (pc' := 32) (L' := [zR 17 0, zI a0, zI a1, zI a2]) (S' := []) (σ' := (zup σ 18 0 a1.toNat (if a2 + (σ 4 0 a0.toNat) < σ 18 0 a1.toNat then a2 + (σ 4 0 a0.toNat) else σ 18 0 a1.toNat))) (Ps := [0 ≤ a1 ∧ a1 < 10]) (by decide +kernel) rfl ⟨h.1, trivial⟩ ?_
    replace h := h.2
    generalize hσ1 : (zup σ 18 0 a1.toNat (if a2 + (σ 4 0 a0.toNat) < σ 18 0 a1.toNat then a2 + (σ 4 0 a0.toNat) else σ 18 0 a1.toNat)) = σ1
    replace h := h σ1 hσ1.symm
    exact r_retv (by decide +kernel) rfl h
theorem gX0_layStep_0 (a0 : Int) (a1 : Int) (a2 : Int) (σ : Hp) {Q : Option Int → Hp → Prop} (h : (0 ≤ a0 ∧ a0 < 10) ∧ (0 ≤ a0 ∧ a0 < 10) ∧ (0 ≤ a1 ∧ a1 < 10) ∧ (0 ≤ a1 ∧ a1 < 10) ∧ ∀ σ1 : Hp, σ1 = (zup σ 21 a0.toNat a1.toNat (if a2 < σ 21 a0.toNat a1.toNat then a2 else σ 21 a0.toNat a1.toNat)) → Q none σ1) : Runs 1 mX0_layStep 0 [zR 19 0, zI a0, zI a1, zI a2] [] σ Q := by
  refine r_blk [qO (.aload_n 0), qF (.getfield 11) 0 2, qO (.iload_n 1), qO .aaload, qO (.iload_n 2), qO (.aload_n 0), qF (.getfield 11) 0 2, qO (.iload_n 1), qO .aaload, qO (.iload_n 2), qO .iaload, qO (.iload_n 3)] (pc' := 16) (L' := [zR 19 0, zI a0, zI a1, zI a2]) (S' := [zI a2, zI (σ 21 a0.toNat a1.toNat), zI a1, zR 21 a0.toNat]) (σ' := σ) (Ps := [0 ≤ a0 ∧ a0 < 10, 0 ≤ a0 ∧ a0 < 10, 0 ≤ a1 ∧ a1 < 10]) (by decide +kernel) rfl ⟨h.1, h.2.1, h.2.2.1, trivial⟩ ?_
  replace h := h.2.2.2
  refine r_min lkX0_61 (by decide +kernel) (by decide) (Nat.le_of_ble_eq_true rfl) ?_
  refine r_blk [qO .iastore] (pc' := 20) (L' := [zR 19 0, zI a0, zI a1, zI a2]) (S' := []) (σ' := (zup σ 21 a0.toNat a1.toNat (if a2 < σ 21 a0.toNat a1.toNat then a2 else σ 21 a0.toNat a1.toNat))) (Ps := [0 ≤ a1 ∧ a1 < 10]) (by decide +kernel) rfl ⟨h.1, trivial⟩ ?_
  replace h := h.2
  generalize hσ1 : (zup σ 21 a0.toNat a1.toNat (if a2 < σ 21 a0.toNat a1.toNat then a2 else σ 21 a0.toNat a1.toNat)) = σ1
  replace h := h σ1 hσ1.symm
  exact r_retv (by decide +kernel) rfl h
theorem gX0_isApart_0 (a0 : Int) (a1 : Int) (σ : Hp) {Q : Option Int → Hp → Prop} (h : ((a0 = a1 → Q (some 0) σ) ∧ (¬ a0 = a1 → (0 ≤ a0 ∧ a0 < 10) ∧ (0 ≤ a1 ∧ a1 < 10) ∧ ((σ 21 a0.toNat a1.toNat < 1000000 → Q (some 0) σ) ∧ (¬ σ 21 a0.toNat a1.toNat < 1000000 → Q (some 1) σ))))) : Runs 0 mX0_isApart 0 [zR 19 0, zI a0, zI a1] [] σ Q := by
  refine r_blk [qO (.iload_n 1), qO (.iload_n 2)] (pc' := 2) (L' := [zR 19 0, zI a0, zI a1]) (S' := [zI a1, zI a0]) (σ' := σ) (Ps := []) (by decide +kernel) rfl trivial ?_
  refine r_icmp_eq (off := 20) (tgt := 22) (by decide +kernel) (by decide) (fun c => ?_) (fun c => ?_)
  · replace h := h.1 c
    refine r_blk [qO (.iconst 0)] (pc' := 23) (L' := [zR 19 0, zI a0, zI a1]) (S' := [zI 0]) (σ' := σ) (Ps := []) (by decide +kernel) rfl trivial ?_
    exact r_retz (by decide +kernel) rfl (by decide) h
  · replace h := h.2 c
    refine r_blk [qO (.aload_n 0), qF (.getfield 11) 0 2, qO (.iload_n 1), qO .aaload, qO (.iload_n 2), qO .iaload, qC (.ldc 24) 1000000] (pc' := 15) (L' := [zR 19 0, zI a0, zI a1]) (S' := [zI 1000000, zI (σ 21 a0.toNat a1.toNat)]) (σ' := σ) (Ps := [0 ≤ a0 ∧ a0 < 10, 0 ≤ a1 ∧ a1 < 10]) (by decide +kernel) rfl ⟨h.1, h.2.1, trivial⟩ ?_
    replace h := h.2.2
    refine r_icmp_lt (off := 7) (tgt := 22) (by decide +kernel) (by decide) (fun c => ?_) (fun c => ?_)
    · replace h := h.1 c
      refine r_blk [qO (.iconst 0)] (pc' := 23) (L' := [zR 19 0, zI a0, zI a1]) (S' := [zI 0]) (σ' := σ) (Ps := []) (by decide +kernel) rfl trivial ?_
      exact r_retz (by decide +kernel) rfl (by decide) h
    · replace h := h.2 c
      refine r_blk [qO (.iconst 1), qO (.goto 4)] (pc' := 23) (L' := [zR 19 0, zI a0, zI a1]) (S' := [zI 1]) (σ' := σ) (Ps := []) (by decide +kernel) rfl trivial ?_
      exact r_retz (by decide +kernel) rfl (by decide) h
theorem gX2_otherEnd_0 (a0 : Int) (a1 : Int) (σ : Hp) {Q : Option Int → Hp → Prop} (h : (0 ≤ a0 ∧ a0 < 14) ∧ ((¬ σ 2 0 a0.toNat = a1 → (0 ≤ a0 ∧ a0 < 14) ∧ ((¬ σ 3 0 a0.toNat = a1 → Q (some (-1)) σ) ∧ (σ 3 0 a0.toNat = a1 → (0 ≤ a0 ∧ a0 < 14) ∧ Q (some (σ 2 0 a0.toNat)) σ))) ∧ (σ 2 0 a0.toNat = a1 → (0 ≤ a0 ∧ a0 < 14) ∧ Q (some (σ 3 0 a0.toNat)) σ))) : Runs 0 mX2_otherEnd 0 [zR 22 0, zI a0, zI a1] [] σ Q := by
  refine r_blk [qO (.aload_n 0), qF (.getfield 18) 2 0, qF (.getfield 35) 6 7, qO (.iload_n 1), qO .iaload, qO (.iload_n 2)] (pc' := 10) (L' := [zR 22 0, zI a0, zI a1]) (S' := [zI a1, zI (σ 2 0 a0.toNat)]) (σ' := σ) (Ps := [0 ≤ a0 ∧ a0 < 14]) (by decide +kernel) rfl ⟨h.1, trivial⟩ ?_
  replace h := h.2
  refine r_icmp_ne (off := 13) (tgt := 23) (by decide +kernel) (by decide) (fun c => ?_) (fun c => ?_)
  · replace h := h.1 c
    refine r_blk [qO (.aload_n 0), qF (.getfield 18) 2 0, qF (.getfield 38) 6 8, qO (.iload_n 1), qO .iaload, qO (.iload_n 2)] (pc' := 33) (L' := [zR 22 0, zI a0, zI a1]) (S' := [zI a1, zI (σ 3 0 a0.toNat)]) (σ' := σ) (Ps := [0 ≤ a0 ∧ a0 < 14]) (by decide +kernel) rfl ⟨h.1, trivial⟩ ?_
    replace h := h.2
    refine r_icmp_ne (off := 15) (tgt := 48) (by decide +kernel) (by decide) (fun c => ?_) (fun c => ?_)
    · replace h := h.1 c
      refine r_blk [qO (.iconst (-1))] (pc' := 49) (L' := [zR 22 0, zI a0, zI a1]) (S' := [zI (-1)]) (σ' := σ) (Ps := []) (by decide +kernel) rfl trivial ?_
      exact r_ret (by decide +kernel) rfl (fun _ => h)
    · replace h := h.2 c
      refine r_blk [qO (.aload_n 0), qF (.getfield 18) 2 0, qF (.getfield 35) 6 7, qO (.iload_n 1), qO .iaload, qO (.goto 4)] (pc' := 49) (L' := [zR 22 0, zI a0, zI a1]) (S' := [zI (σ 2 0 a0.toNat)]) (σ' := σ) (Ps := [0 ≤ a0 ∧ a0 < 14]) (by decide +kernel) rfl ⟨h.1, trivial⟩ ?_
      replace h := h.2
      exact r_ret (by decide +kernel) rfl (fun _ => h)
  · replace h := h.2 c
    refine r_blk [qO (.aload_n 0), qF (.getfield 18) 2 0, qF (.getfield 38) 6 8, qO (.iload_n 1), qO .iaload] (pc' := 22) (L' := [zR 22 0, zI a0, zI a1]) (S' := [zI (σ 3 0 a0.toNat)]) (σ' := σ) (Ps := [0 ≤ a0 ∧ a0 < 14]) (by decide +kernel) rfl ⟨h.1, trivial⟩ ?_
    replace h := h.2
    exact r_ret (by decide +kernel) rfl (fun _ => h)
theorem gX7_takeAsItIs_0 (σ : Hp) {Q : Option Int → Hp → Prop} (h : ∀ σ1 : Hp, σ1 = (zup (zup (zup (zup σ 16 0 1 (σ 11 0 1)) 16 0 2 (σ 11 0 0)) 16 0 3 (σ 11 0 2)) 16 0 5 (σ 1 0 5)) → ∀ σ2 : Hp, σ2 = zup σ1 16 0 6 (tOpen σ1 0) → ∀ σ3 : Hp, σ3 = zup σ2 16 0 4 (tBits σ2 (σ2 1 0 6)) → Q none σ3) : Runs 1 mX7_takeAsItIs 0 [zR 16 0] [] σ Q := by
  refine r_blk [qO (.aload_n 0), qO (.aload_n 0), qF (.getfield 9) 7 0, qF (.getfield 15) 6 16, qO (.iconst 1), qO .iaload, qF (.putfield 21) 7 1, qO (.aload_n 0), qO (.aload_n 0), qF (.getfield 9) 7 0, qF (.getfield 15) 6 16, qO (.iconst 0), qO .iaload, qF (.putfield 25) 7 2, qO (.aload_n 0), qO (.aload_n 0), qF (.getfield 9) 7 0, qF (.getfield 15) 6 16, qO (.iconst 2), qO .iaload, qF (.putfield 28) 7 3, qO (.aload_n 0), qO (.aload_n 0), qF (.getfield 9) 7 0, qF (.getfield 31) 6 5, qF (.putfield 34) 7 5, qO (.aload_n 0), qO (.iconst 0)] (pc' := 52) (L' := [zR 16 0]) (S' := [zI 0, zR 16 0]) (σ' := (zup (zup (zup (zup σ 16 0 1 (σ 11 0 1)) 16 0 2 (σ 11 0 0)) 16 0 3 (σ 11 0 2)) 16 0 5 (σ 1 0 5))) (Ps := [0 ≤ 1 ∧ 1 < 4, 0 ≤ 0 ∧ 0 < 4, 0 ≤ 2 ∧ 2 < 4]) (by decide +kernel) rfl ⟨(by decide), (by decide), (by decide), trivial⟩ ?_
  generalize hσ1 : (zup (zup (zup (zup σ 16 0 1 (σ 11 0 1)) 16 0 2 (σ 11 0 0)) 16 0 3 (σ 11 0 2)) 16 0 5 (σ 1 0 5)) = σ1
  replace h := h σ1 hσ1.symm
  refine r_callVV (As := [zI 0]) (S := []) (Lc := [zR 16 0, zI 0]) (d' := 0) (n := 1) (g := 16) (x := 0) (ci := 7) kX7_openBothWays vX7_openBothWays lkX7_35 (by decide +kernel) (by decide) rfl rfl (by decide) rfl rfl (Nat.le_of_ble_eq_true rfl) rfl rfl (Nat.le_of_ble_eq_true rfl) (pX7_openBothWays  ?_)
  generalize hσ2 : zup σ1 16 0 6 (tOpen σ1 0) = σ2
  replace h := h σ2 hσ2.symm
  refine r_blk [qO (.aload_n 0), qO (.aload_n 0), qF (.getfield 9) 7 0, qF (.getfield 39) 6 6] (pc' := 63) (L' := [zR 16 0]) (S' := [zI (σ2 1 0 6), zR 16 0]) (σ' := σ2) (Ps := []) (by decide +kernel) rfl trivial ?_
  refine r_callVV (As := [zI (σ2 1 0 6)]) (S := []) (Lc := [zR 16 0, zI (σ2 1 0 6), zU]) (d' := 0) (n := 1) (g := 16) (x := 0) (ci := 7) kX7_pointAs vX7_pointAs lkX7_42 (by decide +kernel) (by decide) rfl rfl (by decide) rfl rfl (Nat.le_of_ble_eq_true rfl) rfl rfl (Nat.le_of_ble_eq_true rfl) (pX7_pointAs  ?_)
  generalize hσ3 : zup σ2 16 0 4 (tBits σ2 (σ2 1 0 6)) = σ3
  replace h := h σ3 hσ3.symm
  exact r_retv (by decide +kernel) rfl h
theorem gX1_drawBelow_0 (a0 : Int) (σ : Hp) {Q : Option Int → Hp → Prop} (h : ((1 ≤ a0 → (a0 ≠ 0) ∧ ∀ z1 : Int, z1 = zrem (zdiv (zand (wrap ((wrap ((σ 25 0 2) * 1664525)) + 1013904223)) 2147483647) 256) a0 → Q (some z1) (zup σ 25 0 2 (wrap ((wrap ((σ 25 0 2) * 1664525)) + 1013904223)))) ∧ (¬ 1 ≤ a0 → Q (some 0) (zup σ 25 0 2 (wrap ((wrap ((σ 25 0 2) * 1664525)) + 1013904223)))))) : Runs 0 mX1_drawBelow 0 [zR 25 0, zI a0] [] σ Q := by
  refine r_blk [qO (.aload_n 0), qO (.aload_n 0), qF (.getfield 59) 1 2, qC (.ldc 65) 1664525, qC .imul 1, qC (.ldc 66) 1013904223, qC .iadd 1, qF (.putfield 59) 1 2, qO (.iload_n 1), qO (.iconst 1)] (pc' := 16) (L' := [zR 25 0, zI a0]) (S' := [zI 1, zI a0]) (σ' := (zup σ 25 0 2 (wrap ((wrap ((σ 25 0 2) * 1664525)) + 1013904223)))) (Ps := []) (by decide +kernel) rfl trivial ?_
  refine r_icmp_ge (off := 7) (tgt := 23) (by decide +kernel) (by decide) (fun c => ?_) (fun c => ?_)
  · replace h := h.1 c
    refine r_blk [qO (.aload_n 0), qF (.getfield 59) 1 2, qC (.ldc 67) 2147483647, qO .iand, qO (.sipush 256), qO .idiv, qO (.iload_n 1), qO .irem] (pc' := 36) (L' := [zR 25 0, zI a0]) (S' := [zI (zrem (zdiv (zand (wrap ((wrap ((σ 25 0 2) * 1664525)) + 1013904223)) 2147483647) 256) a0)]) (σ' := (zup σ 25 0 2 (wrap ((wrap ((σ 25 0 2) * 1664525)) + 1013904223)))) (Ps := [256 ≠ 0, a0 ≠ 0]) (by decide +kernel) rfl ⟨(by decide), h.1, trivial⟩ ?_
    replace h := h.2
    generalize hz1 : zrem (zdiv (zand (wrap ((wrap ((σ 25 0 2) * 1664525)) + 1013904223)) 2147483647) 256) a0 = z1
    replace h := h z1 hz1.symm
    exact r_ret (by decide +kernel) rfl (fun _ => h)
  · replace h := h.2 c
    refine r_blk [qO (.iconst 0), qO (.goto 16)] (pc' := 36) (L' := [zR 25 0, zI a0]) (S' := [zI 0]) (σ' := (zup σ 25 0 2 (wrap ((wrap ((σ 25 0 2) * 1664525)) + 1013904223)))) (Ps := []) (by decide +kernel) rfl trivial ?_
    exact r_ret (by decide +kernel) rfl (fun _ => h)
theorem gX5_add_0 (a0 : Int) (σ : Hp) {Q : Option Int → Hp → Prop} (h : ((64 ≤ σ 12 0 1 → Q none σ) ∧ (¬ 64 ≤ σ 12 0 1 → (0 ≤ σ 12 0 1 ∧ σ 12 0 1 < 64) ∧ (-2147483648 ≤ (σ 12 0 1) + 1 ∧ (σ 12 0 1) + 1 ≤ 2147483647) ∧ Q none (zup (zup σ 13 0 ((σ 12 0 1).toNat) a0) 12 0 1 ((σ 12 0 1) + 1))))) : Runs 0 mX5_add 0 [zR 12 0, zI a0] [] σ Q := by
  refine r_blk [qO (.aload_n 0), qF (.getfield 15) 5 1, qO (.bipush 64)] (pc' := 6) (L' := [zR 12 0, zI a0]) (S' := [zI 64, zI (σ 12 0 1)]) (σ' := σ) (Ps := []) (by decide +kernel) rfl trivial ?_
  refine r_icmp_ge (off := 23) (tgt := 29) (by decide +kernel) (by decide) (fun c => ?_) (fun c => ?_)
  · replace h := h.1 c
    exact r_retv (by decide +kernel) rfl h
  · replace h := h.2 c
    refine r_blk [qO (.aload_n 0), qF (.getfield 9) 5 0, qO (.aload_n 0), qF (.getfield 15) 5 1, qO (.iload_n 1), qO .iastore, qO (.aload_n 0), qO .dup, qF (.getfield 15) 5 1, qO (.iconst 1), qO .iadd, qF (.putfield 15) 5 1] (pc' := 29) (L' := [zR 12 0, zI a0]) (S' := []) (σ' := (zup (zup σ 13 0 ((σ 12 0 1).toNat) a0) 12 0 1 ((σ 12 0 1) + 1))) (Ps := [0 ≤ σ 12 0 1 ∧ σ 12 0 1 < 64, -2147483648 ≤ (σ 12 0 1) + 1 ∧ (σ 12 0 1) + 1 ≤ 2147483647]) (by decide +kernel) rfl ⟨h.1, h.2.1, trivial⟩ ?_
    replace h := h.2.2
    exact r_retv (by decide +kernel) rfl h
end
section
/-! the town as the reference holds it, and its streets at a minute -/
def stOK (s : Nat → Int) (t : Int) : Prop := (0 ≤ sg s t 0 ∧ sg s t 0 < s 0) ∧ (0 ≤ sg s t 1 ∧ sg s t 1 < s 0) ∧ sg s t 0 ≠ sg s t 1 ∧ (1 ≤ sg s t 2 ∧ sg s t 2 ≤ 60) ∧ (0 ≤ sg s t 3 ∧ sg s t 3 ≤ 1) ∧ (0 ≤ sg s t 4 ∧ sg s t 4 ≤ 2)
def erOK (s : Nat → Int) (e : Int) : Prop := (0 ≤ se s e 0 ∧ se s e 0 < s 0) ∧ (0 ≤ se s e 1 ∧ se s e 1 < s 0) ∧ (0 ≤ se s e 2 ∧ se s e 2 ≤ 1439) ∧ (1 ≤ se s e 3 ∧ se s e 3 ≤ 9)
def WF (s : Nat → Int) : Prop := (2 ≤ s 0 ∧ s 0 ≤ 10) ∧ (0 ≤ s 1 ∧ s 1 ≤ 14) ∧ (0 ≤ s 2 ∧ s 2 ≤ 8) ∧ (0 ≤ s 3 ∧ s 3 < 16384) ∧ (0 ≤ s 4 ∧ s 4 < 16384) ∧ (0 ≤ s 5 ∧ s 5 < 16384) ∧ (0 ≤ s 6 ∧ s 6 ≤ 10) ∧ (0 ≤ s 7 ∧ s 7 ≤ 1439) ∧ (0 ≤ s 8 ∧ s 8 ≤ 4) ∧ (10 ≤ s 9 ∧ s 9 ≤ 720) ∧ (0 ≤ s 10 ∧ s 10 ≤ 9) ∧
  (∀ t : Int, 0 ≤ t → t < s 1 → stOK s t) ∧ (∀ e : Int, 0 ≤ e → e < s 2 → erOK s e) ∧ (∀ i : Nat, (i : Int) < s 6 → 0 ≤ s (113 + i) ∧ s (113 + i) ≤ 9)
def turnsS (s : Nat → Int) (m : Int) : Int := if s 8 = 4 then 0 else if m < s 7 then 0 else if s 8 = 2 then 1 + (m - s 7) / s 9 else 1
def turnS (s : Nat → Int) (m : Int) : Int := if s 8 = 4 then -9 else if m < s 7 then s 7 else if s 8 = 2 then s 7 + (1 + (m - s 7) / s 9) * s 9 else -9
def nextS (s : Nat → Int) (m : Int) : Int := if turnS s m ≤ 2879 then turnS s m else -9
def ebit (s : Nat → Int) (t : Int) : Int := if s 8 = 3 ∧ s 10 % 2 = 1 then 1 - bitz (s 3) t else bitz (s 3) t
def wayS (s : Nat → Int) (t m : Int) : Int := if bitz (s 4) t = 1 then 3 else if bitz (s 5) t = 1 ∨ (s 8 = 1 ∧ sg s t 3 = 1) then 2 else (ebit s t + turnsS s m) % 2
def entS (s : Nat → Int) (t e m : Int) : Int := if bitz (s 4) t = 1 ∨ 2879 < m then -9 else if wayS s t m = 2 ∨ wayS s t m = e then m else nextS s m
def zwrongWay (s : Nat → Int) (f t m : Int) : Int := if (0 ≤ f ∧ f < s 0) ∧ (0 ≤ t ∧ t < s 0) then zwithin m 0 2879 else -1
def zfew (n : Int) : Int := if 10 < n then -6 else if n = 0 then -3 else 0
def zother (σ : Hp) (t c : Int) : Int := if σ 2 0 t.toNat = c then σ 3 0 t.toNat else if σ 3 0 t.toNat = c then σ 2 0 t.toNat else -1
def zlcg (z : Int) : Int := wrap (wrap (z * 1664525) + 1013904223)
def zdraw (z : Int) : Int := zrem (zdiv (zand (zlcg z) 2147483647) 256) 1440
theorem ebit_01 (s : Nat → Int) (t : Int) : ebit s t = 0 ∨ ebit s t = 1 := by
  unfold ebit
  have := bitz_01 (s 3) t
  split <;> omega
theorem turnsS_nn {s : Nat → Int} (h : WF s) (m : Int) : 0 ≤ turnsS s m := by
  obtain ⟨-, -, -, -, -, -, -, w7, w8, w9, -⟩ := h
  unfold turnsS
  split
  · omega
  · split
    · omega
    · split
      · have := Int.ediv_nonneg (show 0 ≤ m - s 7 by omega) (show 0 ≤ s 9 by omega)
        omega
      · omega
section Small2
variable {σ : Hp} {K : Int → Hp → Prop} {K' : Hp → Prop}
theorem pX11_isCorner {a0 : Int} (h1 : 0 ≤ a0 ∧ a0 < σ 36 0 0 → K 1 σ) (h0 : ¬ (0 ≤ a0 ∧ a0 < σ 36 0 0) → K 0 σ) : Runs 1 mX11_isCorner 0 [zR 34 0, zI a0] [] σ (rI K) := gX11_isCorner_0 a0 σ ⟨h1, h0⟩
theorem pX11_isStreet {a0 : Int} (h1 : 0 ≤ a0 ∧ a0 < σ 36 0 1 → K 1 σ) (h0 : ¬ (0 ≤ a0 ∧ a0 < σ 36 0 1) → K 0 σ) : Runs 1 mX11_isStreet 0 [zR 34 0, zI a0] [] σ (rI K) := gX11_isStreet_0 a0 σ ⟨h1, h0⟩
theorem pX11_isErrand {a0 : Int} (h1 : 0 ≤ a0 ∧ a0 < σ 36 0 2 → K 1 σ) (h0 : ¬ (0 ≤ a0 ∧ a0 < σ 36 0 2) → K 0 σ) : Runs 1 mX11_isErrand 0 [zR 34 0, zI a0] [] σ (rI K) := gX11_isErrand_0 a0 σ ⟨h1, h0⟩
theorem pX11_takes {a0 : Int} (c : 0 ≤ σ 34 0 8 ∧ σ 34 0 7 ≤ 64) (c2 : σ 34 0 8 ≤ 1000) (h1 : zsign σ = a0 → K 1 (zup σ 34 0 8 (σ 34 0 8 + 1))) (h0 : ¬ zsign σ = a0 → K 0 σ) : Runs 1 mX11_takes 0 [zR 34 0, zI a0] [] σ (rI K) := gX11_takes_0 a0 σ ⟨c, fun q => ⟨by omega, h1 q⟩, h0⟩
theorem pX11_wrongFew (h : K (zfew (σ 36 0 1)) σ) : Runs 0 mX11_wrongFew 0 [zR 34 0] [] σ (rI K) := by
  unfold zfew at h
  refine gX11_wrongFew_0 σ ⟨fun c => ⟨fun c2 => ?_, fun c2 => ?_⟩, fun c => ?_⟩
  · rw [if_neg (by omega), if_neg c2] at h; exact h
  · rw [if_neg (by omega), if_pos c2] at h; exact h
  · rw [if_pos (by omega)] at h; exact h
theorem pX10_refusalOfTrying (h : K (zfew (σ 1 0 1)) σ) : Runs 0 mX10_refusalOfTrying 0 [zR 0 0] [] σ (rI K) := by
  unfold zfew at h
  refine gX10_refusalOfTrying_0 σ ⟨fun c => ⟨fun c2 => ?_, fun c2 => ?_⟩, fun c => ?_⟩
  · rw [if_neg (by omega), if_neg c2] at h; exact h
  · rw [if_neg (by omega), if_pos c2] at h; exact h
  · rw [if_pos (by omega)] at h; exact h
theorem pX7_wayOf {t : Int} (h : K (tWay σ t) σ) : Runs 1 mX7_wayOf 0 [zR 16 0, zI t] [] σ (rI K) := by
  unfold tWay at h
  refine gX7_wayOf_0 t σ ⟨fun c => ⟨fun c2 => ?_, fun c2 => ?_⟩, fun c => ?_⟩
  · rw [if_neg c, if_neg c2] at h; exact h
  · rw [if_neg c, if_pos c2] at h; exact h
  · rw [if_pos c] at h; exact h
theorem pX10_refusalOfWay {f t m : Int} (h : K (zwrongWay (σ 1 0) f t m) σ) : Runs 1 mX10_refusalOfWay 0 [zR 0 0, zI f, zI t, zI m] [] σ (rI K) := by
  unfold zwrongWay at h
  refine gX10_refusalOfWay_0 f t m σ ⟨fun c => ⟨fun c2 => ?_, fun c2 => ?_⟩, fun c => ?_⟩
  · rw [if_pos ⟨c, c2⟩] at h; exact h
  · rw [if_neg (fun q => c2 q.2)] at h; exact h
  · rw [if_neg (fun q => c q.1)] at h; exact h
theorem pX6_areTwoCorners {t : Nat} {a b : Int} (h1 : (0 ≤ a ∧ a < σ 1 t 0) ∧ (0 ≤ b ∧ b < σ 1 t 0) ∧ a ≠ b → K 1 σ) (h0 : ¬ ((0 ≤ a ∧ a < σ 1 t 0) ∧ (0 ≤ b ∧ b < σ 1 t 0) ∧ a ≠ b) → K 0 σ) : Runs 1 mX6_areTwoCorners 0 [zR 1 t, zI a, zI b] [] σ (rI K) :=
  gX6_areTwoCorners_0 a b t σ ⟨fun c => ⟨fun c2 => ⟨fun c3 => h0 (fun q => q.2.2 c3), fun c3 => h1 ⟨c, c2, c3⟩⟩, fun c2 => h0 (fun q => c2 q.2.1)⟩, fun c => h0 (fun q => c q.1)⟩
theorem pX6_mustLets {t : Nat} {s b : Int} (c : 0 ≤ s ∧ s < 14) (h1 : σ 5 t s.toNat = 2 ∨ σ 5 t s.toNat = b → K 1 σ) (h0 : ¬ (σ 5 t s.toNat = 2 ∨ σ 5 t s.toNat = b) → K 0 σ) : Runs 0 mX6_mustLets 0 [zR 1 t, zI s, zI b] [] σ (rI K) :=
  gX6_mustLets_0 s b t σ ⟨c, fun q => h1 (Or.inl q), fun q => ⟨c, fun r => h0 (fun z => z.elim q r), fun r => h1 (Or.inr r)⟩⟩
theorem pX3_sign {a0 : Int} (c : σ 12 0 1 ≤ 64) (c2 : 0 ≤ σ 14 0 2 ∧ σ 14 0 2 ≤ 1000) (h1 : zbyte σ (σ 14 0 2) = a0 → K 1 (zup σ 14 0 2 (σ 14 0 2 + 1))) (h0 : ¬ zbyte σ (σ 14 0 2) = a0 → K 0 σ) : Runs 1 mX3_sign 0 [zR 14 0, zI a0] [] σ (rI K) := gX3_sign_0 a0 σ ⟨c, fun q => ⟨by omega, h1 q⟩, h0⟩
theorem pX2_otherEnd {t c : Int} (ht : 0 ≤ t ∧ t < 14) (h : K (zother σ t c) σ) : Runs 0 mX2_otherEnd 0 [zR 22 0, zI t, zI c] [] σ (rI K) := by
  unfold zother at h
  refine gX2_otherEnd_0 t c σ ⟨ht, fun c1 => ⟨ht, fun c2 => ?_, fun c2 => ⟨ht, ?_⟩⟩, fun c1 => ⟨ht, ?_⟩⟩
  · rw [if_neg c1, if_neg c2] at h; exact h
  · rw [if_neg c1, if_pos c2] at h; exact h
  · rw [if_pos c1] at h; exact h
theorem pX0_isApart {f t : Int} (cf : 0 ≤ f ∧ f < 10) (ct : 0 ≤ t ∧ t < 10) (h1 : f ≠ t ∧ 1000000 ≤ σ 21 f.toNat t.toNat → K 1 σ) (h0 : ¬ (f ≠ t ∧ 1000000 ≤ σ 21 f.toNat t.toNat) → K 0 σ) : Runs 0 mX0_isApart 0 [zR 19 0, zI f, zI t] [] σ (rI K) :=
  gX0_isApart_0 f t σ ⟨fun q => h0 (fun z => z.1 q), fun q => ⟨cf, ct, fun r => h0 (fun z => by omega), fun r => h1 ⟨q, by omega⟩⟩⟩
theorem pX0_layStep {f t w : Int} (cf : 0 ≤ f ∧ f < 10) (ct : 0 ≤ t ∧ t < 10) (h : K' (zup σ 21 f.toNat t.toNat (if w < σ 21 f.toNat t.toNat then w else σ 21 f.toNat t.toNat))) : Runs 1 mX0_layStep 0 [zR 19 0, zI f, zI t, zI w] [] σ (rV K') :=
  gX0_layStep_0 f t w σ ⟨cf, cf, ct, ct, fun σ1 e => by subst e; exact h⟩
theorem pX8_goAlong {s t e : Int} (cs : 0 ≤ s ∧ s < 14) (ct : 0 ≤ t ∧ t < 10) (ce : -9 ≤ e ∧ e ≤ 1000000) (cw : 0 ≤ σ 4 0 s.toNat ∧ σ 4 0 s.toNat ≤ 60) (h1 : e = -9 → K' σ) (h : e ≠ -9 → K' (zup σ 18 0 t.toNat (if e + σ 4 0 s.toNat < σ 18 0 t.toNat then e + σ 4 0 s.toNat else σ 18 0 t.toNat))) : Runs 1 mX8_goAlong 0 [zR 17 0, zI s, zI t, zI e] [] σ (rV K') :=
  gX8_goAlong_0 s t e σ ⟨h1, fun q => ⟨ct, cs, by omega, ct, fun σ1 e1 => by subst e1; exact h q⟩⟩
def tTake (σ : Hp) : Hp :=
  let σ1 := zup (zup (zup (zup σ 16 0 1 (σ 11 0 1)) 16 0 2 (σ 11 0 0)) 16 0 3 (σ 11 0 2)) 16 0 5 (σ 1 0 5)
  let σ2 := zup σ1 16 0 6 (tOpen σ1 0)
  zup σ2 16 0 4 (tBits σ2 (σ2 1 0 6))
theorem pX7_takeAsItIs (h : K' (tTake σ)) : Runs 1 mX7_takeAsItIs 0 [zR 16 0] [] σ (rV K') :=
  gX7_takeAsItIs_0 σ (fun σ1 e1 σ2 e2 σ3 e3 => by subst e1; subst e2; subst e3; exact h)
theorem pX1_drawBelow (h : K (zdraw (σ 25 0 2)) (zup σ 25 0 2 (zlcg (σ 25 0 2)))) : Runs 0 mX1_drawBelow 0 [zR 25 0, zI 1440] [] σ (rI K) :=
  gX1_drawBelow_0 1440 σ ⟨fun _ => ⟨by omega, fun z e => by subst e; exact h⟩, fun q => absurd (show (1 : Int) ≤ 1440 by omega) q⟩
theorem pX5_add {v : Int} (c : 0 ≤ σ 12 0 1 ∧ σ 12 0 1 < 64) (h : K' (zup (zup σ 13 0 (σ 12 0 1).toNat v) 12 0 1 (σ 12 0 1 + 1))) : Runs 0 mX5_add 0 [zR 12 0, zI v] [] σ (rV K') :=
  gX5_add_0 v σ ⟨fun q => absurd q (by omega), fun _ => ⟨c, by omega, h⟩⟩
theorem pX11_wayOf {t m : Int} (hw : WF (σ 36 0)) (ht : 0 ≤ t ∧ t < σ 36 0 1) (hm : 0 ≤ m ∧ m ≤ 1000000) (h : K (wayS (σ 36 0) t m) σ) : Runs 1 mX11_wayOf 0 [zR 34 0, zI t, zI m, zU, zU, zU] [] σ (rI K) := by
  have hw0 := hw
  obtain ⟨w0, w1, w2, w3, w4, w5, w6, w7, w8, w9, w10, wst, wer, wrow⟩ := hw
  have tail : ∀ b : Int, b = ebit (σ 36 0) t → ¬ (σ 36 0 8 = 4) → K ((ebit (σ 36 0) t + turnsS (σ 36 0) m) % 2) σ → Runs 1 mX11_wayOf 108 [zR 34 0, zU, zI m, zI (σ 36 0 8), zI b, zI (σ 36 0 7)] [] σ (rI K) := fun b hb r4 hK => by
    have b01 := ebit_01 (σ 36 0) t
    rw [← hb] at b01 hK
    unfold turnsS at hK
    rw [if_neg r4] at hK
    refine gX11_wayOf_108 m (σ 36 0 8) b (σ 36 0 7) σ ⟨fun c => ⟨fun c2 => ⟨by omega, ?_⟩, fun c2 => ?_⟩, fun c => ?_⟩
    · rw [if_neg (by omega), if_neg c2] at hK
      rw [show (b + 1) % 2 = 1 - b by omega] at hK
      exact hK
    · rw [if_neg (by omega), if_pos c2] at hK
      have q0 := Int.ediv_nonneg (show 0 ≤ m - σ 36 0 7 by omega) (show 0 ≤ σ 36 0 9 by omega)
      have q1 := Int.ediv_le_self (σ 36 0 9) (show 0 ≤ m - σ 36 0 7 by omega)
      have hd : zdiv (m - σ 36 0 7) (σ 36 0 9) = (m - σ 36 0 7) / σ 36 0 9 := n32_quot ⟨by omega, by omega⟩ ⟨by omega, by omega⟩ (by omega) (by omega)
      rw [hd]
      refine ⟨by omega, by omega, by omega, by omega, ?_⟩
      have hr : zrem (b + 1 + (m - σ 36 0 7) / σ 36 0 9) 2 = (b + 1 + (m - σ 36 0 7) / σ 36 0 9) % 2 := zrem_eq ⟨by omega, by omega⟩ ⟨by omega, by omega⟩ (by omega) (by omega)
      rw [show b + (1 + (m - σ 36 0 7) / σ 36 0 9) = b + 1 + (m - σ 36 0 7) / σ 36 0 9 by omega, ← hr] at hK
      exact hK
    · rw [if_pos (by omega), show (b + 0) % 2 = b by omega] at hK
      exact hK
  have mid : K ((ebit (σ 36 0) t + turnsS (σ 36 0) m) % 2) σ → Runs 1 mX11_wayOf 55 [zR 34 0, zI t, zI m, zI (σ 36 0 8), zU, zU] [] σ (rI K) := fun hK => by
    have hr : zrem (σ 36 0 10) 2 = σ 36 0 10 % 2 := zrem_eq ⟨by omega, by omega⟩ ⟨by omega, by omega⟩ (by omega) (by omega)
    have bb := bitz_01 (σ 36 0 3) t
    refine gX11_wayOf_55 t m (σ 36 0 8) σ ⟨fun c4 => ⟨fun c3 => ?_, fun c3 => ⟨fun cd => ?_, fun cd => ⟨by omega, ?_⟩⟩⟩, fun c4 => ?_⟩
    · exact tail _ (by unfold ebit; rw [if_neg (fun q => c3 q.1)]) c4 hK
    · rw [hr] at cd
      exact tail _ (by unfold ebit; rw [if_neg (fun q => cd q.2)]) c4 hK
    · rw [hr] at cd
      exact tail _ (by unfold ebit; rw [if_pos ⟨c3, cd⟩]) c4 hK
    · unfold turnsS at hK
      rw [if_pos c4] at hK
      have he : ebit (σ 36 0) t = bitz (σ 36 0 3) t := by unfold ebit; rw [if_neg (fun q => by omega)]
      rw [he, show (bitz (σ 36 0 3) t + 0) % 2 = bitz (σ 36 0 3) t by omega] at hK
      exact hK
  unfold wayS at h
  refine gX11_wayOf_0 t m σ ⟨fun c => ⟨fun c2 => ?_, fun c2 => ⟨fun c3 => ?_, fun c3 => ⟨by omega, fun c5 => ?_, fun c5 => ?_⟩⟩⟩, fun c => ?_⟩
  · rw [if_neg c, if_pos (Or.inl c2)] at h; exact h
  · rw [if_neg c, if_neg (fun q => q.elim c2 (fun z => c3 z.1))] at h; exact mid h
  · rw [if_neg c, if_neg (fun q => q.elim c2 (fun z => c5 z.2))] at h; exact mid h
  · rw [if_neg c, if_pos (Or.inr ⟨c3, c5⟩)] at h; exact h
  · rw [if_pos c] at h; exact h
end Small2
end
section
theorem gX11_goesFrom_0 (a0 : Int) (a1 : Int) (a2 : Int) (σ : Hp) {Q : Option Int → Hp → Prop} (h : (WF (σ 36 0)) ∧ (0 ≤ a0 ∧ a0 < σ 36 0 1) ∧ (0 ≤ a2 ∧ a2 ≤ 1000000) ∧ ((wayS (σ 36 0) a0 a2 = 2 → Q (some 1) σ) ∧ (¬ wayS (σ 36 0) a0 a2 = 2 → ((¬ wayS (σ 36 0) a0 a2 = a1 → Q (some 0) σ) ∧ (wayS (σ 36 0) a0 a2 = a1 → Q (some 1) σ))))) : Runs 2 mX11_goesFrom 0 [zR 34 0, zI a0, zI a1, zI a2, zU] [] σ Q := by
  refine r_blk [qO (.aload_n 0), qO (.iload_n 1), qO (.iload_n 3)] (pc' := 3) (L' := [zR 34 0, zI a0, zI a1, zI a2, zU]) (S' := [zI a2, zI a0, zR 34 0]) (σ' := σ) (Ps := []) (by decide +kernel) rfl trivial ?_
  refine r_callVI (As := [zI a0, zI a2]) (S := []) (Lc := [zR 34 0, zI a0, zI a2, zU, zU, zU]) (d' := 1) (n := 2) (g := 34) (x := 0) (ci := 11) kX11_wayOf vX11_wayOf lkX11_126 (by decide +kernel) (by decide) rfl rfl (by decide) rfl rfl (Nat.le_of_ble_eq_true rfl) rfl rfl (Nat.le_of_ble_eq_true rfl) (pX11_wayOf h.1 h.2.1 h.2.2.1 ?_)
  replace h := h.2.2.2
  refine r_blk [qO (.istore 4), qO (.iload 4), qO (.iconst 2)] (pc' := 11) (L' := [zR 34 0, zI a0, zI a1, zI a2, zI (wayS (σ 36 0) a0 a2)]) (S' := [zI 2, zI (wayS (σ 36 0) a0 a2)]) (σ' := σ) (Ps := []) (by decide +kernel) rfl trivial ?_
  refine r_icmp_eq (off := 9) (tgt := 20) (by decide +kernel) (by decide) (fun c => ?_) (fun c => ?_)
  · replace h := h.1 c
    refine r_blk [qO (.iconst 1), qO (.goto 4)] (pc' := 25) (L' := [zR 34 0, zI a0, zI a1, zI a2, zI (wayS (σ 36 0) a0 a2)]) (S' := [zI 1]) (σ' := σ) (Ps := []) (by decide +kernel) rfl trivial ?_
    exact r_retz (by decide +kernel) rfl (by decide) h
  · replace h := h.2 c
    refine r_blk [qO (.iload 4), qO (.iload_n 2)] (pc' := 17) (L' := [zR 34 0, zI a0, zI a1, zI a2, zI (wayS (σ 36 0) a0 a2)]) (S' := [zI a1, zI (wayS (σ 36 0) a0 a2)]) (σ' := σ) (Ps := []) (by decide +kernel) rfl trivial ?_
    refine r_icmp_ne (off := 7) (tgt := 24) (by decide +kernel) (by decide) (fun c => ?_) (fun c => ?_)
    · replace h := h.1 c
      refine r_blk [qO (.iconst 0)] (pc' := 25) (L' := [zR 34 0, zI a0, zI a1, zI a2, zI (wayS (σ 36 0) a0 a2)]) (S' := [zI 0]) (σ' := σ) (Ps := []) (by decide +kernel) rfl trivial ?_
      exact r_retz (by decide +kernel) rfl (by decide) h
    · replace h := h.2 c
      refine r_blk [qO (.iconst 1), qO (.goto 4)] (pc' := 25) (L' := [zR 34 0, zI a0, zI a1, zI a2, zI (wayS (σ 36 0) a0 a2)]) (S' := [zI 1]) (σ' := σ) (Ps := []) (by decide +kernel) rfl trivial ?_
      exact r_retz (by decide +kernel) rfl (by decide) h
end
section
theorem pX11_goesFrom {σ : Hp} {K : Int → Hp → Prop} {t e m : Int} (hw : WF (σ 36 0)) (ht : 0 ≤ t ∧ t < σ 36 0 1) (hm : 0 ≤ m ∧ m ≤ 1000000) (h1 : wayS (σ 36 0) t m = 2 ∨ wayS (σ 36 0) t m = e → K 1 σ) (h0 : ¬ (wayS (σ 36 0) t m = 2 ∨ wayS (σ 36 0) t m = e) → K 0 σ) : Runs 2 mX11_goesFrom 0 [zR 34 0, zI t, zI e, zI m, zU] [] σ (rI K) :=
  gX11_goesFrom_0 t e m σ ⟨hw, ht, hm, fun c => h1 (Or.inl c), fun c => ⟨fun c2 => h0 (fun z => z.elim c c2), fun c2 => h1 (Or.inr c2)⟩⟩
end
section
theorem gX11_enters_0 (a0 : Int) (a1 : Int) (a2 : Int) (σ : Hp) {Q : Option Int → Hp → Prop} (h : ((bitz (σ 36 0 4) a0 = 1 → Q (some (-9)) σ) ∧ (¬ bitz (σ 36 0 4) a0 = 1 → ((a2 ≤ 2879 → (WF (σ 36 0)) ∧ (0 ≤ a0 ∧ a0 < σ 36 0 1) ∧ (0 ≤ a2 ∧ a2 ≤ 1000000) ∧ ((wayS (σ 36 0) a0 a2 = 2 ∨ wayS (σ 36 0) a0 a2 = a1 → Q (some a2) σ) ∧ (¬ (wayS (σ 36 0) a0 a2 = 2 ∨ wayS (σ 36 0) a0 a2 = a1) → ((σ 36 0 8 = 4 → Q (some (-9)) σ) ∧ (¬ σ 36 0 8 = 4 → ((a2 < σ 36 0 7 → Runs 3 mX11_enters 76 [zR 34 0, zU, zU, zI a2, zI (σ 36 0 7), zU] [] σ Q) ∧ (¬ a2 < σ 36 0 7 → ((σ 36 0 8 = 2 → Runs 3 mX11_enters 76 [zR 34 0, zU, zU, zI a2, zI (σ 36 0 7), zU] [] σ Q) ∧ (¬ σ 36 0 8 = 2 → Q (some (-9)) σ))))))))) ∧ (¬ a2 ≤ 2879 → Q (some (-9)) σ))))) : Runs 3 mX11_enters 0 [zR 34 0, zI a0, zI a1, zI a2, zU, zU] [] σ Q := by
  refine r_blk [qO (.aload_n 0), qF (.getfield 13) 11 1, qO (.iconst 4), qO .iaload, qO (.iload_n 1), qO .ishr, qO (.iconst 1), qO .iand, qO (.iconst 1)] (pc' := 11) (L' := [zR 34 0, zI a0, zI a1, zI a2, zU, zU]) (S' := [zI 1, zI (bitz (σ 36 0 4) a0)]) (σ' := σ) (Ps := [0 ≤ 4 ∧ 4 < 123]) (by decide +kernel) rfl ⟨(by decide), trivial⟩ ?_
  refine r_icmp_eq (off := 10) (tgt := 21) (by decide +kernel) (by decide) (fun c => ?_) (fun c => ?_)
  · replace h := h.1 c
    refine r_blk [qO (.bipush (-9))] (pc' := 23) (L' := [zR 34 0, zI a0, zI a1, zI a2, zU, zU]) (S' := [zI (-9)]) (σ' := σ) (Ps := []) (by decide +kernel) rfl trivial ?_
    exact r_ret (by decide +kernel) rfl (fun _ => h)
  · replace h := h.2 c
    refine r_blk [qO (.iload_n 3), qO (.sipush 2879)] (pc' := 18) (L' := [zR 34 0, zI a0, zI a1, zI a2, zU, zU]) (S' := [zI 2879, zI a2]) (σ' := σ) (Ps := []) (by decide +kernel) rfl trivial ?_
    refine r_icmp_le (off := 6) (tgt := 24) (by decide +kernel) (by decide) (fun c => ?_) (fun c => ?_)
    · replace h := h.1 c
      refine r_blk [qO (.aload_n 0), qO (.iload_n 1), qO (.iload_n 2), qO (.iload_n 3)] (pc' := 28) (L' := [zR 34 0, zI a0, zI a1, zI a2, zU, zU]) (S' := [zI a2, zI a1, zI a0, zR 34 0]) (σ' := σ) (Ps := []) (by decide +kernel) rfl trivial ?_
      refine r_callVI (As := [zI a0, zI a1, zI a2]) (S := []) (Lc := [zR 34 0, zI a0, zI a1, zI a2, zU]) (d' := 2) (n := 3) (g := 34) (x := 0) (ci := 11) kX11_goesFrom vX11_goesFrom lkX11_129 (by decide +kernel) (by decide) rfl rfl (by decide) rfl rfl (Nat.le_of_ble_eq_true rfl) rfl rfl (Nat.le_of_ble_eq_true rfl) (pX11_goesFrom h.1 h.2.1 h.2.2.1 (fun c => ?_) (fun c => ?_))
      all_goals replace h := h.2.2.2
      · replace h := h.1 c
        refine r_if_eq (off := 5) (tgt := 36) (by decide +kernel) (by decide) (fun c => ?_) (fun c => ?_)
        · exact absurd c (by decide)
        · refine r_blk [qO (.iload_n 3)] (pc' := 35) (L' := [zR 34 0, zI a0, zI a1, zI a2, zU, zU]) (S' := [zI a2]) (σ' := σ) (Ps := []) (by decide +kernel) rfl trivial ?_
          exact r_ret (by decide +kernel) rfl (fun _ => h)
      · replace h := h.2 c
        refine r_if_eq (off := 5) (tgt := 36) (by decide +kernel) (by decide) (fun c => ?_) (fun c => ?_)
        · refine r_blk [qO (.aload_n 0), qF (.getfield 13) 11 1, qO (.bipush 7), qO .iaload, qO (.istore 4), qO (.aload_n 0), qF (.getfield 13) 11 1, qO (.bipush 8), qO .iaload, qO (.iconst 4)] (pc' := 53) (L' := [zR 34 0, zI a0, zI a1, zI a2, zI (σ 36 0 7), zU]) (S' := [zI 4, zI (σ 36 0 8)]) (σ' := σ) (Ps := [0 ≤ 7 ∧ 7 < 123, 0 ≤ 8 ∧ 8 < 123]) (by decide +kernel) rfl ⟨(by decide), (by decide), trivial⟩ ?_
          refine r_icmp_eq (off := 20) (tgt := 73) (by decide +kernel) (by decide) (fun c => ?_) (fun c => ?_)
          · replace h := h.1 c
            refine r_blk [qO (.bipush (-9))] (pc' := 75) (L' := [zR 34 0, zI a0, zI a1, zI a2, zI (σ 36 0 7), zU]) (S' := [zI (-9)]) (σ' := σ) (Ps := []) (by decide +kernel) rfl trivial ?_
            exact r_ret (by decide +kernel) rfl (fun _ => h)
          · replace h := h.2 c
            refine r_blk [qO (.iload_n 3), qO (.iload 4)] (pc' := 59) (L' := [zR 34 0, zI a0, zI a1, zI a2, zI (σ 36 0 7), zU]) (S' := [zI (σ 36 0 7), zI a2]) (σ' := σ) (Ps := []) (by decide +kernel) rfl trivial ?_
            refine r_icmp_lt (off := 17) (tgt := 76) (by decide +kernel) (by decide) (fun c => ?_) (fun c => ?_)
            · replace h := h.1 c
              exact Runs.fg (fgE (fgU (fgU (fgE (fgE (fgU fg0)))))) h
            · replace h := h.2 c
              refine r_blk [qO (.aload_n 0), qF (.getfield 13) 11 1, qO (.bipush 8), qO .iaload, qO (.iconst 2)] (pc' := 70) (L' := [zR 34 0, zI a0, zI a1, zI a2, zI (σ 36 0 7), zU]) (S' := [zI 2, zI (σ 36 0 8)]) (σ' := σ) (Ps := [0 ≤ 8 ∧ 8 < 123]) (by decide +kernel) rfl ⟨(by decide), trivial⟩ ?_
              refine r_icmp_eq (off := 6) (tgt := 76) (by decide +kernel) (by decide) (fun c => ?_) (fun c => ?_)
              · replace h := h.1 c
                exact Runs.fg (fgE (fgU (fgU (fgE (fgE (fgU fg0)))))) h
              · replace h := h.2 c
                refine r_blk [qO (.bipush (-9))] (pc' := 75) (L' := [zR 34 0, zI a0, zI a1, zI a2, zI (σ 36 0 7), zU]) (S' := [zI (-9)]) (σ' := σ) (Ps := []) (by decide +kernel) rfl trivial ?_
                exact r_ret (by decide +kernel) rfl (fun _ => h)
        · exact absurd c (by decide)
    · replace h := h.2 c
      refine r_blk [qO (.bipush (-9))] (pc' := 23) (L' := [zR 34 0, zI a0, zI a1, zI a2, zU, zU]) (S' := [zI (-9)]) (σ' := σ) (Ps := []) (by decide +kernel) rfl trivial ?_
      exact r_ret (by decide +kernel) rfl (fun _ => h)
theorem gX11_enters_76 (l3 : Int) (l4 : Int) (σ : Hp) {Q : Option Int → Hp → Prop} (h : ((l4 ≤ l3 → (-2147483648 ≤ l3 - l4 ∧ l3 - l4 ≤ 2147483647) ∧ (σ 36 0 9 ≠ 0) ∧ (-2147483648 ≤ (zdiv (l3 - l4) (σ 36 0 9)) + 1 ∧ (zdiv (l3 - l4) (σ 36 0 9)) + 1 ≤ 2147483647) ∧ (-2147483648 ≤ ((zdiv (l3 - l4) (σ 36 0 9)) + 1) * (σ 36 0 9) ∧ ((zdiv (l3 - l4) (σ 36 0 9)) + 1) * (σ 36 0 9) ≤ 2147483647) ∧ (-2147483648 ≤ l4 + (((zdiv (l3 - l4) (σ 36 0 9)) + 1) * (σ 36 0 9)) ∧ l4 + (((zdiv (l3 - l4) (σ 36 0 9)) + 1) * (σ 36 0 9)) ≤ 2147483647) ∧ ((2879 < l4 + (((zdiv (l3 - l4) (σ 36 0 9)) + 1) * (σ 36 0 9)) → Q (some (-9)) σ) ∧ (¬ 2879 < l4 + (((zdiv (l3 - l4) (σ 36 0 9)) + 1) * (σ 36 0 9)) → Q (some (l4 + (((zdiv (l3 - l4) (σ 36 0 9)) + 1) * (σ 36 0 9)))) σ))) ∧ (¬ l4 ≤ l3 → ((2879 < l4 → Q (some (-9)) σ) ∧ (¬ 2879 < l4 → Q (some l4) σ))))) : Runs 3 mX11_enters 76 [zR 34 0, zU, zU, zI l3, zI l4, zU] [] σ Q := by
  refine r_blk [qO (.iload_n 3), qO (.iload 4)] (pc' := 79) (L' := [zR 34 0, zU, zU, zI l3, zI l4, zU]) (S' := [zI l4, zI l3]) (σ' := σ) (Ps := []) (by decide +kernel) rfl trivial ?_
  refine r_icmp_ge (off := 8) (tgt := 87) (by decide +kernel) (by decide) (fun c => ?_) (fun c => ?_)
  · replace h := h.1 c
    refine r_blk [qO (.iload 4), qO (.iload_n 3), qO (.iload 4), qO .isub, qO (.aload_n 0), qF (.getfield 13) 11 1, qO (.bipush 9), qO .iaload, qO .idiv, qO (.iconst 1), qO .iadd, qO (.aload_n 0), qF (.getfield 13) 11 1, qO (.bipush 9), qO .iaload, qO .imul, qO .iadd, qO (.istore 5), qO (.iload 5), qO (.sipush 2879)] (pc' := 119) (L' := [zR 34 0, zU, zU, zI l3, zI l4, zI (l4 + (((zdiv (l3 - l4) (σ 36 0 9)) + 1) * (σ 36 0 9)))]) (S' := [zI 2879, zI (l4 + (((zdiv (l3 - l4) (σ 36 0 9)) + 1) * (σ 36 0 9)))]) (σ' := σ) (Ps := [-2147483648 ≤ l3 - l4 ∧ l3 - l4 ≤ 2147483647, 0 ≤ 9 ∧ 9 < 123, σ 36 0 9 ≠ 0, -2147483648 ≤ (zdiv (l3 - l4) (σ 36 0 9)) + 1 ∧ (zdiv (l3 - l4) (σ 36 0 9)) + 1 ≤ 2147483647, 0 ≤ 9 ∧ 9 < 123, -2147483648 ≤ ((zdiv (l3 - l4) (σ 36 0 9)) + 1) * (σ 36 0 9) ∧ ((zdiv (l3 - l4) (σ 36 0 9)) + 1) * (σ 36 0 9) ≤ 2147483647, -2147483648 ≤ l4 + (((zdiv (l3 - l4) (σ 36 0 9)) + 1) * (σ 36 0 9)) ∧ l4 + (((zdiv (l3 - l4) (σ 36 0 9)) + 1) * (σ 36 0 9)) ≤ 2147483647]) (by decide +kernel) rfl ⟨h.1, (by decide), h.2.1, h.2.2.1, (by decide), h.2.2.2.1, h.2.2.2.2.1, trivial⟩ ?_
    replace h := h.2.2.2.2.2
    refine r_icmp_gt (off := 8) (tgt := 127) (by decide +kernel) (by decide) (fun c => ?_) (fun c => ?_)
    · replace h := h.1 c
      refine r_blk [qO (.bipush (-9))] (pc' := 129) (L' := [zR 34 0, zU, zU, zI l3, zI l4, zI (l4 + (((zdiv (l3 - l4) (σ 36 0 9)) + 1) * (σ 36 0 9)))]) (S' := [zI (-9)]) (σ' := σ) (Ps := []) (by decide +kernel) rfl trivial ?_
      exact r_ret (by decide +kernel) rfl (fun _ => h)
    · replace h := h.2 c
      refine r_blk [qO (.iload 5), qO (.goto 5)] (pc' := 129) (L' := [zR 34 0, zU, zU, zI l3, zI l4, zI (l4 + (((zdiv (l3 - l4) (σ 36 0 9)) + 1) * (σ 36 0 9)))]) (S' := [zI (l4 + (((zdiv (l3 - l4) (σ 36 0 9)) + 1) * (σ 36 0 9)))]) (σ' := σ) (Ps := []) (by decide +kernel) rfl trivial ?_
      exact r_ret (by decide +kernel) rfl (fun _ => h)
  · replace h := h.2 c
    refine r_blk [qO (.iload 4), qO (.goto 28), qO (.istore 5), qO (.iload 5), qO (.sipush 2879)] (pc' := 119) (L' := [zR 34 0, zU, zU, zI l3, zI l4, zI l4]) (S' := [zI 2879, zI l4]) (σ' := σ) (Ps := []) (by decide +kernel) rfl trivial ?_
    refine r_icmp_gt (off := 8) (tgt := 127) (by decide +kernel) (by decide) (fun c => ?_) (fun c => ?_)
    · replace h := h.1 c
      refine r_blk [qO (.bipush (-9))] (pc' := 129) (L' := [zR 34 0, zU, zU, zI l3, zI l4, zI l4]) (S' := [zI (-9)]) (σ' := σ) (Ps := []) (by decide +kernel) rfl trivial ?_
      exact r_ret (by decide +kernel) rfl (fun _ => h)
    · replace h := h.2 c
      refine r_blk [qO (.iload 5), qO (.goto 5)] (pc' := 129) (L' := [zR 34 0, zU, zU, zI l3, zI l4, zI l4]) (S' := [zI l4]) (σ' := σ) (Ps := []) (by decide +kernel) rfl trivial ?_
      exact r_ret (by decide +kernel) rfl (fun _ => h)
theorem gX11_wrongWay_0 (a0 : Int) (a1 : Int) (a2 : Int) (σ : Hp) {Q : Option Int → Hp → Prop} (h : ((0 ≤ a0 ∧ a0 < σ 36 0 0 → ((0 ≤ a1 ∧ a1 < σ 36 0 0 → Q (some (zwithin a2 0 2879)) σ) ∧ (¬ (0 ≤ a1 ∧ a1 < σ 36 0 0) → Q (some (-1)) σ))) ∧ (¬ (0 ≤ a0 ∧ a0 < σ 36 0 0) → Q (some (-1)) σ))) : Runs 2 mX11_wrongWay 0 [zR 34 0, zI a0, zI a1, zI a2] [] σ Q := by
  refine r_blk [qO (.aload_n 0), qO (.iload_n 1)] (pc' := 2) (L' := [zR 34 0, zI a0, zI a1, zI a2]) (S' := [zI a0, zR 34 0]) (σ' := σ) (Ps := []) (by decide +kernel) rfl trivial ?_
  refine r_callVI (As := [zI a0]) (S := []) (Lc := [zR 34 0, zI a0]) (d' := 1) (n := 1) (g := 34) (x := 0) (ci := 11) kX11_isCorner vX11_isCorner lkX11_136 (by decide +kernel) (by decide) rfl rfl (by decide) rfl rfl (Nat.le_of_ble_eq_true rfl) rfl rfl (Nat.le_of_ble_eq_true rfl) (pX11_isCorner  (fun c => ?_) (fun c => ?_))
  · replace h := h.1 c
    refine r_if_eq (off := 22) (tgt := 27) (by decide +kernel) (by decide) (fun c => ?_) (fun c => ?_)
    · exact absurd c (by decide)
    · refine r_blk [qO (.aload_n 0), qO (.iload_n 2)] (pc' := 10) (L' := [zR 34 0, zI a0, zI a1, zI a2]) (S' := [zI a1, zR 34 0]) (σ' := σ) (Ps := []) (by decide +kernel) rfl trivial ?_
      refine r_callVI (As := [zI a1]) (S := []) (Lc := [zR 34 0, zI a1]) (d' := 1) (n := 1) (g := 34) (x := 0) (ci := 11) kX11_isCorner vX11_isCorner lkX11_136 (by decide +kernel) (by decide) rfl rfl (by decide) rfl rfl (Nat.le_of_ble_eq_true rfl) rfl rfl (Nat.le_of_ble_eq_true rfl) (pX11_isCorner  (fun c => ?_) (fun c => ?_))
      · replace h := h.1 c
        refine r_if_eq (off := 14) (tgt := 27) (by decide +kernel) (by decide) (fun c => ?_) (fun c => ?_)
        · exact absurd c (by decide)
        · refine r_blk [qO (.iload_n 3), qO (.iconst 0), qO (.sipush 2879)] (pc' := 21) (L' := [zR 34 0, zI a0, zI a1, zI a2]) (S' := [zI 2879, zI 0, zI a2]) (σ' := σ) (Ps := []) (by decide +kernel) rfl trivial ?_
          refine r_callSI (As := [zI a2, zI 0, zI 2879]) (S := []) (Lc := [zI a2, zI 0, zI 2879]) (d' := 0) (n := 3) kX11_within vX11_within lkX11_119 (by decide +kernel) (by decide) rfl rfl (Nat.le_of_ble_eq_true rfl) rfl rfl (Nat.le_of_ble_eq_true rfl) (pX11_within  ?_)
          refine r_blk [qO (.goto 4)] (pc' := 28) (L' := [zR 34 0, zI a0, zI a1, zI a2]) (S' := [zI (zwithin a2 0 2879)]) (σ' := σ) (Ps := []) (by decide +kernel) rfl trivial ?_
          exact r_ret (by decide +kernel) rfl (fun _ => h)
      · replace h := h.2 c
        refine r_if_eq (off := 14) (tgt := 27) (by decide +kernel) (by decide) (fun c => ?_) (fun c => ?_)
        · refine r_blk [qO (.iconst (-1))] (pc' := 28) (L' := [zR 34 0, zI a0, zI a1, zI a2]) (S' := [zI (-1)]) (σ' := σ) (Ps := []) (by decide +kernel) rfl trivial ?_
          exact r_ret (by decide +kernel) rfl (fun _ => h)
        · exact absurd c (by decide)
  · replace h := h.2 c
    refine r_if_eq (off := 22) (tgt := 27) (by decide +kernel) (by decide) (fun c => ?_) (fun c => ?_)
    · refine r_blk [qO (.iconst (-1))] (pc' := 28) (L' := [zR 34 0, zI a0, zI a1, zI a2]) (S' := [zI (-1)]) (σ' := σ) (Ps := []) (by decide +kernel) rfl trivial ?_
      exact r_ret (by decide +kernel) rfl (fun _ => h)
    · exact absurd c (by decide)
end
section
theorem turnS_late {s : Nat → Int} (hw : WF s) {m : Int} (hm : 0 ≤ m ∧ m ≤ 1000000) (h7 : s 7 ≤ m) : 0 ≤ (m - s 7) / s 9 ∧ (m - s 7) / s 9 ≤ m - s 7 ∧ ((m - s 7) / s 9 + 1) * s 9 = s 9 + (m - s 7) / s 9 * s 9 ∧ 0 ≤ (m - s 7) / s 9 * s 9 ∧ (m - s 7) / s 9 * s 9 ≤ m - s 7 ∧ m - s 7 < s 9 + (m - s 7) / s 9 * s 9 := by
  obtain ⟨w0, w1, w2, w3, w4, w5, w6, w7, w8, w9, -⟩ := hw
  have q0 := Int.ediv_nonneg (show 0 ≤ m - s 7 by omega) (show 0 ≤ s 9 by omega)
  refine ⟨q0, Int.ediv_le_self _ (by omega), by rw [Int.add_mul, Int.one_mul, Int.add_comm], Int.mul_nonneg q0 (by omega), Int.ediv_mul_le _ (by omega), ?_⟩
  have := Int.lt_ediv_add_one_mul_self (m - s 7) (show 0 < s 9 by omega)
  rw [Int.add_mul, Int.one_mul] at this
  omega
theorem pX11_enters {σ : Hp} {K : Int → Hp → Prop} {t e m : Int} (hw : WF (σ 36 0)) (ht : 0 ≤ t ∧ t < σ 36 0 1) (hm : 0 ≤ m ∧ m ≤ 1000000) (he : e = 0 ∨ e = 1) (h : K (entS (σ 36 0) t e m) σ) : Runs 3 mX11_enters 0 [zR 34 0, zI t, zI e, zI m, zU, zU] [] σ (rI K) := by
  have hw0 := hw
  obtain ⟨w0, w1, w2, w3, w4, w5, w6, w7, w8, w9, w10, -⟩ := hw
  unfold entS at h
  have tail : ¬ (σ 36 0 8 = 4) → (m < σ 36 0 7 ∨ σ 36 0 8 = 2) → K (nextS (σ 36 0) m) σ → Runs 3 mX11_enters 76 [zR 34 0, zU, zU, zI m, zI (σ 36 0 7), zU] [] σ (rI K) := fun r4 hr hK => by
    unfold nextS turnS at hK
    rw [if_neg r4] at hK
    refine gX11_enters_76 m (σ 36 0 7) σ ⟨fun c => ?_, fun c => ⟨fun c2 => absurd c2 (by omega), fun c2 => ?_⟩⟩
    · have r2 : σ 36 0 8 = 2 := hr.resolve_left (by omega)
      rw [if_neg (show ¬ m < σ 36 0 7 by omega), if_pos r2] at hK
      obtain ⟨q0, q1, q2, q3, q4, q5⟩ := turnS_late hw0 hm c
      have hd : zdiv (m - σ 36 0 7) (σ 36 0 9) = (m - σ 36 0 7) / σ 36 0 9 := n32_quot ⟨by omega, by omega⟩ ⟨by omega, by omega⟩ (by omega) (by omega)
      rw [hd, q2]
      rw [show (1 + (m - σ 36 0 7) / σ 36 0 9) * σ 36 0 9 = σ 36 0 9 + (m - σ 36 0 7) / σ 36 0 9 * σ 36 0 9 by rw [← q2, Int.add_comm]] at hK
      refine ⟨by omega, by omega, by omega, by omega, by omega, fun c2 => ?_, fun c2 => ?_⟩
      · rw [if_neg (by omega)] at hK; exact hK
      · rw [if_pos (by omega)] at hK; exact hK
    · rw [if_pos (show m < σ 36 0 7 by omega), if_pos (by omega)] at hK
      exact hK
  have nn : σ 36 0 8 = 4 ∨ (¬ m < σ 36 0 7 ∧ ¬ σ 36 0 8 = 2) → nextS (σ 36 0) m = -9 := fun q => by
    unfold nextS turnS
    rcases q with q | ⟨q1, q2⟩
    · rw [if_pos q]; rfl
    · rw [if_neg q1, if_neg q2]
      split <;> rfl
  refine gX11_enters_0 t e m σ ⟨fun c => ?_, fun c => ⟨fun c2 => ⟨hw0, ht, hm, fun c3 => ?_, fun c3 => ⟨fun c4 => ?_, fun c4 => ⟨fun c5 => ?_, fun c5 => ⟨fun c6 => ?_, fun c6 => ?_⟩⟩⟩⟩, fun c2 => ?_⟩⟩
  · rw [if_pos (Or.inl c)] at h; exact h
  · rw [if_neg (by omega), if_pos c3] at h; exact h
  · rw [if_neg (by omega), if_neg c3, nn (Or.inl c4)] at h; exact h
  · rw [if_neg (by omega), if_neg c3] at h; exact tail c4 (Or.inl c5) h
  · rw [if_neg (by omega), if_neg c3] at h; exact tail c4 (Or.inr c6) h
  · rw [if_neg (by omega), if_neg c3, nn (Or.inr ⟨c5, c6⟩)] at h; exact h
  · rw [if_pos (Or.inr (by omega))] at h; exact h
theorem pX11_wrongWay {σ : Hp} {K : Int → Hp → Prop} {f t m : Int} (h : K (zwrongWay (σ 36 0) f t m) σ) : Runs 2 mX11_wrongWay 0 [zR 34 0, zI f, zI t, zI m] [] σ (rI K) := by
  unfold zwrongWay at h
  refine gX11_wrongWay_0 f t m σ ⟨fun c => ⟨fun c2 => ?_, fun c2 => ?_⟩, fun c => ?_⟩
  · rw [if_pos ⟨c, c2⟩] at h; exact h
  · rw [if_neg (fun q => c2 q.2)] at h; exact h
  · rw [if_neg (fun q => c q.1)] at h; exact h
/-! who comes sooner never leaves later -/
theorem wayS_val {s : Nat → Int} {t m : Int} (h2 : ¬ bitz (s 4) t = 1) (h3 : ¬ (bitz (s 5) t = 1 ∨ (s 8 = 1 ∧ sg s t 3 = 1))) : wayS s t m = (ebit s t + turnsS s m) % 2 := by
  unfold wayS
  rw [if_neg h2, if_neg h3]
theorem entS_ge {s : Nat → Int} (hw : WF s) {t e m : Int} (hm : 0 ≤ m) (h : entS s t e m ≠ -9) : m ≤ entS s t e m ∧ entS s t e m ≤ 2879 ∧ m ≤ 2879 := by
  have hw0 := hw
  obtain ⟨w0, w1, w2, w3, w4, w5, w6, w7, w8, w9, w10, -⟩ := hw
  unfold entS at h ⊢
  split at h
  · exact absurd rfl h
  · rename_i hc
    rw [if_neg hc]
    split at h
    · rename_i hc2
      rw [if_pos hc2]
      omega
    · rename_i hc2
      rw [if_neg hc2]
      unfold nextS at h ⊢
      split at h
      · rename_i hc3
        rw [if_pos hc3]
        refine ⟨?_, hc3, by omega⟩
        unfold turnS at h ⊢
        split at h
        · exact absurd rfl h
        · rename_i r4
          rw [if_neg r4]
          split at h
          · rename_i c7
            rw [if_pos c7]; omega
          · rename_i c7
            rw [if_neg c7]
            split at h
            · rename_i r2
              rw [if_pos r2]
              obtain ⟨q0, q1, q2, q3, q4, q5⟩ := turnS_late hw0 (m := m) ⟨hm, by omega⟩ (by omega)
              rw [Int.add_comm 1, q2]
              omega
            · exact absurd rfl h
      · exact absurd rfl h
theorem div_same {a b P : Int} (hP : 0 < P) (h1 : a ≤ b) (h2 : b < P + a / P * P) : b / P = a / P := by
  have e1 := Int.ediv_le_ediv hP h1
  have e2 : b / P < a / P + 1 := Int.ediv_lt_of_lt_mul hP (by rw [Int.add_mul, Int.one_mul]; omega)
  omega
/-- between two turns nothing changes -/
theorem turn_same {s : Nat → Int} (hw : WF s) {m m' : Int} (hm : 0 ≤ m ∧ m ≤ m' ∧ m' ≤ 2879) (ht : turnS s m = -9 ∨ m' < turnS s m) : turnsS s m' = turnsS s m ∧ turnS s m' = turnS s m := by
  have hw0 := hw
  obtain ⟨w0, w1, w2, w3, w4, w5, w6, w7, w8, w9, w10, -⟩ := hw
  unfold turnsS turnS at *
  by_cases r4 : s 8 = 4
  · simp [r4]
  · rw [if_neg r4] at ht ⊢
    rw [if_neg r4, if_neg r4, if_neg r4]
    by_cases c7 : m < s 7
    · rw [if_pos c7] at ht ⊢
      rw [if_pos c7]
      have : m' < s 7 := by omega
      rw [if_pos this, if_pos this]
      exact ⟨rfl, rfl⟩
    · have : ¬ m' < s 7 := by omega
      rw [if_neg c7] at ht ⊢
      rw [if_neg c7, if_neg this, if_neg this]
      by_cases r2 : s 8 = 2
      · rw [if_pos r2] at ht ⊢
        rw [if_pos r2, if_pos r2, if_pos r2]
        obtain ⟨q0, q1, q2, q3, q4, q5⟩ := turnS_late hw0 (m := m) ⟨hm.1, by omega⟩ (by omega)
        rw [Int.add_comm 1, q2] at ht
        have : (m' - s 7) / s 9 = (m - s 7) / s 9 := div_same (by omega) (by omega) (by omega)
        rw [this]
        exact ⟨rfl, rfl⟩
      · rw [if_neg r2, if_neg r2, if_neg r2, if_neg r2]
        exact ⟨rfl, rfl⟩
theorem entS_mono {s : Nat → Int} (hw : WF s) {t e m m' : Int} (hm : 0 ≤ m ∧ m ≤ m') (h : entS s t e m' ≠ -9) : entS s t e m ≠ -9 ∧ entS s t e m ≤ entS s t e m' := by
  have hg := entS_ge hw (by omega) h
  have hs : ¬ (bitz (s 4) t = 1 ∨ 2879 < m') := by
    intro q
    apply h
    unfold entS
    rw [if_pos q]
  have hs0 : ¬ (bitz (s 4) t = 1 ∨ 2879 < m) := fun q => hs (q.imp id (by omega))
  by_cases hgo : wayS s t m = 2 ∨ wayS s t m = e
  · have : entS s t e m = m := by unfold entS; rw [if_neg hs0, if_pos hgo]
    rw [this]
    omega
  · have hE : entS s t e m = nextS s m := by unfold entS; rw [if_neg hs0, if_neg hgo]
    by_cases hlt : turnS s m = -9 ∨ m' < turnS s m
    · obtain ⟨e1, e2⟩ := turn_same hw ⟨hm.1, hm.2, hg.2.2⟩ hlt
      have hway : wayS s t m' = wayS s t m := by unfold wayS; rw [e1]
      have : entS s t e m' = nextS s m' := by unfold entS; rw [if_neg hs, hway, if_neg hgo]
      have e3 : nextS s m' = nextS s m := by unfold nextS; rw [e2]
      rw [this, e3] at h
      rw [hE, this, e3]
      exact ⟨h, Int.le_refl _⟩
    · have h9 : turnS s m ≠ -9 := fun q => hlt (Or.inl q)
      have hle : turnS s m ≤ m' := by
        by_cases q : m' < turnS s m
        · exact absurd (Or.inr q) hlt
        · omega
      have hN : nextS s m = turnS s m := by unfold nextS; rw [if_pos (by omega)]
      rw [hE, hN]
      exact ⟨h9, by omega⟩
end
section
/-! soonest minutes: what they are, and that they are one -/
def ea (s : Nat → Int) (t e : Int) : Nat := (sg s t e).toNat
def vst (s : Nat → Int) (t e : Int) : Prop := 0 ≤ t ∧ t < s 1 ∧ (e = 0 ∨ e = 1)
theorem vst_ok {s : Nat → Int} (hw : WF s) {t e : Int} (h : vst s t e) : ea s t e < 10 ∧ ea s t (1 - e) < 10 ∧ ea s t e ≠ ea s t (1 - e) ∧ 1 ≤ sg s t 2 ∧ sg s t 2 ≤ 60 ∧ (ea s t e : Int) = sg s t e ∧ (ea s t (1 - e) : Int) = sg s t (1 - e) := by
  obtain ⟨w0, w1, w2, w3, w4, w5, w6, w7, w8, w9, w10, wst, -⟩ := hw
  obtain ⟨h1, h2, h3⟩ := h
  obtain ⟨a, b, c, d, -⟩ := wst t h1 h2
  unfold ea
  rcases h3 with rfl | rfl
  · rw [show (1 : Int) - 0 = 1 by omega]
    omega
  · rw [show (1 : Int) - 1 = 0 by omega]
    omega
def bnd (m0 : Int) (D : Nat → Int) : Prop := ∀ c, c < 10 → m0 ≤ D c ∧ (D c ≤ 2939 ∨ D c = 1000000)
def Par (s : Nat → Int) (f : Nat) (D : Nat → Int) (Z : Nat → Prop) : Prop := ∀ c, c < 10 → D c < 1000000 → c ≠ f → ∃ t e, vst s t e ∧ ea s t (1 - e) = c ∧ Z (ea s t e) ∧ D (ea s t e) < 1000000 ∧ entS s t e (D (ea s t e)) ≠ -9 ∧ D c = entS s t e (D (ea s t e)) + sg s t 2
def Clo (s : Nat → Int) (D : Nat → Int) (Z : Nat → Prop) : Prop := ∀ t e, vst s t e → Z (ea s t e) → entS s t e (D (ea s t e)) ≠ -9 → D (ea s t (1 - e)) ≤ entS s t e (D (ea s t e)) + sg s t 2
def Soon (s : Nat → Int) (f : Nat) (m0 : Int) (D : Nat → Int) : Prop := f < 10 ∧ (0 ≤ m0 ∧ m0 ≤ 2879) ∧ D f = m0 ∧ bnd m0 D ∧ Par s f D (fun u => D u < 1000000) ∧ Clo s D (fun u => D u < 1000000)
def DI (s : Nat → Int) (f : Nat) (m0 : Int) (D : Nat → Int) (Z : Nat → Prop) : Prop := f < 10 ∧ (0 ≤ m0 ∧ m0 ≤ 2879) ∧ D f = m0 ∧ bnd m0 D ∧ Par s f D Z ∧ Clo s D Z ∧ (∀ u v, u < 10 → v < 10 → Z u → ¬ Z v → D u ≤ D v) ∧ (∀ u, u < 10 → Z u → D u < 1000000)
/-- what has ways by which it is come to is no sooner than what is closed under ways -/
theorem soon_cmp {s1 s2 : Nat → Int} (hw1 : WF s1) (hg : s2 1 = s1 1 ∧ ∀ t, 0 ≤ t → t < s1 1 → sg s2 t 0 = sg s1 t 0 ∧ sg s2 t 1 = sg s1 t 1 ∧ sg s2 t 2 = sg s1 t 2)
    (hE : ∀ t e m m', vst s1 t e → 0 ≤ m → m ≤ m' → entS s1 t e m' ≠ -9 → entS s2 t e m ≠ -9 ∧ entS s2 t e m ≤ entS s1 t e m') {f : Nat} {m0 : Int} (h0 : 0 ≤ m0) {D1 D2 : Nat → Int} {Z : Nat → Prop} (hb1 : bnd m0 D1) (hb2 : bnd m0 D2) (hp : Par s1 f D1 Z) (hc : Clo s2 D2 (fun u => D2 u < 1000000)) (hf : D2 f ≤ D1 f) :
    ∀ c, c < 10 → D2 c ≤ D1 c := by
  have key : ∀ (n : Nat) (c : Nat), c < 10 → D1 c < 1000000 → (D1 c).toNat ≤ n → D2 c ≤ D1 c := by
    intro n
    induction n with
    | zero =>
      intro c hc10 hlt hn
      by_cases hcf : c = f
      · rw [hcf]; exact hf
      · obtain ⟨t, e, hv, h1, h2, h3, h4, h5⟩ := hp c hc10 hlt hcf
        have v := vst_ok hw1 hv
        have b := hb1 _ v.1
        have g := entS_ge hw1 (m := D1 (ea s1 t e)) (by omega) h4
        omega
    | succ n ih =>
      intro c hc10 hlt hn
      by_cases hcf : c = f
      · rw [hcf]; exact hf
      · obtain ⟨t, e, hv, h1, h2, h3, h4, h5⟩ := hp c hc10 hlt hcf
        have v := vst_ok hw1 hv
        have b := hb1 _ v.1
        have b2 := hb2 _ v.1
        have g := entS_ge hw1 (m := D1 (ea s1 t e)) (by omega) h4
        have iu := ih (ea s1 t e) v.1 h3 (by omega)
        have hE' := hE t e (D2 (ea s1 t e)) (D1 (ea s1 t e)) hv (by omega) iu h4
        obtain ⟨g1, g2, g3⟩ := hg.2 t hv.1 hv.2.1
        have ee : ∀ k, (k = 0 ∨ k = 1) → ea s2 t k = ea s1 t k := fun k hk => by
          unfold ea
          rcases hk with rfl | rfl
          · rw [g1]
          · rw [g2]
        have e1 := ee e hv.2.2
        have e2 := ee (1 - e) (by rcases hv.2.2 with q | q <;> omega)
        have cl := hc t e ⟨hv.1, by rw [hg.1]; exact hv.2.1, hv.2.2⟩ (by rw [e1]; omega) (by rw [e1]; exact hE'.1)
        rw [e1, e2, h1, g3] at cl
        omega
  intro c hc10
  by_cases hlt : D1 c < 1000000
  · exact key _ c hc10 hlt (Nat.le_refl _)
  · have := hb1 c hc10
    have := hb2 c hc10
    omega
theorem soon_cmp1 {s : Nat → Int} (hw : WF s) {f : Nat} {m0 : Int} (h0 : 0 ≤ m0) {D1 D2 : Nat → Int} {Z : Nat → Prop} (hb1 : bnd m0 D1) (hb2 : bnd m0 D2) (hp : Par s f D1 Z) (hc : Clo s D2 (fun u => D2 u < 1000000)) (hf : D2 f ≤ D1 f) : ∀ c, c < 10 → D2 c ≤ D1 c :=
  soon_cmp hw ⟨rfl, fun _ _ _ => ⟨rfl, rfl, rfl⟩⟩ (fun t e m m' _ h1 h2 h3 => entS_mono hw ⟨h1, h2⟩ h3) h0 hb1 hb2 hp hc hf
theorem Soon.uniq {s : Nat → Int} (hw : WF s) {f : Nat} {m0 : Int} {D D' : Nat → Int} (h : Soon s f m0 D) (h' : Soon s f m0 D') : ∀ c, c < 10 → D c = D' c := by
  obtain ⟨-, a1, a2, a3, a4, a5⟩ := h
  obtain ⟨-, b1, b2, b3, b4, b5⟩ := h'
  intro c hc
  have x1 := soon_cmp1 hw a1.1 a3 b3 a4 b5 (by omega) c hc
  have x2 := soon_cmp1 hw a1.1 b3 a3 b4 a5 (by omega) c hc
  omega
/-- what is settled, or is next, has its soonest already -/
theorem soon_early {s : Nat → Int} (hw : WF s) {f : Nat} {m0 : Int} {T D : Nat → Int} {Z : Nat → Prop} (hT : DI s f m0 T Z) (hD : Soon s f m0 D) {b : Nat} (hb : b < 10) (hmin : ∀ v, v < 10 → ¬ Z v → T b ≤ T v) : T b = D b := by
  obtain ⟨-, a1, a2, a3, a4, a5, a6, a7⟩ := hT
  obtain ⟨-, b1, b2, b3, b4, b5⟩ := hD
  have ge := soon_cmp1 hw a1.1 a3 b3 a4 b5 (by omega) b hb
  have key : ∀ (n : Nat) (c : Nat), c < 10 → D c < T b → (D c).toNat ≤ n → T c ≤ D c := by
    intro n
    induction n with
    | zero =>
      intro c hc hlt hn
      by_cases hcf : c = f
      · rw [hcf]; omega
      · have hbT := a3 b hb
        obtain ⟨t, e, hv, h1, h2, h3, h4, h5⟩ := b4 c hc (by omega) hcf
        have v := vst_ok hw hv
        have bb := b3 _ v.1
        have g := entS_ge hw (m := D (ea s t e)) (by omega) h4
        omega
    | succ n ih =>
      intro c hc hlt hn
      by_cases hcf : c = f
      · rw [hcf]; omega
      · have hbT := a3 b hb
        obtain ⟨t, e, hv, h1, h2, h3, h4, h5⟩ := b4 c hc (by omega) hcf
        have v := vst_ok hw hv
        have bb := b3 _ v.1
        have g := entS_ge hw (m := D (ea s t e)) (by omega) h4
        have iu := ih (ea s t e) v.1 (by omega) (by omega)
        have hz : Z (ea s t e) := Classical.byContradiction (fun q => by have := hmin _ v.1 q; omega)
        have b3' := a3 _ v.1
        have mo := entS_mono hw (t := t) (e := e) (m := T (ea s t e)) (m' := D (ea s t e)) ⟨by omega, iu⟩ h4
        have cl := a5 t e hv hz mo.1
        rw [h1] at cl
        omega
  by_cases q : D b < T b
  · have := key _ b hb q (Nat.le_refl _)
    omega
  · omega
theorem DI.fin {s : Nat → Int} {f : Nat} {m0 : Int} {T : Nat → Int} {Z : Nat → Prop} (hw : WF s) (hT : DI s f m0 T Z) (hend : ∀ v, v < 10 → ¬ Z v → T v = 1000000) : Soon s f m0 T := by
  obtain ⟨a0, a1, a2, a3, a4, a5, a6, a7⟩ := hT
  refine ⟨a0, a1, a2, a3, fun c hc hlt hcf => ?_, fun t e hv hz hn => ?_⟩
  · obtain ⟨t, e, hv, h1, h2, h3, h4, h5⟩ := a4 c hc hlt hcf
    exact ⟨t, e, hv, h1, h3, h3, h4, h5⟩
  · have v := vst_ok hw hv
    exact a5 t e hv (Classical.byContradiction (fun q => by have := hend _ v.1 q; omega)) hn
theorem DI.start {s : Nat → Int} {f : Nat} {m0 : Int} {T : Nat → Int} (hf : f < 10) (hm : 0 ≤ m0 ∧ m0 ≤ 2879) (hT : ∀ c, c < 10 → T c = if c = f then m0 else 1000000) : DI s f m0 T (fun _ => False) := by
  refine ⟨hf, hm, by rw [hT f hf, if_pos rfl], fun c hc => ?_, fun c hc hlt hcf => ?_, fun t e _ hz => hz.elim, fun u v _ _ hz => hz.elim, fun u _ hz => hz.elim⟩
  · rw [hT c hc]
    split <;> omega
  · rw [hT c hc, if_neg hcf] at hlt
    omega
/-- while the streets of b are looked at: those of Pr are done -/
def RX (s : Nat → Int) (f : Nat) (m0 : Int) (T : Nat → Int) (Z : Nat → Prop) (b : Nat) (Pr : Int → Int → Prop) : Prop := f < 10 ∧ (0 ≤ m0 ∧ m0 ≤ 2879) ∧ T f = m0 ∧ bnd m0 T ∧ Par s f T (fun u => Z u ∨ u = b) ∧ Clo s T Z ∧ (∀ u v, u < 10 → v < 10 → Z u ∨ u = b → ¬ (Z v ∨ v = b) → T u ≤ T v) ∧ (∀ u, u < 10 → Z u ∨ u = b → T u < 1000000 ∧ T u ≤ T b) ∧
  (∀ t e, vst s t e → Pr t e → ea s t e = b → entS s t e (T b) ≠ -9 → T (ea s t (1 - e)) ≤ entS s t e (T b) + sg s t 2)
theorem RX.start {s : Nat → Int} {f : Nat} {m0 : Int} {T : Nat → Int} {Z : Nat → Prop} (hT : DI s f m0 T Z) {b : Nat} (hb : b < 10) (hz : ¬ Z b) (hlt : T b < 1000000) (hmin : ∀ v, v < 10 → ¬ Z v → T b ≤ T v) : RX s f m0 T Z b (fun _ _ => False) := by
  obtain ⟨a0, a1, a2, a3, a4, a5, a6, a7⟩ := hT
  refine ⟨a0, a1, a2, a3, fun c hc hl hcf => ?_, a5, fun u v hu hv hzu hzv => ?_, fun u hu hzu => ?_, fun t e _ hp => hp.elim⟩
  · obtain ⟨t, e, hv, h1, h2, h3⟩ := a4 c hc hl hcf
    exact ⟨t, e, hv, h1, Or.inl h2, h3⟩
  · have hv' : ¬ Z v := fun q => hzv (Or.inl q)
    rcases hzu with q | q
    · exact a6 u v hu hv q hv'
    · rw [q]; exact hmin v hv hv'
  · rcases hzu with q | q
    · exact ⟨a7 u hu q, a6 u b hu hb q hz⟩
    · rw [q]; exact ⟨hlt, Int.le_refl _⟩
theorem RX.done {s : Nat → Int} {f : Nat} {m0 : Int} {T : Nat → Int} {Z : Nat → Prop} {b : Nat} {Pr : Int → Int → Prop} (h : RX s f m0 T Z b Pr) (hall : ∀ t e, vst s t e → Pr t e) : DI s f m0 T (fun u => Z u ∨ u = b) := by
  obtain ⟨a0, a1, a2, a3, a4, a5, a6, a7, a8⟩ := h
  refine ⟨a0, a1, a2, a3, a4, fun t e hv hz hn => ?_, a6, fun u hu hz => (a7 u hu hz).1⟩
  rcases hz with q | q
  · exact a5 t e hv q hn
  · rw [q] at hn ⊢
    exact a8 t e hv (hall t e hv) q hn
theorem RX.weak {s : Nat → Int} {f : Nat} {m0 : Int} {T : Nat → Int} {Z : Nat → Prop} {b : Nat} {Pr Pr' : Int → Int → Prop} (h : RX s f m0 T Z b Pr) (hp : ∀ t e, vst s t e → Pr' t e → ea s t e = b → Pr t e) : RX s f m0 T Z b Pr' := by
  obtain ⟨a0, a1, a2, a3, a4, a5, a6, a7, a8⟩ := h
  exact ⟨a0, a1, a2, a3, a4, a5, a6, a7, fun t e hv hpr he => a8 t e hv (hp t e hv hpr he) he⟩
/-- a street by which nobody goes on -/
theorem RX.none {s : Nat → Int} {f : Nat} {m0 : Int} {T : Nat → Int} {Z : Nat → Prop} {b : Nat} {Pr : Int → Int → Prop} (h : RX s f m0 T Z b Pr) {t e : Int} (hn : entS s t e (T b) = -9) : RX s f m0 T Z b (fun t' e' => Pr t' e' ∨ (t' = t ∧ e' = e)) := by
  obtain ⟨a0, a1, a2, a3, a4, a5, a6, a7, a8⟩ := h
  refine ⟨a0, a1, a2, a3, a4, a5, a6, a7, fun t' e' hv hpr he hne => ?_⟩
  rcases hpr with q | ⟨rfl, rfl⟩
  · exact a8 t' e' hv q he hne
  · exact absurd hn hne
/-- a street by which one goes on: the other end is no later than by it -/
theorem RX.go {s : Nat → Int} (hw : WF s) {f : Nat} {m0 : Int} {T T' : Nat → Int} {Z : Nat → Prop} {b : Nat} {Pr : Int → Int → Prop} (h : RX s f m0 T Z b Pr) (hb : b < 10) {t e : Int} (hv : vst s t e) (he : ea s t e = b) (hn : entS s t e (T b) ≠ -9)
    (hT' : ∀ c, c < 10 → T' c = if c = ea s t (1 - e) then (if entS s t e (T b) + sg s t 2 < T c then entS s t e (T b) + sg s t 2 else T c) else T c) : RX s f m0 T' Z b (fun t' e' => Pr t' e' ∨ (t' = t ∧ e' = e)) := by
  obtain ⟨a0, a1, a2, a3, a4, a5, a6, a7, a8⟩ := h
  have v := vst_ok hw hv
  have hbT := a3 b hb
  have g := entS_ge hw (m := T b) (by omega) hn
  generalize hval : entS s t e (T b) + sg s t 2 = val at *
  generalize hc0 : ea s t (1 - e) = c0 at *
  have hcb : c0 ≠ b := by rw [← he]; exact fun q => v.2.2.1 q.symm
  have same : ∀ u, u < 10 → (Z u ∨ u = b) → T' u = T u := fun u hu hz => by
    rw [hT' u hu]
    split
    · have := (a7 u hu hz).2
      rw [if_neg (by omega)]
    · rfl
  have le : ∀ u, u < 10 → T' u ≤ T u := fun u hu => by
    rw [hT' u hu]
    split
    · split <;> omega
    · omega
  have hb' : T' b = T b := same b hb (Or.inr rfl)
  refine ⟨a0, a1, ?_, fun c hc => ?_, fun c hc hl hcf => ?_, fun t' e' hv' hz hne => ?_, fun u w hu hw' hzu hzw => ?_, fun u hu hzu => ?_, fun t' e' hv' hpr he' hne => ?_⟩
  · rw [hT' f a0]
    split
    · rw [if_neg (by omega)]; exact a2
    · exact a2
  · have := a3 c hc
    rw [hT' c hc]
    split
    · split <;> omega
    · omega
  · by_cases hch : c = c0 ∧ val < T c
    · refine ⟨t, e, hv, by rw [hc0]; exact hch.1.symm, Or.inr he, by rw [he, hb']; exact (a7 b hb (Or.inr rfl)).1, by rw [he, hb']; exact hn, ?_⟩
      rw [he, hb', hT' c hc, if_pos hch.1, if_pos hch.2, hval]
    · have hsame : T' c = T c := by
        rw [hT' c hc]
        split
        · rename_i q
          rw [if_neg (fun z => hch ⟨q, z⟩)]
        · rfl
      rw [hsame] at hl ⊢
      obtain ⟨t', e', hv', h1, h2, h3, h4, h5⟩ := a4 c hc hl hcf
      have v' := vst_ok hw hv'
      have hs := same _ v'.1 h2
      exact ⟨t', e', hv', h1, h2, by rw [hs]; exact h3, by rw [hs]; exact h4, by rw [hs]; exact h5⟩
  · have v' := vst_ok hw hv'
    have hs := same _ v'.1 (Or.inl hz)
    rw [hs] at hne ⊢
    exact Int.le_trans (le _ v'.2.1) (a5 t' e' hv' hz hne)
  · rw [same u hu hzu, hT' w hw']
    have h1 := a6 u w hu hw' hzu hzw
    have h2 := (a7 u hu hzu).2
    split
    · split <;> omega
    · exact h1
  · rw [same u hu hzu, hb']
    exact a7 u hu hzu
  · rw [hb'] at hne ⊢
    rcases hpr with q | ⟨rfl, rfl⟩
    · have v' := vst_ok hw hv'
      exact Int.le_trans (le _ v'.2.1) (a8 t' e' hv' q he' hne)
    · rw [hc0, hT' c0 v.2.1, if_pos rfl]
      split <;> omega
noncomputable def dist (s : Nat → Int) (f : Nat) (m0 : Int) : Nat → Int := Classical.epsilon (fun D => Soon s f m0 D)
theorem dist_fin {s : Nat → Int} {f : Nat} {m0 : Int} {D : Nat → Int} (h : Soon s f m0 D) : Soon s f m0 (dist s f m0) := Classical.epsilon_spec (p := fun D => Soon s f m0 D) ⟨D, h⟩
theorem dist_eq {s : Nat → Int} (hw : WF s) {f : Nat} {m0 : Int} {D : Nat → Int} (h : Soon s f m0 D) : ∀ c, c < 10 → D c = dist s f m0 c := Soon.uniq hw h (dist_fin h)
end
section
theorem gX11_finds_0 (a0 : Int) (a1 : Int) (σ : Hp) {Q : Option Int → Hp → Prop} (h : Runs 4 mX11_finds 2 [zR 34 0, zI a0, zI a1, zI 0, zU, zU, zU, zU] [] σ Q) : Runs 4 mX11_finds 0 [zR 34 0, zI a0, zI a1, zU, zU, zU, zU, zU] [] σ Q := by
  refine r_blk [qO (.iconst 0), qO (.istore_n 3)] (pc' := 2) (L' := [zR 34 0, zI a0, zI a1, zI 0, zU, zU, zU, zU]) (S' := []) (σ' := σ) (Ps := []) (by decide +kernel) rfl trivial ?_
  exact Runs.fg (fgE (fgE (fgE (fgE (fgU (fgU (fgU (fgU fg0)))))))) h
theorem gX11_finds_2 (l1 : Int) (l2 : Int) (l3 : Int) (σ : Hp) {Q : Option Int → Hp → Prop} (h : ((10 ≤ l3 → (0 ≤ l1 ∧ l1 < 10) ∧ Runs 4 mX11_finds 36 [zR 34 0, zU, zU, zU, zU, zU, zU, zU] [] (zup σ 41 0 l1.toNat l2) Q) ∧ (¬ 10 ≤ l3 → (0 ≤ l3 ∧ l3 < 10) ∧ (0 ≤ l3 ∧ l3 < 10) ∧ (-2147483648 ≤ l3 + 1 ∧ l3 + 1 ≤ 2147483647) ∧ Runs 4 mX11_finds 2 [zR 34 0, zI l1, zI l2, zI (l3 + 1), zU, zU, zU, zU] [] (zup (zup σ 41 0 l3.toNat (-9)) 42 0 l3.toNat 0) Q))) : Runs 4 mX11_finds 2 [zR 34 0, zI l1, zI l2, zI l3, zU, zU, zU, zU] [] σ Q := by
  refine r_blk [qO (.iload_n 3), qO (.bipush 10)] (pc' := 5) (L' := [zR 34 0, zI l1, zI l2, zI l3, zU, zU, zU, zU]) (S' := [zI 10, zI l3]) (σ' := σ) (Ps := []) (by decide +kernel) rfl trivial ?_
  refine r_icmp_ge (off := 24) (tgt := 29) (by decide +kernel) (by decide) (fun c => ?_) (fun c => ?_)
  · replace h := h.1 c
    refine r_blk [qO (.aload_n 0), qF (.getfield 28) 11 9, qO (.iload_n 1), qO (.iload_n 2), qO .iastore] (pc' := 36) (L' := [zR 34 0, zI l1, zI l2, zI l3, zU, zU, zU, zU]) (S' := []) (σ' := (zup σ 41 0 l1.toNat l2)) (Ps := [0 ≤ l1 ∧ l1 < 10]) (by decide +kernel) rfl ⟨h.1, trivial⟩ ?_
    replace h := h.2
    exact Runs.fg (fgE (fgU (fgU (fgU (fgU (fgU (fgU (fgU fg0)))))))) h
  · replace h := h.2 c
    refine r_blk [qO (.aload_n 0), qF (.getfield 28) 11 9, qO (.iload_n 3), qO (.bipush (-9)), qO .iastore, qO (.aload_n 0), qF (.getfield 31) 11 10, qO (.iload_n 3), qO (.iconst 0), qO .bastore, qO (.iinc 3 1), qO (.goto (-24))] (pc' := 2) (L' := [zR 34 0, zI l1, zI l2, zI (l3 + 1), zU, zU, zU, zU]) (S' := []) (σ' := (zup (zup σ 41 0 l3.toNat (-9)) 42 0 l3.toNat 0)) (Ps := [0 ≤ l3 ∧ l3 < 10, 0 ≤ l3 ∧ l3 < 10, 0 = 0 ∨ 0 = 1, -2147483648 ≤ l3 + 1 ∧ l3 + 1 ≤ 2147483647]) (by decide +kernel) rfl ⟨h.1, h.2.1, (by decide), h.2.2.1, trivial⟩ ?_
    replace h := h.2.2.2
    exact Runs.fg (fgE (fgE (fgE (fgE (fgU (fgU (fgU (fgU fg0)))))))) h
theorem gX11_finds_36 (σ : Hp) {Q : Option Int → Hp → Prop} (h : Runs 4 mX11_finds 42 [zR 34 0, zU, zU, zI (-9), zI 0, zU, zU, zU] [] σ Q) : Runs 4 mX11_finds 36 [zR 34 0, zU, zU, zU, zU, zU, zU, zU] [] σ Q := by
  refine r_blk [qO (.bipush (-9)), qO (.istore_n 3), qO (.iconst 0), qO (.istore 4)] (pc' := 42) (L' := [zR 34 0, zU, zU, zI (-9), zI 0, zU, zU, zU]) (S' := []) (σ' := σ) (Ps := []) (by decide +kernel) rfl trivial ?_
  exact Runs.fg (fgE (fgU (fgU (fgE (fgE (fgU (fgU (fgU fg0)))))))) h
theorem gX11_finds_42 (l3 : Int) (l4 : Int) (σ : Hp) {Q : Option Int → Hp → Prop} (h : ((σ 36 0 0 ≤ l4 → ((0 ≤ l3 → (0 ≤ l3 ∧ l3 < 10) ∧ Runs 4 mX11_finds 117 [zR 34 0, zU, zU, zI l3, zI 0, zU, zU, zU] [] (zup σ 42 0 l3.toNat 1) Q) ∧ (¬ 0 ≤ l3 → Q none σ))) ∧ (¬ σ 36 0 0 ≤ l4 → (0 ≤ l4 ∧ l4 < 10) ∧ ((¬ σ 42 0 l4.toNat = 0 → (-2147483648 ≤ l4 + 1 ∧ l4 + 1 ≤ 2147483647) ∧ Runs 4 mX11_finds 42 [zR 34 0, zU, zU, zI l3, zI (l4 + 1), zU, zU, zU] [] σ Q) ∧ (σ 42 0 l4.toNat = 0 → (0 ≤ l4 ∧ l4 < 10) ∧ ((σ 41 0 l4.toNat < 0 → (-2147483648 ≤ l4 + 1 ∧ l4 + 1 ≤ 2147483647) ∧ Runs 4 mX11_finds 42 [zR 34 0, zU, zU, zI l3, zI (l4 + 1), zU, zU, zU] [] σ Q) ∧ (¬ σ 41 0 l4.toNat < 0 → ((l3 < 0 → (-2147483648 ≤ l4 + 1 ∧ l4 + 1 ≤ 2147483647) ∧ Runs 4 mX11_finds 42 [zR 34 0, zU, zU, zI l4, zI (l4 + 1), zU, zU, zU] [] σ Q) ∧ (¬ l3 < 0 → (0 ≤ l4 ∧ l4 < 10) ∧ (0 ≤ l3 ∧ l3 < 10) ∧ ((σ 41 0 l3.toNat ≤ σ 41 0 l4.toNat → (-2147483648 ≤ l4 + 1 ∧ l4 + 1 ≤ 2147483647) ∧ Runs 4 mX11_finds 42 [zR 34 0, zU, zU, zI l3, zI (l4 + 1), zU, zU, zU] [] σ Q) ∧ (¬ σ 41 0 l3.toNat ≤ σ 41 0 l4.toNat → (-2147483648 ≤ l4 + 1 ∧ l4 + 1 ≤ 2147483647) ∧ Runs 4 mX11_finds 42 [zR 34 0, zU, zU, zI l4, zI (l4 + 1), zU, zU, zU] [] σ Q))))))))))) : Runs 4 mX11_finds 42 [zR 34 0, zU, zU, zI l3, zI l4, zU, zU, zU] [] σ Q := by
  refine r_blk [qO (.iload 4), qO (.aload_n 0), qF (.getfield 13) 11 1, qO (.iconst 0), qO .iaload] (pc' := 50) (L' := [zR 34 0, zU, zU, zI l3, zI l4, zU, zU, zU]) (S' := [zI (σ 36 0 0), zI l4]) (σ' := σ) (Ps := [0 ≤ 0 ∧ 0 < 123]) (by decide +kernel) rfl ⟨(by decide), trivial⟩ ?_
  refine r_icmp_ge (off := 52) (tgt := 102) (by decide +kernel) (by decide) (fun c => ?_) (fun c => ?_)
  · replace h := h.1 c
    refine r_blk [qO (.iload_n 3)] (pc' := 103) (L' := [zR 34 0, zU, zU, zI l3, zI l4, zU, zU, zU]) (S' := [zI l3]) (σ' := σ) (Ps := []) (by decide +kernel) rfl trivial ?_
    refine r_if_ge (off := 4) (tgt := 107) (by decide +kernel) (by decide) (fun c => ?_) (fun c => ?_)
    · replace h := h.1 c
      refine r_blk [qO (.aload_n 0), qF (.getfield 31) 11 10, qO (.iload_n 3), qO (.iconst 1), qO .bastore, qO (.iconst 0), qO (.istore 4)] (pc' := 117) (L' := [zR 34 0, zU, zU, zI l3, zI 0, zU, zU, zU]) (S' := []) (σ' := (zup σ 42 0 l3.toNat 1)) (Ps := [0 ≤ l3 ∧ l3 < 10, 1 = 0 ∨ 1 = 1]) (by decide +kernel) rfl ⟨h.1, (by decide), trivial⟩ ?_
      replace h := h.2
      exact Runs.fg (fgE (fgU (fgU (fgE (fgE (fgU (fgU (fgU fg0)))))))) h
    · replace h := h.2 c
      exact r_retv (by decide +kernel) rfl h
  · replace h := h.2 c
    refine r_blk [qO (.aload_n 0), qF (.getfield 31) 11 10, qO (.iload 4), qO .baload] (pc' := 60) (L' := [zR 34 0, zU, zU, zI l3, zI l4, zU, zU, zU]) (S' := [zI (σ 42 0 l4.toNat)]) (σ' := σ) (Ps := [0 ≤ l4 ∧ l4 < 10]) (by decide +kernel) rfl ⟨h.1, trivial⟩ ?_
    replace h := h.2
    refine r_if_ne (off := 36) (tgt := 96) (by decide +kernel) (by decide) (fun c => ?_) (fun c => ?_)
    · replace h := h.1 c
      refine r_blk [qO (.iinc 4 1), qO (.goto (-57))] (pc' := 42) (L' := [zR 34 0, zU, zU, zI l3, zI (l4 + 1), zU, zU, zU]) (S' := []) (σ' := σ) (Ps := [-2147483648 ≤ l4 + 1 ∧ l4 + 1 ≤ 2147483647]) (by decide +kernel) rfl ⟨h.1, trivial⟩ ?_
      replace h := h.2
      exact Runs.fg (fgE (fgU (fgU (fgE (fgE (fgU (fgU (fgU fg0)))))))) h
    · replace h := h.2 c
      refine r_blk [qO (.aload_n 0), qF (.getfield 28) 11 9, qO (.iload 4), qO .iaload] (pc' := 70) (L' := [zR 34 0, zU, zU, zI l3, zI l4, zU, zU, zU]) (S' := [zI (σ 41 0 l4.toNat)]) (σ' := σ) (Ps := [0 ≤ l4 ∧ l4 < 10]) (by decide +kernel) rfl ⟨h.1, trivial⟩ ?_
      replace h := h.2
      refine r_if_lt (off := 26) (tgt := 96) (by decide +kernel) (by decide) (fun c => ?_) (fun c => ?_)
      · replace h := h.1 c
        refine r_blk [qO (.iinc 4 1), qO (.goto (-57))] (pc' := 42) (L' := [zR 34 0, zU, zU, zI l3, zI (l4 + 1), zU, zU, zU]) (S' := []) (σ' := σ) (Ps := [-2147483648 ≤ l4 + 1 ∧ l4 + 1 ≤ 2147483647]) (by decide +kernel) rfl ⟨h.1, trivial⟩ ?_
        replace h := h.2
        exact Runs.fg (fgE (fgU (fgU (fgE (fgE (fgU (fgU (fgU fg0)))))))) h
      · replace h := h.2 c
        refine r_blk [qO (.iload_n 3)] (pc' := 74) (L' := [zR 34 0, zU, zU, zI l3, zI l4, zU, zU, zU]) (S' := [zI l3]) (σ' := σ) (Ps := []) (by decide +kernel) rfl trivial ?_
        refine r_if_lt (off := 19) (tgt := 93) (by decide +kernel) (by decide) (fun c => ?_) (fun c => ?_)
        · replace h := h.1 c
          refine r_blk [qO (.iload 4), qO (.istore_n 3), qO (.iinc 4 1), qO (.goto (-57))] (pc' := 42) (L' := [zR 34 0, zU, zU, zI l4, zI (l4 + 1), zU, zU, zU]) (S' := []) (σ' := σ) (Ps := [-2147483648 ≤ l4 + 1 ∧ l4 + 1 ≤ 2147483647]) (by decide +kernel) rfl ⟨h.1, trivial⟩ ?_
          replace h := h.2
          exact Runs.fg (fgE (fgU (fgU (fgE (fgE (fgU (fgU (fgU fg0)))))))) h
        · replace h := h.2 c
          refine r_blk [qO (.aload_n 0), qF (.getfield 28) 11 9, qO (.iload 4), qO .iaload, qO (.aload_n 0), qF (.getfield 28) 11 9, qO (.iload_n 3), qO .iaload] (pc' := 90) (L' := [zR 34 0, zU, zU, zI l3, zI l4, zU, zU, zU]) (S' := [zI (σ 41 0 l3.toNat), zI (σ 41 0 l4.toNat)]) (σ' := σ) (Ps := [0 ≤ l4 ∧ l4 < 10, 0 ≤ l3 ∧ l3 < 10]) (by decide +kernel) rfl ⟨h.1, h.2.1, trivial⟩ ?_
          replace h := h.2.2
          refine r_icmp_ge (off := 6) (tgt := 96) (by decide +kernel) (by decide) (fun c => ?_) (fun c => ?_)
          · replace h := h.1 c
            refine r_blk [qO (.iinc 4 1), qO (.goto (-57))] (pc' := 42) (L' := [zR 34 0, zU, zU, zI l3, zI (l4 + 1), zU, zU, zU]) (S' := []) (σ' := σ) (Ps := [-2147483648 ≤ l4 + 1 ∧ l4 + 1 ≤ 2147483647]) (by decide +kernel) rfl ⟨h.1, trivial⟩ ?_
            replace h := h.2
            exact Runs.fg (fgE (fgU (fgU (fgE (fgE (fgU (fgU (fgU fg0)))))))) h
          · replace h := h.2 c
            refine r_blk [qO (.iload 4), qO (.istore_n 3), qO (.iinc 4 1), qO (.goto (-57))] (pc' := 42) (L' := [zR 34 0, zU, zU, zI l4, zI (l4 + 1), zU, zU, zU]) (S' := []) (σ' := σ) (Ps := [-2147483648 ≤ l4 + 1 ∧ l4 + 1 ≤ 2147483647]) (by decide +kernel) rfl ⟨h.1, trivial⟩ ?_
            replace h := h.2
            exact Runs.fg (fgE (fgU (fgU (fgE (fgE (fgU (fgU (fgU fg0)))))))) h
theorem gX11_finds_117 (l3 : Int) (l4 : Int) (σ : Hp) {Q : Option Int → Hp → Prop} (h : ((σ 36 0 1 ≤ l4 → Runs 4 mX11_finds 36 [zR 34 0, zU, zU, zU, zU, zU, zU, zU] [] σ Q) ∧ (¬ σ 36 0 1 ≤ l4 → Runs 4 mX11_finds 131 [zR 34 0, zU, zU, zI l3, zI l4, zI 0, zU, zU] [] σ Q))) : Runs 4 mX11_finds 117 [zR 34 0, zU, zU, zI l3, zI l4, zU, zU, zU] [] σ Q := by
  refine r_blk [qO (.iload 4), qO (.aload_n 0), qF (.getfield 13) 11 1, qO (.iconst 1), qO .iaload] (pc' := 125) (L' := [zR 34 0, zU, zU, zI l3, zI l4, zU, zU, zU]) (S' := [zI (σ 36 0 1), zI l4]) (σ' := σ) (Ps := [0 ≤ 1 ∧ 1 < 123]) (by decide +kernel) rfl ⟨(by decide), trivial⟩ ?_
  refine r_icmp_ge (off := 122) (tgt := 247) (by decide +kernel) (by decide) (fun c => ?_) (fun c => ?_)
  · replace h := h.1 c
    refine r_blk [qO (.goto (-211))] (pc' := 36) (L' := [zR 34 0, zU, zU, zI l3, zI l4, zU, zU, zU]) (S' := []) (σ' := σ) (Ps := []) (by decide +kernel) rfl trivial ?_
    exact Runs.fg (fgE (fgU (fgU (fgU (fgU (fgU (fgU (fgU fg0)))))))) h
  · replace h := h.2 c
    refine r_blk [qO (.iconst 0), qO (.istore 5)] (pc' := 131) (L' := [zR 34 0, zU, zU, zI l3, zI l4, zI 0, zU, zU]) (S' := []) (σ' := σ) (Ps := []) (by decide +kernel) rfl trivial ?_
    exact Runs.fg (fgE (fgU (fgU (fgE (fgE (fgE (fgU (fgU fg0)))))))) h
theorem gX11_finds_131 (l3 : Int) (l4 : Int) (l5 : Int) (σ : Hp) {Q : Option Int → Hp → Prop} (h : ((2 ≤ l5 → (-2147483648 ≤ l4 + 1 ∧ l4 + 1 ≤ 2147483647) ∧ Runs 4 mX11_finds 117 [zR 34 0, zU, zU, zI l3, zI (l4 + 1), zU, zU, zU] [] σ Q) ∧ (¬ 2 ≤ l5 → (0 ≤ l4 ∧ l4 < 14) ∧ ((0 : Int) ≤ l5 ∧ l5 < 5) ∧ ((sg (σ 36 0) l4 l5 = l3 → (0 ≤ l3 ∧ l3 < 10) ∧ (WF (σ 36 0)) ∧ (0 ≤ l4 ∧ l4 < σ 36 0 1) ∧ (0 ≤ (σ 41 0 l3.toNat) ∧ (σ 41 0 l3.toNat) ≤ 1000000) ∧ (l5 = 0 ∨ l5 = 1) ∧ (-2147483648 ≤ 1 - l5 ∧ 1 - l5 ≤ 2147483647) ∧ (0 ≤ l4 ∧ l4 < 14) ∧ ((0 : Int) ≤ (1 - l5) ∧ (1 - l5) < 5) ∧ ((entS (σ 36 0) l4 l5 (σ 41 0 l3.toNat) < 0 → (-2147483648 ≤ l5 + 1 ∧ l5 + 1 ≤ 2147483647) ∧ Runs 4 mX11_finds 131 [zR 34 0, zU, zU, zI l3, zI l4, zI (l5 + 1), zU, zU] [] σ Q) ∧ (¬ entS (σ 36 0) l4 l5 (σ 41 0 l3.toNat) < 0 → (0 ≤ sg (σ 36 0) l4 (1 - l5) ∧ sg (σ 36 0) l4 (1 - l5) < 10) ∧ ((σ 41 0 ((sg (σ 36 0) l4 (1 - l5)).toNat) < 0 → (0 ≤ l4 ∧ l4 < 14) ∧ (-2147483648 ≤ (entS (σ 36 0) l4 l5 (σ 41 0 l3.toNat)) + (sg (σ 36 0) l4 2) ∧ (entS (σ 36 0) l4 l5 (σ 41 0 l3.toNat)) + (sg (σ 36 0) l4 2) ≤ 2147483647) ∧ (0 ≤ sg (σ 36 0) l4 (1 - l5) ∧ sg (σ 36 0) l4 (1 - l5) < 10) ∧ (-2147483648 ≤ l5 + 1 ∧ l5 + 1 ≤ 2147483647) ∧ ∀ σ1 : Hp, σ1 = (zup σ 41 0 ((sg (σ 36 0) l4 (1 - l5)).toNat) ((entS (σ 36 0) l4 l5 (σ 41 0 l3.toNat)) + (sg (σ 36 0) l4 2))) → Runs 4 mX11_finds 131 [zR 34 0, zU, zU, zI l3, zI l4, zI (l5 + 1), zU, zU] [] σ1 Q) ∧ (¬ σ 41 0 ((sg (σ 36 0) l4 (1 - l5)).toNat) < 0 → (0 ≤ l4 ∧ l4 < 14) ∧ (-2147483648 ≤ (entS (σ 36 0) l4 l5 (σ 41 0 l3.toNat)) + (sg (σ 36 0) l4 2) ∧ (entS (σ 36 0) l4 l5 (σ 41 0 l3.toNat)) + (sg (σ 36 0) l4 2) ≤ 2147483647) ∧ (0 ≤ sg (σ 36 0) l4 (1 - l5) ∧ sg (σ 36 0) l4 (1 - l5) < 10) ∧ (((entS (σ 36 0) l4 l5 (σ 41 0 l3.toNat)) + (sg (σ 36 0) l4 2) < σ 41 0 ((sg (σ 36 0) l4 (1 - l5)).toNat) → (0 ≤ l4 ∧ l4 < 14) ∧ (-2147483648 ≤ (entS (σ 36 0) l4 l5 (σ 41 0 l3.toNat)) + (sg (σ 36 0) l4 2) ∧ (entS (σ 36 0) l4 l5 (σ 41 0 l3.toNat)) + (sg (σ 36 0) l4 2) ≤ 2147483647) ∧ (0 ≤ sg (σ 36 0) l4 (1 - l5) ∧ sg (σ 36 0) l4 (1 - l5) < 10) ∧ (-2147483648 ≤ l5 + 1 ∧ l5 + 1 ≤ 2147483647) ∧ ∀ σ2 : Hp, σ2 = (zup σ 41 0 ((sg (σ 36 0) l4 (1 - l5)).toNat) ((entS (σ 36 0) l4 l5 (σ 41 0 l3.toNat)) + (sg (σ 36 0) l4 2))) → Runs 4 mX11_finds 131 [zR 34 0, zU, zU, zI l3, zI l4, zI (l5 + 1), zU, zU] [] σ2 Q) ∧ (¬ (entS (σ 36 0) l4 l5 (σ 41 0 l3.toNat)) + (sg (σ 36 0) l4 2) < σ 41 0 ((sg (σ 36 0) l4 (1 - l5)).toNat) → (-2147483648 ≤ l5 + 1 ∧ l5 + 1 ≤ 2147483647) ∧ Runs 4 mX11_finds 131 [zR 34 0, zU, zU, zI l3, zI l4, zI (l5 + 1), zU, zU] [] σ Q))))))) ∧ (¬ sg (σ 36 0) l4 l5 = l3 → (-2147483648 ≤ l5 + 1 ∧ l5 + 1 ≤ 2147483647) ∧ Runs 4 mX11_finds 131 [zR 34 0, zU, zU, zI l3, zI l4, zI (l5 + 1), zU, zU] [] σ Q))))) : Runs 4 mX11_finds 131 [zR 34 0, zU, zU, zI l3, zI l4, zI l5, zU, zU] [] σ Q := by
  refine r_blk [qO (.iload 5), qO (.iconst 2)] (pc' := 134) (L' := [zR 34 0, zU, zU, zI l3, zI l4, zI l5, zU, zU]) (S' := [zI 2, zI l5]) (σ' := σ) (Ps := []) (by decide +kernel) rfl trivial ?_
  refine r_icmp_ge (off := 107) (tgt := 241) (by decide +kernel) (by decide) (fun c => ?_) (fun c => ?_)
  · replace h := h.1 c
    refine r_blk [qO (.iinc 4 1), qO (.goto (-127))] (pc' := 117) (L' := [zR 34 0, zU, zU, zI l3, zI (l4 + 1), zI l5, zU, zU]) (S' := []) (σ' := σ) (Ps := [-2147483648 ≤ l4 + 1 ∧ l4 + 1 ≤ 2147483647]) (by decide +kernel) rfl ⟨h.1, trivial⟩ ?_
    replace h := h.2
    exact Runs.fg (fgE (fgU (fgU (fgE (fgE (fgU (fgU (fgU fg0)))))))) h
  · replace h := h.2 c
    refine r_blk [qO (.aload_n 0), qO (.iload 4), qO (.iload 5)] (pc' := 142) (L' := [zR 34 0, zU, zU, zI l3, zI l4, zI l5, zU, zU]) (S' := [zI l5, zI l4, zR 34 0]) (σ' := σ) (Ps := []) (by decide +kernel) rfl trivial ?_
    refine r_callVI (As := [zI l4, zI l5]) (S := []) (Lc := [zR 34 0, zI l4, zI l5]) (d' := 0) (n := 2) (g := 34) (x := 0) (ci := 11) kX11_get vX11_get lkX11_106 (by decide +kernel) (by decide) rfl rfl (by decide) rfl rfl (Nat.le_of_ble_eq_true rfl) rfl rfl (Nat.le_of_ble_eq_true rfl) (pX11_get h.1 h.2.1 ?_)
    replace h := h.2.2
    refine r_blk [qO (.iload_n 3)] (pc' := 146) (L' := [zR 34 0, zU, zU, zI l3, zI l4, zI l5, zU, zU]) (S' := [zI l3, zI (sg (σ 36 0) l4 l5)]) (σ' := σ) (Ps := []) (by decide +kernel) rfl trivial ?_
    refine r_icmp_eq (off := 6) (tgt := 152) (by decide +kernel) (by decide) (fun c => ?_) (fun c => ?_)
    · replace h := h.1 c
      refine r_blk [qO (.aload_n 0), qO (.iload 4), qO (.iload 5), qO (.aload_n 0), qF (.getfield 28) 11 9, qO (.iload_n 3), qO .iaload] (pc' := 163) (L' := [zR 34 0, zU, zU, zI l3, zI l4, zI l5, zU, zU]) (S' := [zI (σ 41 0 l3.toNat), zI l5, zI l4, zR 34 0]) (σ' := σ) (Ps := [0 ≤ l3 ∧ l3 < 10]) (by decide +kernel) rfl ⟨h.1, trivial⟩ ?_
      replace h := h.2
      refine r_callVI (As := [zI l4, zI l5, zI (σ 41 0 l3.toNat)]) (S := []) (Lc := [zR 34 0, zI l4, zI l5, zI (σ 41 0 l3.toNat), zU, zU]) (d' := 3) (n := 3) (g := 34) (x := 0) (ci := 11) kX11_enters vX11_enters lkX11_133 (by decide +kernel) (by decide) rfl rfl (by decide) rfl rfl (Nat.le_of_ble_eq_true rfl) rfl rfl (Nat.le_of_ble_eq_true rfl) (pX11_enters h.1 h.2.1 h.2.2.1 h.2.2.2.1 ?_)
      replace h := h.2.2.2.2
      refine r_blk [qO (.istore 6), qO (.aload_n 0), qO (.iload 4), qO (.iconst 1), qO (.iload 5), qO .isub] (pc' := 175) (L' := [zR 34 0, zU, zU, zI l3, zI l4, zI l5, zI (entS (σ 36 0) l4 l5 (σ 41 0 l3.toNat)), zU]) (S' := [zI (1 - l5), zI l4, zR 34 0]) (σ' := σ) (Ps := [-2147483648 ≤ 1 - l5 ∧ 1 - l5 ≤ 2147483647]) (by decide +kernel) rfl ⟨h.1, trivial⟩ ?_
      replace h := h.2
      refine r_callVI (As := [zI l4, zI (1 - l5)]) (S := []) (Lc := [zR 34 0, zI l4, zI (1 - l5)]) (d' := 0) (n := 2) (g := 34) (x := 0) (ci := 11) kX11_get vX11_get lkX11_106 (by decide +kernel) (by decide) rfl rfl (by decide) rfl rfl (Nat.le_of_ble_eq_true rfl) rfl rfl (Nat.le_of_ble_eq_true rfl) (pX11_get h.1 h.2.1 ?_)
      replace h := h.2.2
      refine r_blk [qO (.istore 7), qO (.iload 6)] (pc' := 182) (L' := [zR 34 0, zU, zU, zI l3, zI l4, zI l5, zI (entS (σ 36 0) l4 l5 (σ 41 0 l3.toNat)), zI (sg (σ 36 0) l4 (1 - l5))]) (S' := [zI (entS (σ 36 0) l4 l5 (σ 41 0 l3.toNat))]) (σ' := σ) (Ps := []) (by decide +kernel) rfl trivial ?_
      refine r_if_lt (off := 53) (tgt := 235) (by decide +kernel) (by decide) (fun c => ?_) (fun c => ?_)
      · replace h := h.1 c
        refine r_blk [qO (.iinc 5 1), qO (.goto (-107))] (pc' := 131) (L' := [zR 34 0, zU, zU, zI l3, zI l4, zI (l5 + 1), zI (entS (σ 36 0) l4 l5 (σ 41 0 l3.toNat)), zI (sg (σ 36 0) l4 (1 - l5))]) (S' := []) (σ' := σ) (Ps := [-2147483648 ≤ l5 + 1 ∧ l5 + 1 ≤ 2147483647]) (by decide +kernel) rfl ⟨h.1, trivial⟩ ?_
        replace h := h.2
        exact Runs.fg (fgE (fgU (fgU (fgE (fgE (fgE (fgU (fgU fg0)))))))) h
      · replace h := h.2 c
        refine r_blk [qO (.aload_n 0), qF (.getfield 28) 11 9, qO (.iload 7), qO .iaload] (pc' := 192) (L' := [zR 34 0, zU, zU, zI l3, zI l4, zI l5, zI (entS (σ 36 0) l4 l5 (σ 41 0 l3.toNat)), zI (sg (σ 36 0) l4 (1 - l5))]) (S' := [zI (σ 41 0 ((sg (σ 36 0) l4 (1 - l5)).toNat))]) (σ' := σ) (Ps := [0 ≤ sg (σ 36 0) l4 (1 - l5) ∧ sg (σ 36 0) l4 (1 - l5) < 10]) (by decide +kernel) rfl ⟨h.1, trivial⟩ ?_
        replace h := h.2
        refine r_if_lt (off := 26) (tgt := 218) (by decide +kernel) (by decide) (fun c => ?_) (fun c => ?_)
        · replace h := h.1 c
          refine r_blk [qO (.aload_n 0), qF (.getfield 28) 11 9, qO (.iload 7), qO (.iload 6), qO (.aload_n 0), qO (.iload 4), qO (.iconst 2)] (pc' := 230) (L' := [zR 34 0, zU, zU, zI l3, zI l4, zI l5, zI (entS (σ 36 0) l4 l5 (σ 41 0 l3.toNat)), zI (sg (σ 36 0) l4 (1 - l5))]) (S' := [zI 2, zI l4, zR 34 0, zI (entS (σ 36 0) l4 l5 (σ 41 0 l3.toNat)), zI (sg (σ 36 0) l4 (1 - l5)), zR 41 0]) (σ' := σ) (Ps := []) (by decide +kernel) rfl trivial ?_
          refine r_callVI (As := [zI l4, zI 2]) (S := [zI (entS (σ 36 0) l4 l5 (σ 41 0 l3.toNat)), zI (sg (σ 36 0) l4 (1 - l5)), zR 41 0]) (Lc := [zR 34 0, zI l4, zI 2]) (d' := 0) (n := 2) (g := 34) (x := 0) (ci := 11) kX11_get vX11_get lkX11_106 (by decide +kernel) (by decide) rfl rfl (by decide) rfl rfl (Nat.le_of_ble_eq_true rfl) rfl rfl (Nat.le_of_ble_eq_true rfl) (pX11_get h.1 (by decide) ?_)
          replace h := h.2
          refine r_blk [qO .iadd, qO .iastore, qO (.iinc 5 1), qO (.goto (-107))] (pc' := 131) (L' := [zR 34 0, zU, zU, zI l3, zI l4, zI (l5 + 1), zI (entS (σ 36 0) l4 l5 (σ 41 0 l3.toNat)), zI (sg (σ 36 0) l4 (1 - l5))]) (S' := []) (σ' := (zup σ 41 0 ((sg (σ 36 0) l4 (1 - l5)).toNat) ((entS (σ 36 0) l4 l5 (σ 41 0 l3.toNat)) + (sg (σ 36 0) l4 2)))) (Ps := [-2147483648 ≤ (entS (σ 36 0) l4 l5 (σ 41 0 l3.toNat)) + (sg (σ 36 0) l4 2) ∧ (entS (σ 36 0) l4 l5 (σ 41 0 l3.toNat)) + (sg (σ 36 0) l4 2) ≤ 2147483647, 0 ≤ sg (σ 36 0) l4 (1 - l5) ∧ sg (σ 36 0) l4 (1 - l5) < 10, -2147483648 ≤ l5 + 1 ∧ l5 + 1 ≤ 2147483647]) (by decide +kernel) rfl ⟨h.1, h.2.1, h.2.2.1, trivial⟩ ?_
          replace h := h.2.2.2
          generalize hσ1 : (zup σ 41 0 ((sg (σ 36 0) l4 (1 - l5)).toNat) ((entS (σ 36 0) l4 l5 (σ 41 0 l3.toNat)) + (sg (σ 36 0) l4 2))) = σ1
          replace h := h σ1 hσ1.symm
          exact Runs.fg (fgE (fgU (fgU (fgE (fgE (fgE (fgU (fgU fg0)))))))) h
        · replace h := h.2 c
          refine r_blk [qO (.iload 6), qO (.aload_n 0), qO (.iload 4), qO (.iconst 2)] (pc' := 201) (L' := [zR 34 0, zU, zU, zI l3, zI l4, zI l5, zI (entS (σ 36 0) l4 l5 (σ 41 0 l3.toNat)), zI (sg (σ 36 0) l4 (1 - l5))]) (S' := [zI 2, zI l4, zR 34 0, zI (entS (σ 36 0) l4 l5 (σ 41 0 l3.toNat))]) (σ' := σ) (Ps := []) (by decide +kernel) rfl trivial ?_
          refine r_callVI (As := [zI l4, zI 2]) (S := [zI (entS (σ 36 0) l4 l5 (σ 41 0 l3.toNat))]) (Lc := [zR 34 0, zI l4, zI 2]) (d' := 0) (n := 2) (g := 34) (x := 0) (ci := 11) kX11_get vX11_get lkX11_106 (by decide +kernel) (by decide) rfl rfl (by decide) rfl rfl (Nat.le_of_ble_eq_true rfl) rfl rfl (Nat.le_of_ble_eq_true rfl) (pX11_get h.1 (by decide) ?_)
          replace h := h.2
          refine r_blk [qO .iadd, qO (.aload_n 0), qF (.getfield 28) 11 9, qO (.iload 7), qO .iaload] (pc' := 212) (L' := [zR 34 0, zU, zU, zI l3, zI l4, zI l5, zI (entS (σ 36 0) l4 l5 (σ 41 0 l3.toNat)), zI (sg (σ 36 0) l4 (1 - l5))]) (S' := [zI (σ 41 0 ((sg (σ 36 0) l4 (1 - l5)).toNat)), zI ((entS (σ 36 0) l4 l5 (σ 41 0 l3.toNat)) + (sg (σ 36 0) l4 2))]) (σ' := σ) (Ps := [-2147483648 ≤ (entS (σ 36 0) l4 l5 (σ 41 0 l3.toNat)) + (sg (σ 36 0) l4 2) ∧ (entS (σ 36 0) l4 l5 (σ 41 0 l3.toNat)) + (sg (σ 36 0) l4 2) ≤ 2147483647, 0 ≤ sg (σ 36 0) l4 (1 - l5) ∧ sg (σ 36 0) l4 (1 - l5) < 10]) (by decide +kernel) rfl ⟨h.1, h.2.1, trivial⟩ ?_
          replace h := h.2.2
          refine r_icmp_lt (off := 6) (tgt := 218) (by decide +kernel) (by decide) (fun c => ?_) (fun c => ?_)
          · replace h := h.1 c
            refine r_blk [qO (.aload_n 0), qF (.getfield 28) 11 9, qO (.iload 7), qO (.iload 6), qO (.aload_n 0), qO (.iload 4), qO (.iconst 2)] (pc' := 230) (L' := [zR 34 0, zU, zU, zI l3, zI l4, zI l5, zI (entS (σ 36 0) l4 l5 (σ 41 0 l3.toNat)), zI (sg (σ 36 0) l4 (1 - l5))]) (S' := [zI 2, zI l4, zR 34 0, zI (entS (σ 36 0) l4 l5 (σ 41 0 l3.toNat)), zI (sg (σ 36 0) l4 (1 - l5)), zR 41 0]) (σ' := σ) (Ps := []) (by decide +kernel) rfl trivial ?_
            refine r_callVI (As := [zI l4, zI 2]) (S := [zI (entS (σ 36 0) l4 l5 (σ 41 0 l3.toNat)), zI (sg (σ 36 0) l4 (1 - l5)), zR 41 0]) (Lc := [zR 34 0, zI l4, zI 2]) (d' := 0) (n := 2) (g := 34) (x := 0) (ci := 11) kX11_get vX11_get lkX11_106 (by decide +kernel) (by decide) rfl rfl (by decide) rfl rfl (Nat.le_of_ble_eq_true rfl) rfl rfl (Nat.le_of_ble_eq_true rfl) (pX11_get h.1 (by decide) ?_)
            replace h := h.2
            refine r_blk [qO .iadd, qO .iastore, qO (.iinc 5 1), qO (.goto (-107))] (pc' := 131) (L' := [zR 34 0, zU, zU, zI l3, zI l4, zI (l5 + 1), zI (entS (σ 36 0) l4 l5 (σ 41 0 l3.toNat)), zI (sg (σ 36 0) l4 (1 - l5))]) (S' := []) (σ' := (zup σ 41 0 ((sg (σ 36 0) l4 (1 - l5)).toNat) ((entS (σ 36 0) l4 l5 (σ 41 0 l3.toNat)) + (sg (σ 36 0) l4 2)))) (Ps := [-2147483648 ≤ (entS (σ 36 0) l4 l5 (σ 41 0 l3.toNat)) + (sg (σ 36 0) l4 2) ∧ (entS (σ 36 0) l4 l5 (σ 41 0 l3.toNat)) + (sg (σ 36 0) l4 2) ≤ 2147483647, 0 ≤ sg (σ 36 0) l4 (1 - l5) ∧ sg (σ 36 0) l4 (1 - l5) < 10, -2147483648 ≤ l5 + 1 ∧ l5 + 1 ≤ 2147483647]) (by decide +kernel) rfl ⟨h.1, h.2.1, h.2.2.1, trivial⟩ ?_
            replace h := h.2.2.2
            generalize hσ2 : (zup σ 41 0 ((sg (σ 36 0) l4 (1 - l5)).toNat) ((entS (σ 36 0) l4 l5 (σ 41 0 l3.toNat)) + (sg (σ 36 0) l4 2))) = σ2
            replace h := h σ2 hσ2.symm
            exact Runs.fg (fgE (fgU (fgU (fgE (fgE (fgE (fgU (fgU fg0)))))))) h
          · replace h := h.2 c
            refine r_blk [qO (.goto 20), qO (.iinc 5 1), qO (.goto (-107))] (pc' := 131) (L' := [zR 34 0, zU, zU, zI l3, zI l4, zI (l5 + 1), zI (entS (σ 36 0) l4 l5 (σ 41 0 l3.toNat)), zI (sg (σ 36 0) l4 (1 - l5))]) (S' := []) (σ' := σ) (Ps := [-2147483648 ≤ l5 + 1 ∧ l5 + 1 ≤ 2147483647]) (by decide +kernel) rfl ⟨h.1, trivial⟩ ?_
            replace h := h.2
            exact Runs.fg (fgE (fgU (fgU (fgE (fgE (fgE (fgU (fgU fg0)))))))) h
    · replace h := h.2 c
      refine r_blk [qO (.goto 86), qO (.iinc 5 1), qO (.goto (-107))] (pc' := 131) (L' := [zR 34 0, zU, zU, zI l3, zI l4, zI (l5 + 1), zU, zU]) (S' := []) (σ' := σ) (Ps := [-2147483648 ≤ l5 + 1 ∧ l5 + 1 ≤ 2147483647]) (by decide +kernel) rfl ⟨h.1, trivial⟩ ?_
      replace h := h.2
      exact Runs.fg (fgE (fgU (fgU (fgE (fgE (fgE (fgU (fgU fg0)))))))) h
end
section
/-! the reference's search: finds -/
def Off (G : List Nat) (σ0 σ : Hp) : Prop := ∀ g, g ∉ G → σ g = σ0 g
theorem Off.rf {G : List Nat} {σ : Hp} : Off G σ σ := fun _ _ => rfl
theorem Off.tr {G : List Nat} {a b c : Hp} (h1 : Off G a b) (h2 : Off G b c) : Off G a c := fun g hg => (h2 g hg).trans (h1 g hg)
theorem Off.up {G : List Nat} {a b : Hp} {g i j : Nat} {v : Int} (h : Off G a b) (hg : g ∈ G) : Off G a (zup b g i j v) := fun g' hg' => by
  rw [← h g' hg']
  funext i'
  exact zup_ne (fun e => by cases e; exact hg' hg)
theorem Off.mono {G G' : List Nat} {a b : Hp} (h : Off G a b) (hs : ∀ g ∈ G, g ∈ G') : Off G' a b := fun g hg => h g (fun q => hg (hs g q))
def tauR (σ : Hp) (c : Nat) : Int := if σ 41 0 c < 0 then 1000000 else σ 41 0 c
def rep41 (σ : Hp) : Prop := ∀ c, c < 10 → σ 41 0 c = -9 ∨ (0 ≤ σ 41 0 c ∧ σ 41 0 c ≤ 2939)
theorem tauR_lt {σ : Hp} (h : rep41 σ) {c : Nat} (hc : c < 10) (hl : tauR σ c < 1000000) : σ 41 0 c = tauR σ c ∧ 0 ≤ σ 41 0 c := by
  unfold tauR at *
  have := h c hc
  split at hl
  · omega
  · rename_i q
    rw [if_neg q]
    exact ⟨rfl, by omega⟩
theorem tauR_up {σ : Hp} {c0 : Nat} {v : Int} (hv : 0 ≤ v) (c : Nat) : tauR (zup σ 41 0 c0 v) c = if c = c0 then v else tauR σ c := by
  unfold tauR
  by_cases h : c = c0
  · subst h
    simp [zup, show ¬ v < 0 by omega]
  · simp [zup, h]
theorem rep41_up {σ : Hp} {c0 : Nat} {v : Int} (h : rep41 σ) (hv : 0 ≤ v ∧ v ≤ 2939) : rep41 (zup σ 41 0 c0 v) := fun c hc => by
  by_cases q : c = c0
  · subst q
    simp [zup]; omega
  · simp [zup, q]
    exact h c hc
section Finds
variable {K' : Hp → Prop} {s : Nat → Int} {f b : Nat} {m0 : Int} {Z : Nat → Prop}
theorem finds_one (hw : WF s) (hb : b < 10) {σ : Hp} (hs : σ 36 0 = s) (hr : rep41 σ) {Pr : Int → Int → Prop} (hx : RX s f m0 (tauR σ) Z b Pr) {t e : Int} (ht : 0 ≤ t ∧ t < s 1) (he : e = 0 ∨ e = 1)
    (cont : ∀ σ', Off [41] σ σ' → rep41 σ' → RX s f m0 (tauR σ') Z b (fun t' e' => Pr t' e' ∨ (t' = t ∧ e' = e)) → Runs 4 mX11_finds 131 [zR 34 0, zU, zU, zI (b : Int), zI t, zI (e + 1), zU, zU] [] σ' (rV K')) :
    Runs 4 mX11_finds 131 [zR 34 0, zU, zU, zI (b : Int), zI t, zI e, zU, zU] [] σ (rV K') := by
  have hv : vst s t e := ⟨ht.1, ht.2, he⟩
  have v := vst_ok hw hv
  have hw0 := hw
  obtain ⟨w0, w1, -⟩ := hw
  have hTb := (hx.2.2.2.2.2.2.2.1 b hb (Or.inr rfl)).1
  obtain ⟨hb1, hb2⟩ := tauR_lt hr hb hTb
  have hbm : tauR σ b ≤ 2939 := by have := hr b hb; omega
  refine gX11_finds_131 (b : Int) t e σ ⟨fun c => absurd c (by omega), fun _ => ⟨by omega, by omega, fun c => ?_, fun c => ⟨by omega, ?_⟩⟩⟩
  · rw [hs] at c ⊢
    simp only [Int.toNat_natCast]
    rw [hb1]
    have hea : ea s t e = b := by unfold ea; omega
    have c0e : (sg s t (1 - e)).toNat = ea s t (1 - e) := rfl
    rw [c0e]
    refine ⟨by omega, hw0, ht, by omega, he, by omega, by omega, by omega, fun cn => ⟨by omega, ?_⟩, fun cn => ⟨by omega, fun c2 => ⟨by omega, ?_, by omega, by omega, fun σ1 e1 => ?_⟩, fun c2 => ⟨by omega, ?_, by omega, fun c3 => ⟨by omega, ?_, by omega, by omega, fun σ2 e2 => ?_⟩, fun c3 => ⟨by omega, ?_⟩⟩⟩⟩
    · refine cont σ Off.rf hr (hx.none ?_)
      exact Classical.byContradiction (fun q => by have := entS_ge hw0 (m := tauR σ b) (by omega) q; omega)
    all_goals (have hne : entS s t e (tauR σ b) ≠ -9 := by omega)
    all_goals (have g := entS_ge hw0 (m := tauR σ b) (by omega) hne)
    · omega
    · subst e1
      refine cont _ (Off.rf.up (by decide)) (rep41_up hr (by omega)) (hx.go hw0 hb hv hea hne (fun c hc => ?_))
      rw [tauR_up (by omega)]
      by_cases q : c = ea s t (1 - e)
      · rw [if_pos q, if_pos q]
        have : tauR σ c = 1000000 := by unfold tauR; rw [q, if_pos c2]
        rw [this, if_pos (by omega)]
      · rw [if_neg q, if_neg q]
    · omega
    · omega
    · subst e2
      refine cont _ (Off.rf.up (by decide)) (rep41_up hr (by omega)) (hx.go hw0 hb hv hea hne (fun c hc => ?_))
      rw [tauR_up (by omega)]
      by_cases q : c = ea s t (1 - e)
      · rw [if_pos q, if_pos q]
        have : tauR σ c = σ 41 0 c := by unfold tauR; rw [if_neg (by rw [q]; exact c2)]
        rw [this, q, if_pos c3]
      · rw [if_neg q, if_neg q]
    · refine cont σ Off.rf hr (hx.go hw0 hb hv hea hne (fun c hc => ?_))
      by_cases q : c = ea s t (1 - e)
      · rw [if_pos q]
        have : tauR σ c = σ 41 0 c := by unfold tauR; rw [if_neg (by rw [q]; exact c2)]
        rw [this, if_neg (by rw [q]; exact c3)]
      · rw [if_neg q]
  · rw [hs] at c
    refine cont σ Off.rf hr (hx.weak (fun t' e' hv' hp he' => ?_))
    rcases hp with q | ⟨rfl, rfl⟩
    · exact q
    · exfalso
      apply c
      unfold ea at he'
      omega
theorem finds_relax (hw : WF s) (hb : b < 10) {σa : Hp} (hs : σa 36 0 = s) (cont : ∀ σ, Off [41] σa σ → rep41 σ → RX s f m0 (tauR σ) Z b (fun t' _ => t' < s 1) → Runs 4 mX11_finds 36 [zR 34 0, zU, zU, zU, zU, zU, zU, zU] [] σ (rV K')) :
    ∀ (n : Nat) (t : Int) (σ : Hp), (s 1 - t).toNat ≤ n → 0 ≤ t → t ≤ s 1 → Off [41] σa σ → rep41 σ → RX s f m0 (tauR σ) Z b (fun t' _ => t' < t) → Runs 4 mX11_finds 117 [zR 34 0, zU, zU, zI (b : Int), zI t, zU, zU, zU] [] σ (rV K') := by
  intro n
  have w1 := hw.2.1
  induction n with
  | zero =>
    intro t σ hn h0 h1 ho hr hx
    have hs' : σ 36 0 = s := by rw [ho 36 (by decide)]; exact hs
    refine gX11_finds_117 (b : Int) t σ ⟨fun c => ?_, fun c => ?_⟩
    · have : t = s 1 := by omega
      subst this
      exact cont σ ho hr hx
    · rw [hs'] at c; omega
  | succ n ih =>
    intro t σ hn h0 h1 ho hr hx
    have hs' : σ 36 0 = s := by rw [ho 36 (by decide)]; exact hs
    refine gX11_finds_117 (b : Int) t σ ⟨fun c => ?_, fun c => ?_⟩
    · rw [hs'] at c
      have : t = s 1 := by omega
      subst this
      exact cont σ ho hr hx
    · rw [hs'] at c
      refine finds_one hw hb hs' hr hx ⟨h0, by omega⟩ (Or.inl rfl) (fun σ1 o1 r1 x1 => ?_)
      have hs1 : σ1 36 0 = s := by rw [o1 36 (by decide)]; exact hs'
      rw [show (0 : Int) + 1 = 1 by omega]
      refine finds_one hw hb hs1 r1 x1 ⟨h0, by omega⟩ (Or.inr rfl) (fun σ2 o2 r2 x2 => ?_)
      refine gX11_finds_131 (b : Int) t (1 + 1) σ2 ⟨fun _ => ⟨by omega, ?_⟩, fun q => absurd (show (2 : Int) ≤ 1 + 1 by omega) q⟩
      refine ih (t + 1) σ2 (by omega) (by omega) (by omega) ((ho.tr o1).tr o2) r2 (x2.weak (fun t' e' hv' hp _ => ?_))
      by_cases q : t' < t
      · exact Or.inl (Or.inl q)
      · have : t' = t := by omega
        rcases hv'.2.2 with z | z
        · exact Or.inl (Or.inr ⟨this, z⟩)
        · exact Or.inr ⟨this, z⟩
theorem finds_pick {σ : Hp} (hw : WF s) (hs : σ 36 0 = s) (h42 : ∀ c, c < 10 → σ 42 0 c = 0 ∨ σ 42 0 c = 1)
    (none : (∀ c : Nat, (c : Int) < s 0 → σ 42 0 c = 0 → σ 41 0 c < 0) → K' σ)
    (some : ∀ b : Nat, (b : Int) < s 0 → σ 42 0 b = 0 → 0 ≤ σ 41 0 b → (∀ c : Nat, (c : Int) < s 0 → σ 42 0 c = 0 → 0 ≤ σ 41 0 c → σ 41 0 b ≤ σ 41 0 c) → Runs 4 mX11_finds 117 [zR 34 0, zU, zU, zI (b : Int), zI 0, zU, zU, zU] [] (zup σ 42 0 b 1) (rV K')) :
    ∀ (n : Nat) (c : Nat) (best : Int), (s 0 - c).toNat ≤ n → (c : Int) ≤ s 0 →
      ((best = -9 ∧ ∀ c' : Nat, c' < c → σ 42 0 c' = 0 → σ 41 0 c' < 0) ∨ ∃ b : Nat, best = b ∧ b < c ∧ σ 42 0 b = 0 ∧ 0 ≤ σ 41 0 b ∧ ∀ c' : Nat, c' < c → σ 42 0 c' = 0 → 0 ≤ σ 41 0 c' → σ 41 0 b ≤ σ 41 0 c') →
      Runs 4 mX11_finds 42 [zR 34 0, zU, zU, zI best, zI (c : Int), zU, zU, zU] [] σ (rV K') := by
  have w0 := hw.1
  intro n
  induction n with
  | zero =>
    intro c best hn hc hI
    have hcs : (c : Int) = s 0 := by omega
    refine gX11_finds_42 best (c : Int) σ ⟨fun q => ⟨fun q2 => ?_, fun q2 => ?_⟩, fun q => absurd (show σ 36 0 0 ≤ (c : Int) by rw [hs]; omega) q⟩
    · rcases hI with ⟨h1, -⟩ | ⟨b, rfl, h2, h3, h4, h5⟩
      · omega
      · simp only [Int.toNat_natCast]
        exact ⟨by omega, some b (by omega) h3 h4 (fun c' hc' => h5 c' (by omega))⟩
    · rcases hI with ⟨-, h2⟩ | ⟨b, rfl, -⟩
      · exact none (fun c' hc' => h2 c' (by omega))
      · omega
  | succ n ih =>
    intro c best hn hc hI
    by_cases hcs : (c : Int) = s 0
    · refine gX11_finds_42 best (c : Int) σ ⟨fun q => ⟨fun q2 => ?_, fun q2 => ?_⟩, fun q => absurd (show σ 36 0 0 ≤ (c : Int) by rw [hs]; omega) q⟩
      · rcases hI with ⟨h1, -⟩ | ⟨b, rfl, h2, h3, h4, h5⟩
        · omega
        · simp only [Int.toNat_natCast]
          exact ⟨by omega, some b (by omega) h3 h4 (fun c' hc' => h5 c' (by omega))⟩
      · rcases hI with ⟨-, h2⟩ | ⟨b, rfl, -⟩
        · exact none (fun c' hc' => h2 c' (by omega))
        · omega
    · have next : ∀ best' : Int, ((best' = -9 ∧ ∀ c' : Nat, c' < c + 1 → σ 42 0 c' = 0 → σ 41 0 c' < 0) ∨ ∃ b : Nat, best' = b ∧ b < c + 1 ∧ σ 42 0 b = 0 ∧ 0 ≤ σ 41 0 b ∧ ∀ c' : Nat, c' < c + 1 → σ 42 0 c' = 0 → 0 ≤ σ 41 0 c' → σ 41 0 b ≤ σ 41 0 c') → Runs 4 mX11_finds 42 [zR 34 0, zU, zU, zI best', zI ((c : Int) + 1), zU, zU, zU] [] σ (rV K') := fun best' hI' => by
        have e1 : (s 0 - ((c + 1 : Nat) : Int)).toNat ≤ n ∧ ((c + 1 : Nat) : Int) ≤ s 0 := by clear hI hI'; omega
        exact ih (c + 1) best' e1.1 e1.2 hI'
      have split : ∀ c' : Nat, c' < c + 1 → c' < c ∨ c' = c := fun c' h => by omega
      refine gX11_finds_42 best (c : Int) σ ⟨fun q => absurd q (by rw [hs]; omega), fun q => ?_⟩
      simp only [Int.toNat_natCast]
      have keep : (σ 42 0 c = 0 → 0 ≤ σ 41 0 c → best ≠ -9 ∧ ∀ b : Nat, best = b → σ 41 0 b ≤ σ 41 0 c) → ((best = -9 ∧ ∀ c' : Nat, c' < c + 1 → σ 42 0 c' = 0 → σ 41 0 c' < 0) ∨ ∃ b : Nat, best = b ∧ b < c + 1 ∧ σ 42 0 b = 0 ∧ 0 ≤ σ 41 0 b ∧ ∀ c' : Nat, c' < c + 1 → σ 42 0 c' = 0 → 0 ≤ σ 41 0 c' → σ 41 0 b ≤ σ 41 0 c') := fun hk => by
        rcases hI with ⟨h1, h2⟩ | ⟨b, h1, h2, h3, h4, h5⟩
        · refine Or.inl ⟨h1, fun c' hc' hz => ?_⟩
          rcases split c' hc' with z | rfl
          · exact h2 c' z hz
          · by_cases p : σ 41 0 c' < 0
            · exact p
            · exact absurd h1 (hk hz (by omega)).1
        · refine Or.inr ⟨b, h1, by omega, h3, h4, fun c' hc' hz hp => ?_⟩
          rcases split c' hc' with z | rfl
          · exact h5 c' z hz hp
          · exact (hk hz hp).2 b h1
      refine ⟨by omega, fun z => ⟨by omega, next best (keep (fun y => absurd y z))⟩, fun z => ⟨by omega, fun p => ⟨by omega, next best (keep (fun _ y => by omega))⟩, fun p => ⟨fun b0 => ⟨by omega, next (c : Int) ?_⟩, fun b0 => ?_⟩⟩⟩
      · refine Or.inr ⟨c, rfl, by omega, z, by omega, fun c' hc' hz' hp' => ?_⟩
        rcases hI with ⟨h1, h2⟩ | ⟨b, h1, -⟩
        · rcases split c' hc' with y | rfl
          · have := h2 c' y hz'; omega
          · omega
        · omega
      · rcases hI with ⟨h1, -⟩ | ⟨b, rfl, h2, h3, h4, h5⟩
        · omega
        · simp only [Int.toNat_natCast]
          refine ⟨by omega, by omega, fun le => ⟨by omega, next _ (keep (fun _ _ => ⟨by omega, fun b' hb' => ?_⟩))⟩, fun gt => ⟨by omega, next (c : Int) ?_⟩⟩
          · have : b' = b := by omega
            rw [this]; exact le
          · refine Or.inr ⟨c, rfl, by omega, z, by omega, fun c' hc' hz' hp' => ?_⟩
            rcases split c' hc' with y | rfl
            · have := h5 c' y hz' hp'; omega
            · omega
def cntZ (σ : Hp) : Int := σ 42 0 0 + σ 42 0 1 + σ 42 0 2 + σ 42 0 3 + σ 42 0 4 + σ 42 0 5 + σ 42 0 6 + σ 42 0 7 + σ 42 0 8 + σ 42 0 9
theorem cntZ_up {σ : Hp} {b : Nat} (hb : b < 10) (h : σ 42 0 b = 0) : cntZ (zup σ 42 0 b 1) = cntZ σ + 1 := by
  unfold cntZ
  match b, hb with
  | 0, _ => simp [zup]; omega
  | 1, _ => simp [zup]; omega
  | 2, _ => simp [zup]; omega
  | 3, _ => simp [zup]; omega
  | 4, _ => simp [zup]; omega
  | 5, _ => simp [zup]; omega
  | 6, _ => simp [zup]; omega
  | 7, _ => simp [zup]; omega
  | 8, _ => simp [zup]; omega
  | 9, _ => simp [zup]; omega
theorem DI.in {T : Nat → Int} {Zz : Nat → Prop} (hw : WF s) (h : DI s f m0 T Zz) (hf : (f : Int) < s 0) {c : Nat} (hc : c < 10) (hl : T c < 1000000) : (c : Int) < s 0 := by
  by_cases q : c = f
  · rw [q]; exact hf
  · obtain ⟨t, e, hv, h1, -⟩ := h.2.2.2.2.1 c hc hl q
    have v := vst_ok hw hv
    obtain ⟨w0, w1, w2, w3, w4, w5, w6, w7, w8, w9, w10, wst, -⟩ := hw
    obtain ⟨a, b, -⟩ := wst t hv.1 hv.2.1
    rw [← h1]
    rcases hv.2.2 with rfl | rfl
    · rw [v.2.2.2.2.2.2]; exact b.2
    · rw [v.2.2.2.2.2.2]; exact a.2
theorem finds_main (hw : WF s) (hf : (f : Int) < s 0) {σ0 : Hp} (hs : σ0 36 0 = s) (done : ∀ σ, Off [41, 42] σ0 σ → rep41 σ → Soon s f m0 (tauR σ) → K' σ) :
    ∀ (n : Nat) (σ : Hp), (10 - cntZ σ).toNat ≤ n → Off [41, 42] σ0 σ → rep41 σ → (∀ c, c < 10 → σ 42 0 c = 0 ∨ σ 42 0 c = 1) → DI s f m0 (tauR σ) (fun c => σ 42 0 c = 1) → Runs 4 mX11_finds 36 [zR 34 0, zU, zU, zU, zU, zU, zU, zU] [] σ (rV K') := by
  intro n
  induction n with
  | zero =>
    intro σ hn ho hr hz hd
    have hs' : σ 36 0 = s := by rw [ho 36 (by decide)]; exact hs
    have w0 := hw.1
    refine gX11_finds_36 σ (finds_pick hw hs' hz (fun hnone => ?_) (fun b hb hbz hbt hmin => ?_) (s 0).toNat 0 (-9) (by omega) (by omega) (Or.inl ⟨rfl, fun c' hc' => absurd hc' (by omega)⟩))
    · refine done σ ho hr (hd.fin hw (fun v hv hvz => ?_))
      have hlt : ¬ tauR σ v < 1000000 := fun q => by
        have := tauR_lt hr hv q
        have := hnone v (hd.in hw hf hv q) ((hz v hv).resolve_right hvz)
        omega
      have := hd.2.2.2.1 v hv
      omega
    · exfalso
      have e := cntZ_up (σ := σ) (b := b) (by omega) hbz
      have h0 := hz 0 (by omega); have h1 := hz 1 (by omega); have h2 := hz 2 (by omega); have h3 := hz 3 (by omega); have h4 := hz 4 (by omega)
      have h5 := hz 5 (by omega); have h6 := hz 6 (by omega); have h7 := hz 7 (by omega); have h8 := hz 8 (by omega); have h9 := hz 9 (by omega)
      have hz' : ∀ c, c < 10 → (zup σ 42 0 b 1) 42 0 c ≤ 1 := fun c hc => by
        by_cases q : c = b
        · subst q; simp [zup]
        · simp [zup, q]; have := hz c hc; omega
      have g0 := hz' 0 (by omega); have g1 := hz' 1 (by omega); have g2 := hz' 2 (by omega); have g3 := hz' 3 (by omega); have g4 := hz' 4 (by omega)
      have g5 := hz' 5 (by omega); have g6 := hz' 6 (by omega); have g7 := hz' 7 (by omega); have g8 := hz' 8 (by omega); have g9 := hz' 9 (by omega)
      have e2 : cntZ (zup σ 42 0 b 1) ≤ 10 := by unfold cntZ; omega
      omega
  | succ n ih =>
    intro σ hn ho hr hz hd
    have hs' : σ 36 0 = s := by rw [ho 36 (by decide)]; exact hs
    have w0 := hw.1
    refine gX11_finds_36 σ (finds_pick hw hs' hz (fun hnone => ?_) (fun b hb hbz hbt hmin => ?_) (s 0).toNat 0 (-9) (by omega) (by omega) (Or.inl ⟨rfl, fun c' hc' => absurd hc' (by omega)⟩))
    · refine done σ ho hr (hd.fin hw (fun v hv hvz => ?_))
      have hlt : ¬ tauR σ v < 1000000 := fun q => by
        have := tauR_lt hr hv q
        have := hnone v (hd.in hw hf hv q) ((hz v hv).resolve_right hvz)
        omega
      have := hd.2.2.2.1 v hv
      omega
    · have hb10 : b < 10 := by omega
      have e := cntZ_up (σ := σ) hb10 hbz
      have hbT : tauR σ b = σ 41 0 b := by unfold tauR; rw [if_neg (by omega)]
      have hbl : tauR σ b < 1000000 := by have := hr b hb10; omega
      have x0 : RX s f m0 (tauR σ) (fun c => σ 42 0 c = 1) b (fun _ _ => False) := by
        refine RX.start hd hb10 (by omega) hbl (fun v hv hvz => ?_)
        by_cases q : tauR σ v < 1000000
        · have t1 := tauR_lt hr hv q
          have := hmin v (hd.in hw hf hv q) ((hz v hv).resolve_right hvz) t1.2
          omega
        · omega
      have ho1 : Off [41, 42] σ0 (zup σ 42 0 b 1) := ho.up (by decide)
      have htau : tauR (zup σ 42 0 b 1) = tauR σ := by
        funext c
        unfold tauR
        rw [show (zup σ 42 0 b 1) 41 0 = σ 41 0 from zup_ne (fun e => by cases e)]
      have hr1 : rep41 (zup σ 42 0 b 1) := fun c hc => by
        rw [show (zup σ 42 0 b 1) 41 0 = σ 41 0 from zup_ne (fun e => by cases e)]; exact hr c hc
      have hs1 : (zup σ 42 0 b 1) 36 0 = s := by rw [ho1 36 (by decide)]; exact hs
      refine finds_relax (s := s) (f := f) (m0 := m0) (Z := fun c => σ 42 0 c = 1) hw hb10 hs1 (fun σ2 o2 r2 x2 => ?_) (s 1).toNat 0 _ (by omega) (by omega) hw.2.1.1 Off.rf hr1 (by rw [htau]; exact x0.weak (fun t' e' hv' hp _ => absurd hv'.1 (by omega)))
      have e42 : σ2 42 = (zup σ 42 0 b 1) 42 := o2 42 (by decide)
      have c42 : ∀ c, σ2 42 0 c = if c = b then 1 else σ 42 0 c := fun c => by
        rw [e42]
        by_cases q : c = b <;> simp [zup, q]
      refine ih σ2 ?_ (ho1.tr (o2.mono (fun g hg => by simp at hg; subst hg; decide))) r2 (fun c hc => ?_) ?_
      · have : cntZ σ2 = cntZ (zup σ 42 0 b 1) := by unfold cntZ; rw [e42]
        omega
      · rw [c42 c]
        split
        · exact Or.inr rfl
        · exact hz c hc
      · have := x2.done (fun t e hv => hv.2.1)
        have ez : (fun c => σ2 42 0 c = 1) = (fun u => σ 42 0 u = 1 ∨ u = b) := by
          funext c
          rw [c42 c]
          apply propext
          by_cases q : c = b
          · simp [q]
          · simp [q]
        rw [ez]
        exact this
theorem finds_init {σ0 : Hp} {ff m : Int} (hff : 0 ≤ ff ∧ ff < 10) (cont : ∀ σ, Off [41, 42] σ0 σ → (∀ c, c < 10 → σ 41 0 c = -9 ∧ σ 42 0 c = 0) → Runs 4 mX11_finds 36 [zR 34 0, zU, zU, zU, zU, zU, zU, zU] [] (zup σ 41 0 ff.toNat m) (rV K')) :
    ∀ (n i : Nat) (σ : Hp), i + n = 10 → Off [41, 42] σ0 σ → (∀ c, c < i → σ 41 0 c = -9 ∧ σ 42 0 c = 0) → Runs 4 mX11_finds 2 [zR 34 0, zI ff, zI m, zI (i : Int), zU, zU, zU, zU] [] σ (rV K') := by
  intro n
  induction n with
  | zero =>
    intro i σ hi ho hc
    refine gX11_finds_2 ff m (i : Int) σ ⟨fun _ => ⟨hff, cont σ ho (fun c h => hc c (by omega))⟩, fun q => absurd (show (10 : Int) ≤ i by omega) q⟩
  | succ n ih =>
    intro i σ hi ho hc
    refine gX11_finds_2 ff m (i : Int) σ ⟨fun q => absurd q (by omega), fun _ => ⟨by omega, by omega, by omega, ?_⟩⟩
    simp only [Int.toNat_natCast]
    refine ih (i + 1) _ (by omega) ((ho.up (by decide)).up (by decide)) (fun c h => ?_)
    by_cases q : c = i
    · subst q; simp [zup]
    · have := hc c (by omega)
      simp [zup, q, this]
end Finds
/-- finds: the times are the soonest minutes, -9 for never -/
theorem qX11_finds {σ : Hp} {K' : Hp → Prop} {ff m : Int} (hw : WF (σ 36 0)) (hf : 0 ≤ ff ∧ ff < σ 36 0 0) (hm : 0 ≤ m ∧ m ≤ 2879) (h : ∀ σ', Off [41, 42] σ σ' → rep41 σ' → Soon (σ 36 0) ff.toNat m (tauR σ') → K' σ') : Runs 4 mX11_finds 0 [zR 34 0, zI ff, zI m, zU, zU, zU, zU, zU] [] σ (rV K') := by
  have w0 := hw.1
  refine gX11_finds_0 ff m σ (finds_init (by omega) (fun σ1 o1 c1 => ?_) 10 0 σ rfl Off.rf (fun c hc => absurd hc (by omega)))
  have hf10 : ff.toNat < 10 := by omega
  have o2 : Off [41, 42] σ (zup σ1 41 0 ff.toNat m) := o1.up (by decide)
  have z42 : ∀ c, c < 10 → (zup σ1 41 0 ff.toNat m) 42 0 c = 0 := fun c hc => by
    rw [show (zup σ1 41 0 ff.toNat m) 42 0 = σ1 42 0 from zup_ne (fun e => by cases e)]
    exact (c1 c hc).2
  refine finds_main (s := σ 36 0) (f := ff.toNat) (m0 := m) hw (by omega) rfl h 10 _ ?_ o2 ?_ (fun c hc => Or.inl (z42 c hc)) ?_
  · have e : cntZ (zup σ1 41 0 ff.toNat m) = 0 := by
      unfold cntZ
      rw [z42 0 (by omega), z42 1 (by omega), z42 2 (by omega), z42 3 (by omega), z42 4 (by omega), z42 5 (by omega), z42 6 (by omega), z42 7 (by omega), z42 8 (by omega), z42 9 (by omega)]
      rfl
    rw [e]
    decide
  · intro c hc
    by_cases q : c = ff.toNat
    · right; rw [q]; simp [zup]; omega
    · left; simp [zup, q]; exact (c1 c hc).1
  · have ez : (fun c => (zup σ1 41 0 ff.toNat m) 42 0 c = 1) = (fun c => (zup σ1 41 0 ff.toNat m) 42 0 c = 1) := rfl
    have d0 := DI.start (s := σ 36 0) (f := ff.toNat) (m0 := m) (T := tauR (zup σ1 41 0 ff.toNat m)) hf10 hm (fun c hc => by
      rw [tauR_up hm.1]
      split
      · rfl
      · unfold tauR; rw [(c1 c hc).1]; rfl)
    obtain ⟨a0, a1, a2, a3, a4, a5, a6, a7⟩ := d0
    have nz : ∀ u, u < 10 → ¬ (zup σ1 41 0 ff.toNat m) 42 0 u = 1 := fun u hu q => by rw [z42 u hu] at q; omega
    refine ⟨a0, a1, a2, a3, fun c hc hl hcf => ?_, fun t e hv hz => ?_, fun u v hu _ hz => absurd hz (nz u hu), fun u hu hz => absurd hz (nz u hu)⟩
    · obtain ⟨t, e, hv, h1, h2, h3⟩ := a4 c hc hl hcf
      exact h2.elim
    · exact absurd hz (nz _ (vst_ok hw hv).1)
end
section
/-! there are soonest minutes -/
theorem pick_min {T : Nat → Int} {zb : Nat → Int} : ∀ k : Nat, (∀ c, c < k → zb c = 1 ∨ 1000000 ≤ T c) ∨ ∃ b, b < k ∧ ¬ zb b = 1 ∧ T b < 1000000 ∧ ∀ c, c < k → ¬ zb c = 1 → T b ≤ T c
  | 0 => Or.inl (fun c h => absurd h (by omega))
  | k + 1 => by
    rcases pick_min (T := T) (zb := zb) k with h | ⟨b, h1, h2, h3, h4⟩
    · by_cases q : zb k = 1 ∨ 1000000 ≤ T k
      · refine Or.inl (fun c hc => ?_)
        by_cases e : c = k
        · rw [e]; exact q
        · exact h c (by omega)
      · refine Or.inr ⟨k, by omega, fun z => q (Or.inl z), by omega, fun c hc hz => ?_⟩
        by_cases e : c = k
        · rw [e]; omega
        · rcases h c (by omega) with z | z
          · exact absurd z hz
          · omega
    · by_cases q : ¬ zb k = 1 ∧ T k < T b
      · refine Or.inr ⟨k, by omega, q.1, by omega, fun c hc hz => ?_⟩
        by_cases e : c = k
        · rw [e]; omega
        · have := h4 c (by omega) hz
          omega
      · refine Or.inr ⟨b, by omega, h2, h3, fun c hc hz => ?_⟩
        by_cases e : c = k
        · subst e
          by_cases p : T c < T b
          · exact absurd ⟨hz, p⟩ q
          · omega
        · exact h4 c (by omega) hz
theorem ex_one {s : Nat → Int} (hw : WF s) {f : Nat} {m0 : Int} {T : Nat → Int} {Z : Nat → Prop} {b : Nat} {Pr : Int → Int → Prop} (h : RX s f m0 T Z b Pr) (hb : b < 10) {t e : Int} (hv : vst s t e) : ∃ T', RX s f m0 T' Z b (fun t' e' => Pr t' e' ∨ (t' = t ∧ e' = e)) := by
  by_cases he : ea s t e = b
  · by_cases hn : entS s t e (T b) = -9
    · exact ⟨T, h.none hn⟩
    · exact ⟨_, h.go hw hb hv he hn (fun c _ => rfl)⟩
  · refine ⟨T, h.weak (fun t' e' _ hp he' => ?_)⟩
    rcases hp with q | ⟨rfl, rfl⟩
    · exact q
    · exact absurd he' he
theorem ex_relax {s : Nat → Int} (hw : WF s) {f : Nat} {m0 : Int} {Z : Nat → Prop} {b : Nat} (hb : b < 10) : ∀ (n : Nat) (t : Int) (T : Nat → Int), (s 1 - t).toNat ≤ n → 0 ≤ t → t ≤ s 1 → RX s f m0 T Z b (fun t' _ => t' < t) → ∃ T', RX s f m0 T' Z b (fun t' _ => t' < s 1)
  | 0, t, T, hn, h0, h1, h => ⟨T, h.weak (fun t' e' hv hp _ => by show t' < t; have := hv.2.1; omega)⟩
  | n + 1, t, T, hn, h0, h1, h => by
    by_cases q : t = s 1
    · subst q; exact ⟨T, h⟩
    · obtain ⟨T1, x1⟩ := ex_one hw h hb (t := t) (e := 0) ⟨h0, by omega, Or.inl rfl⟩
      obtain ⟨T2, x2⟩ := ex_one hw x1 hb (t := t) (e := 1) ⟨h0, by omega, Or.inr rfl⟩
      refine ex_relax hw hb n (t + 1) T2 (by omega) (by omega) (by omega) (x2.weak (fun t' e' hv hp _ => ?_))
      by_cases y : t' < t
      · exact Or.inl (Or.inl y)
      · have : t' = t := by omega
        rcases hv.2.2 with z | z
        · exact Or.inl (Or.inr ⟨this, z⟩)
        · exact Or.inr ⟨this, z⟩
def cnt10 (z : Nat → Int) : Int := z 0 + z 1 + z 2 + z 3 + z 4 + z 5 + z 6 + z 7 + z 8 + z 9
theorem cnt10_up {z : Nat → Int} {b : Nat} (hb : b < 10) (h : z b = 0) : cnt10 (fun c => if c = b then 1 else z c) = cnt10 z + 1 := by
  unfold cnt10
  match b, hb with
  | 0, _ => simp; omega
  | 1, _ => simp; omega
  | 2, _ => simp; omega
  | 3, _ => simp; omega
  | 4, _ => simp; omega
  | 5, _ => simp; omega
  | 6, _ => simp; omega
  | 7, _ => simp; omega
  | 8, _ => simp; omega
  | 9, _ => simp; omega
theorem cnt10_le {z : Nat → Int} (h : ∀ c, c < 10 → z c ≤ 1) : cnt10 z ≤ 10 := by
  have h0 := h 0 (by omega); have h1 := h 1 (by omega); have h2 := h 2 (by omega); have h3 := h 3 (by omega); have h4 := h 4 (by omega)
  have h5 := h 5 (by omega); have h6 := h 6 (by omega); have h7 := h 7 (by omega); have h8 := h 8 (by omega); have h9 := h 9 (by omega)
  unfold cnt10
  omega
theorem ex_main {s : Nat → Int} (hw : WF s) {f : Nat} {m0 : Int} : ∀ (n : Nat) (T zb : Nat → Int), (10 - cnt10 zb).toNat ≤ n → (∀ c, c < 10 → zb c = 0 ∨ zb c = 1) → DI s f m0 T (fun c => zb c = 1) → ∃ D, Soon s f m0 D := by
  intro n
  have fin : ∀ T zb : Nat → Int, (∀ c, c < 10 → zb c = 1 ∨ 1000000 ≤ T c) → DI s f m0 T (fun c => zb c = 1) → ∃ D, Soon s f m0 D := fun T zb h hd => ⟨T, hd.fin hw (fun v hv hz => by
    have := hd.2.2.2.1 v hv
    rcases h v hv with q | q
    · exact absurd q hz
    · omega)⟩
  have step : ∀ (T zb : Nat → Int) (b : Nat), b < 10 → ¬ zb b = 1 → T b < 1000000 → (∀ c, c < 10 → ¬ zb c = 1 → T b ≤ T c) → DI s f m0 T (fun c => zb c = 1) → ∃ T', DI s f m0 T' (fun c => (if c = b then 1 else zb c) = 1) := fun T zb b hb hz hl hm hd => by
    have x0 := RX.start hd hb hz hl hm
    obtain ⟨T', x1⟩ := ex_relax hw hb (s 1).toNat 0 T (by omega) (by omega) hw.2.1.1 (x0.weak (fun t' e' hv hp _ => absurd hv.1 (by omega)))
    refine ⟨T', ?_⟩
    have := x1.done (fun t e hv => hv.2.1)
    have ez : (fun c => (if c = b then 1 else zb c) = 1) = (fun u => zb u = 1 ∨ u = b) := by
      funext c
      apply propext
      by_cases q : c = b <;> simp [q]
    rw [ez]
    exact this
  induction n with
  | zero =>
    intro T zb hn hz hd
    rcases pick_min (T := T) (zb := zb) 10 with h | ⟨b, h1, h2, h3, h4⟩
    · exact fin T zb h hd
    · exfalso
      have e := cnt10_up h1 ((hz b h1).resolve_right h2)
      have l := cnt10_le (z := fun c => if c = b then 1 else zb c) (fun c hc => by
        by_cases q : c = b
        · simp [q]
        · simp [q]; have := hz c hc; omega)
      omega
  | succ n ih =>
    intro T zb hn hz hd
    rcases pick_min (T := T) (zb := zb) 10 with h | ⟨b, h1, h2, h3, h4⟩
    · exact fin T zb h hd
    · have e := cnt10_up h1 ((hz b h1).resolve_right h2)
      obtain ⟨T', d'⟩ := step T zb b h1 h2 h3 h4 hd
      refine ih T' (fun c => if c = b then 1 else zb c) (by omega) (fun c hc => ?_) d'
      by_cases q : c = b
      · simp [q]
      · simp [q]; exact hz c hc
theorem soon_ex {s : Nat → Int} (hw : WF s) {f : Nat} {m0 : Int} (hf : f < 10) (hm : 0 ≤ m0 ∧ m0 ≤ 2879) : ∃ D, Soon s f m0 D := by
  have d0 := DI.start (s := s) (f := f) (m0 := m0) (T := fun c => if c = f then m0 else 1000000) hf hm (fun c _ => rfl)
  refine ex_main hw 10 (fun c => if c = f then m0 else 1000000) (fun _ => 0) (by decide) (fun _ _ => Or.inl rfl) ?_
  have ez : (fun _ : Nat => (0 : Int) = 1) = (fun _ => False) := by funext c; simp
  rw [ez]
  exact d0
theorem dist_soon {s : Nat → Int} (hw : WF s) {f : Nat} {m0 : Int} (hf : f < 10) (hm : 0 ≤ m0 ∧ m0 ≤ 2879) : Soon s f m0 (dist s f m0) := by
  obtain ⟨D, h⟩ := soon_ex hw hf hm
  exact dist_fin h
end
section
/-! the class's traffic, held against the town of the reference -/
def tAlong (σ : Hp) (a b e : Int) : Hp := if e = -9 then σ else zup σ 18 0 b.toNat (if e + σ 4 0 a.toNat < σ 18 0 b.toNat then e + σ 4 0 a.toNat else σ 18 0 b.toNat)
theorem pX8_goAlongB {σ : Hp} {K' : Hp → Prop} {s t e : Int} (cs : 0 ≤ s ∧ s < 14) (ct : 0 ≤ t ∧ t < 10) (ce : -9 ≤ e ∧ e ≤ 1000000) (cw : 0 ≤ σ 4 0 s.toNat ∧ σ 4 0 s.toNat ≤ 60) (h : K' (tAlong σ s t e)) : Runs 1 mX8_goAlong 0 [zR 17 0, zI s, zI t, zI e] [] σ (rV K') := by
  unfold tAlong at h
  refine pX8_goAlong cs ct ce cw (fun q => ?_) (fun q => ?_)
  · rw [if_pos q] at h; exact h
  · rw [if_neg q] at h; exact h
def TRc (σ : Hp) (s : Nat → Int) : Prop := σ 16 0 1 = s 8 ∧ σ 16 0 2 = s 7 ∧ σ 16 0 3 = s 9 ∧ inR (σ 16 0 4) ∧ ∀ t : Int, 0 ≤ t → t < s 1 → bitz (σ 16 0 4) t = ebit s t ∧ bitz (σ 16 0 5) t = bitz (s 4) t ∧ (bitz (σ 16 0 6) t = 1 ↔ (bitz (s 5) t = 1 ∨ (s 8 = 1 ∧ sg s t 3 = 1)))
def TMs (σ : Hp) (s : Nat → Int) : Prop := σ 1 0 0 = s 0 ∧ σ 1 0 1 = s 1 ∧ ∀ t : Int, 0 ≤ t → t < s 1 → σ 2 0 t.toNat = sg s t 0 ∧ σ 3 0 t.toNat = sg s t 1 ∧ σ 4 0 t.toNat = sg s t 2
def Std (σ : Hp) (s : Nat → Int) (m : Int) : Prop := σ 16 0 7 = m ∧ σ 16 0 8 = nextS s m ∧ ∀ t : Int, 0 ≤ t → t < s 1 → bitz (σ 16 0 9) t = (ebit s t + turnsS s m) % 2
theorem tStand_keep {σ : Hp} {m : Int} : (∀ j, j < 7 → (tStand σ m) 16 0 j = σ 16 0 j) ∧ Off [16] σ (tStand σ m) := by
  unfold tStand
  refine ⟨fun j hj => ?_, ((Off.rf.up (by decide)).up (by decide)).up (by decide)⟩
  simp [zup, show j ≠ 7 by omega, show j ≠ 8 by omega, show j ≠ 9 by omega]
theorem TRc.keep {σ σ' : Hp} {s : Nat → Int} (h : TRc σ s) (hk : ∀ j, j < 7 → σ' 16 0 j = σ 16 0 j) : TRc σ' s := by
  unfold TRc
  rw [hk 1 (by omega), hk 2 (by omega), hk 3 (by omega), hk 4 (by omega), hk 5 (by omega), hk 6 (by omega)]
  exact h
theorem TMs.keep {σ σ' : Hp} {s : Nat → Int} {G : List Nat} (h : TMs σ s) (hk : Off G σ σ') (h1 : 1 ∉ G) (h2 : 2 ∉ G) (h3 : 3 ∉ G) (h4 : 4 ∉ G) : TMs σ' s := by
  unfold TMs
  rw [hk 1 h1, hk 2 h2, hk 3 h3, hk 4 h4]
  exact h
theorem Std.of {σ : Hp} {s : Nat → Int} {m : Int} (hw : WF s) (h : TRc σ s) (hm : 0 ≤ m) : Std (tStand σ m) s m := by
  obtain ⟨h1, h2, h3, h4, h5⟩ := h
  have hw1 := hw.2.1
  have et : tTurns σ m = turnsS s m := by unfold tTurns turnsS; rw [h1, h2, h3]
  have en : tTurn σ m = turnS s m := by unfold tTurn turnS; rw [h1, h2, h3]
  refine ⟨by simp [tStand, zup], ?_, fun t ht0 ht1 => ?_⟩
  · have : tNext σ m = nextS s m := by unfold tNext nextS; rw [en]
    simp [tStand, zup, this]
  · have e9 : (tStand σ m) 16 0 9 = tThen σ m := by simp [tStand, zup]
    rw [e9]
    unfold tThen
    rw [et]
    have hb := ebit_01 s t
    have hn := turnsS_nn hw m
    split
    · rename_i q
      rw [bitz_not h4 (by omega), (h5 t ht0 ht1).1]
      omega
    · rename_i q
      rw [(h5 t ht0 ht1).1]
      omega
theorem tEnt_eq {σ : Hp} {s : Nat → Int} {m t e : Int} (h : TRc σ s) (hs : Std σ s m) (ht : 0 ≤ t ∧ t < s 1) (he : e = 0 ∨ e = 1) : tEnt σ t e = entS s t e m := by
  obtain ⟨h1, h2, h3, h4, h5⟩ := h
  obtain ⟨a1, a2, a3⟩ := hs
  obtain ⟨b1, b2, b3⟩ := h5 t ht.1 ht.2
  unfold tEnt entS wayS
  rw [a1, a2, b2, a3 t ht.1 ht.2]
  by_cases c1 : bitz (s 4) t = 1
  · rw [if_pos (Or.inr c1), if_pos (Or.inl c1)]
  · by_cases c2 : 2879 < m
    · rw [if_pos (Or.inl c2), if_pos (Or.inr c2)]
    · rw [if_neg (show ¬ (2879 < m ∨ bitz (s 4) t = 1) from fun q => q.elim c2 c1), if_neg (show ¬ (bitz (s 4) t = 1 ∨ 2879 < m) from fun q => q.elim c1 c2), if_neg c1]
      by_cases c3 : bitz (s 5) t = 1 ∨ (s 8 = 1 ∧ sg s t 3 = 1)
      · rw [if_pos (Or.inl (b3.mpr c3)), if_pos c3, if_pos (Or.inl rfl)]
      · have c4 : ¬ bitz (σ 16 0 6) t = 1 := fun q => c3 (b3.mp q)
        rw [if_neg c3]
        by_cases c5 : (ebit s t + turnsS s m) % 2 = e
        · rw [if_pos (Or.inr c5), if_pos (Or.inr c5)]
        · rw [if_neg (show ¬ (bitz (σ 16 0 6) t = 1 ∨ (ebit s t + turnsS s m) % 2 = e) from fun q => q.elim c4 c5), if_neg (show ¬ ((ebit s t + turnsS s m) % 2 = 2 ∨ (ebit s t + turnsS s m) % 2 = e) from fun q => q.elim (fun z => by omega) c5)]
theorem tWay_eq {σ : Hp} {s : Nat → Int} {m t : Int} (h : TRc σ s) (hs : Std σ s m) (ht : 0 ≤ t ∧ t < s 1) : tWay σ t = wayS s t m := by
  obtain ⟨h1, h2, h3, h4, h5⟩ := h
  obtain ⟨a1, a2, a3⟩ := hs
  obtain ⟨b1, b2, b3⟩ := h5 t ht.1 ht.2
  unfold tWay wayS
  rw [b2, a3 t ht.1 ht.2]
  by_cases c1 : bitz (s 4) t = 1
  · rw [if_pos c1, if_pos c1]
  · rw [if_neg c1, if_neg c1]
    by_cases c3 : bitz (s 5) t = 1 ∨ (s 8 = 1 ∧ sg s t 3 = 1)
    · rw [if_pos (b3.mpr c3), if_pos c3]
    · rw [if_neg (fun q => c3 (b3.mp q)), if_neg c3]
def wn (n c : Nat) : Int := if c < n then 1 else 0
theorem cnt10_wn : ∀ n, n < 11 → cnt10 (wn n) = (n : Int) := by decide
theorem cnt10_n {z : Nat → Int} {n : Nat} (hn : n < 11) (h : ∀ c, c < 10 → z c ≤ wn n c) : cnt10 z ≤ n := by
  have e := cnt10_wn n hn
  have h0 := h 0 (by omega); have h1 := h 1 (by omega); have h2 := h 2 (by omega); have h3 := h 3 (by omega); have h4 := h 4 (by omega)
  have h5 := h 5 (by omega); have h6 := h 6 (by omega); have h7 := h 7 (by omega); have h8 := h 8 (by omega); have h9 := h 9 (by omega)
  rw [← e]
  unfold cnt10
  omega
/-- a bit more -/
theorem pow14 {b : Nat} (hb : b < 14) : ∃ p : Nat, 2 ^ b = p ∧ p < 16384 ∧ zshl 1 (b : Int) = (p : Int) := by
  refine ⟨2 ^ b, rfl, Nat.pow_lt_pow_right (n := 14) (by omega) hb, ?_⟩
  rw [zshl_eq (by omega)]
  norm_cast
theorem bitz_or {a : Int} (ha : 0 ≤ a ∧ a < 16384) {b : Nat} (hb : b < 14) (t : Nat) (ht : t < 32) : bitz (zor a (zshl 1 (b : Int))) (t : Int) = if t = b then 1 else bitz a (t : Int) := by
  obtain ⟨p, hp, hlt, hs⟩ := pow14 hb
  rw [hs, zor_nat (by omega) (by omega)]
  have hor : a.toNat ||| p < 2 ^ 14 := Nat.or_lt_two_pow (by omega) (by omega)
  have e1 : ((p : Nat) : Int).toNat = p := rfl
  rw [e1, bitz_tb ⟨by omega, by omega⟩ (by omega), bitz_tb (by omega) (by omega)]
  rw [show ((a.toNat ||| p : Nat) : Int).toNat = a.toNat ||| p from rfl, show ((t : Int)).toNat = t from rfl, Nat.testBit_or, ← hp, Nat.testBit_two_pow]
  by_cases q : t = b
  · subst q; simp
  · rw [if_neg q]
    simp [show ¬ b = t from fun z => q z.symm]
theorem zor_lt {a : Int} (ha : 0 ≤ a ∧ a < 16384) {b : Nat} (hb : b < 14) : 0 ≤ zor a (zshl 1 (b : Int)) ∧ zor a (zshl 1 (b : Int)) < 16384 := by
  obtain ⟨p, hp, hlt, hs⟩ := pow14 hb
  have e1 : ((p : Nat) : Int).toNat = p := rfl
  rw [hs, zor_nat (by omega) (by omega), e1]
  have hor : a.toNat ||| p < 2 ^ 14 := Nat.or_lt_two_pow (by omega) (by omega)
  omega
theorem bitz_0 (t : Int) : bitz 0 t = 0 := by
  show zand (zshr 0 t) 1 = 0
  have : zshr 0 t = 0 := by
    unfold zshr
    have : (n32 0 >>> (n32 t &&& 31)) = 0 := by
      show (0 : Int32) >>> (n32 t &&& 31) = 0
      exact Int32.zero_shiftRight
    rw [this]
    rfl
  rw [this]
  decide
end
section
theorem gJ7_fill18_0 (a1 : Int) (x : Nat) (σ : Hp) {Q : Option Int → Hp → Prop} (h : Runs 0 mJ7_fill_53178 5 [zR 18 x, zI a1, zI 0, zI 10] [] σ Q) : Runs 0 mJ7_fill_53178 0 [zR 18 x, zI a1, zU, zU] [] σ Q := by
  refine r_blk [qO (.iconst 0), qO (.istore_n 2), qO (.aload_n 0), qO .arraylength, qO (.istore_n 3)] (pc' := 5) (L' := [zR 18 x, zI a1, zI 0, zI 10]) (S' := []) (σ' := σ) (Ps := []) (by decide +kernel) rfl trivial ?_
  exact Runs.fg (fgE (fgE (fgE (fgE fg0)))) h
theorem gJ7_fill18_5 (l1 : Int) (l2 : Int) (l3 : Int) (x : Nat) (σ : Hp) {Q : Option Int → Hp → Prop} (h : ((l3 ≤ l2 → Q none σ) ∧ (¬ l3 ≤ l2 → (0 ≤ l2 ∧ l2 < 10) ∧ (-2147483648 ≤ l2 + 1 ∧ l2 + 1 ≤ 2147483647) ∧ Runs 0 mJ7_fill_53178 5 [zR 18 x, zI l1, zI (l2 + 1), zI l3] [] (zup σ 18 x l2.toNat l1) Q))) : Runs 0 mJ7_fill_53178 5 [zR 18 x, zI l1, zI l2, zI l3] [] σ Q := by
  refine r_blk [qO (.iload_n 2), qO (.iload_n 3)] (pc' := 7) (L' := [zR 18 x, zI l1, zI l2, zI l3]) (S' := [zI l3, zI l2]) (σ' := σ) (Ps := []) (by decide +kernel) rfl trivial ?_
  refine r_icmp_ge (off := 13) (tgt := 20) (by decide +kernel) (by decide) (fun c => ?_) (fun c => ?_)
  · replace h := h.1 c
    exact r_retv (by decide +kernel) rfl h
  · replace h := h.2 c
    refine r_blk [qO (.aload_n 0), qO (.iload_n 2), qO (.iload_n 1), qO .iastore, qO (.iinc 2 1), qO (.goto (-12))] (pc' := 5) (L' := [zR 18 x, zI l1, zI (l2 + 1), zI l3]) (S' := []) (σ' := (zup σ 18 x l2.toNat l1)) (Ps := [0 ≤ l2 ∧ l2 < 10, -2147483648 ≤ l2 + 1 ∧ l2 + 1 ≤ 2147483647]) (by decide +kernel) rfl ⟨h.1, h.2.1, trivial⟩ ?_
    replace h := h.2.2
    exact Runs.fg (fgE (fgE (fgE (fgE fg0)))) h
theorem gJ7_fill21_0 (a1 : Int) (x : Nat) (σ : Hp) {Q : Option Int → Hp → Prop} (h : Runs 0 mJ7_fill_53178 5 [zR 21 x, zI a1, zI 0, zI 10] [] σ Q) : Runs 0 mJ7_fill_53178 0 [zR 21 x, zI a1, zU, zU] [] σ Q := by
  refine r_blk [qO (.iconst 0), qO (.istore_n 2), qO (.aload_n 0), qO .arraylength, qO (.istore_n 3)] (pc' := 5) (L' := [zR 21 x, zI a1, zI 0, zI 10]) (S' := []) (σ' := σ) (Ps := []) (by decide +kernel) rfl trivial ?_
  exact Runs.fg (fgE (fgE (fgE (fgE fg0)))) h
theorem gJ7_fill21_5 (l1 : Int) (l2 : Int) (l3 : Int) (x : Nat) (σ : Hp) {Q : Option Int → Hp → Prop} (h : ((l3 ≤ l2 → Q none σ) ∧ (¬ l3 ≤ l2 → (0 ≤ l2 ∧ l2 < 10) ∧ (-2147483648 ≤ l2 + 1 ∧ l2 + 1 ≤ 2147483647) ∧ Runs 0 mJ7_fill_53178 5 [zR 21 x, zI l1, zI (l2 + 1), zI l3] [] (zup σ 21 x l2.toNat l1) Q))) : Runs 0 mJ7_fill_53178 5 [zR 21 x, zI l1, zI l2, zI l3] [] σ Q := by
  refine r_blk [qO (.iload_n 2), qO (.iload_n 3)] (pc' := 7) (L' := [zR 21 x, zI l1, zI l2, zI l3]) (S' := [zI l3, zI l2]) (σ' := σ) (Ps := []) (by decide +kernel) rfl trivial ?_
  refine r_icmp_ge (off := 13) (tgt := 20) (by decide +kernel) (by decide) (fun c => ?_) (fun c => ?_)
  · replace h := h.1 c
    exact r_retv (by decide +kernel) rfl h
  · replace h := h.2 c
    refine r_blk [qO (.aload_n 0), qO (.iload_n 2), qO (.iload_n 1), qO .iastore, qO (.iinc 2 1), qO (.goto (-12))] (pc' := 5) (L' := [zR 21 x, zI l1, zI (l2 + 1), zI l3]) (S' := []) (σ' := (zup σ 21 x l2.toNat l1)) (Ps := [0 ≤ l2 ∧ l2 < 10, -2147483648 ≤ l2 + 1 ∧ l2 + 1 ≤ 2147483647]) (by decide +kernel) rfl ⟨h.1, h.2.1, trivial⟩ ?_
    replace h := h.2.2
    exact Runs.fg (fgE (fgE (fgE (fgE fg0)))) h
theorem gJ7_fill24_0 (a1 : Int) (x : Nat) (σ : Hp) {Q : Option Int → Hp → Prop} (h : Runs 0 mJ7_fill_53178 5 [zR 24 x, zI a1, zI 0, zI 10] [] σ Q) : Runs 0 mJ7_fill_53178 0 [zR 24 x, zI a1, zU, zU] [] σ Q := by
  refine r_blk [qO (.iconst 0), qO (.istore_n 2), qO (.aload_n 0), qO .arraylength, qO (.istore_n 3)] (pc' := 5) (L' := [zR 24 x, zI a1, zI 0, zI 10]) (S' := []) (σ' := σ) (Ps := []) (by decide +kernel) rfl trivial ?_
  exact Runs.fg (fgE (fgE (fgE (fgE fg0)))) h
theorem gJ7_fill24_5 (l1 : Int) (l2 : Int) (l3 : Int) (x : Nat) (σ : Hp) {Q : Option Int → Hp → Prop} (h : ((l3 ≤ l2 → Q none σ) ∧ (¬ l3 ≤ l2 → (0 ≤ l2 ∧ l2 < 10) ∧ (-2147483648 ≤ l2 + 1 ∧ l2 + 1 ≤ 2147483647) ∧ Runs 0 mJ7_fill_53178 5 [zR 24 x, zI l1, zI (l2 + 1), zI l3] [] (zup σ 24 x l2.toNat l1) Q))) : Runs 0 mJ7_fill_53178 5 [zR 24 x, zI l1, zI l2, zI l3] [] σ Q := by
  refine r_blk [qO (.iload_n 2), qO (.iload_n 3)] (pc' := 7) (L' := [zR 24 x, zI l1, zI l2, zI l3]) (S' := [zI l3, zI l2]) (σ' := σ) (Ps := []) (by decide +kernel) rfl trivial ?_
  refine r_icmp_ge (off := 13) (tgt := 20) (by decide +kernel) (by decide) (fun c => ?_) (fun c => ?_)
  · replace h := h.1 c
    exact r_retv (by decide +kernel) rfl h
  · replace h := h.2 c
    refine r_blk [qO (.aload_n 0), qO (.iload_n 2), qO (.iload_n 1), qO .iastore, qO (.iinc 2 1), qO (.goto (-12))] (pc' := 5) (L' := [zR 24 x, zI l1, zI (l2 + 1), zI l3]) (S' := []) (σ' := (zup σ 24 x l2.toNat l1)) (Ps := [0 ≤ l2 ∧ l2 < 10, -2147483648 ≤ l2 + 1 ∧ l2 + 1 ≤ 2147483647]) (by decide +kernel) rfl ⟨h.1, h.2.1, trivial⟩ ?_
    replace h := h.2.2
    exact Runs.fg (fgE (fgE (fgE (fgE fg0)))) h
theorem gX8_soonestUnsettled_0 (σ : Hp) {Q : Option Int → Hp → Prop} (h : Runs 1 mX8_soonestUnsettled 7 [zR 17 0, zI (-1), zI 1000000, zI 0] [] σ Q) : Runs 1 mX8_soonestUnsettled 0 [zR 17 0, zU, zU, zU] [] σ Q := by
  refine r_blk [qO (.iconst (-1)), qO (.istore_n 1), qC (.ldc 23) 1000000, qO (.istore_n 2), qO (.iconst 0), qO (.istore_n 3)] (pc' := 7) (L' := [zR 17 0, zI (-1), zI 1000000, zI 0]) (S' := []) (σ' := σ) (Ps := []) (by decide +kernel) rfl trivial ?_
  exact Runs.fg (fgE (fgE (fgE (fgE fg0)))) h
theorem gX8_soonestUnsettled_7 (l1 : Int) (l2 : Int) (l3 : Int) (σ : Hp) {Q : Option Int → Hp → Prop} (h : ((σ 1 0 0 ≤ l3 → Q (some l1) σ) ∧ (¬ σ 1 0 0 ≤ l3 → (0 ≤ l3 ∧ l3 < 10) ∧ ((l2 ≤ σ 18 0 l3.toNat → (-2147483648 ≤ l3 + 1 ∧ l3 + 1 ≤ 2147483647) ∧ Runs 1 mX8_soonestUnsettled 7 [zR 17 0, zI l1, zI l2, zI (l3 + 1)] [] σ Q) ∧ (¬ l2 ≤ σ 18 0 l3.toNat → ((¬ bitz (σ 17 0 3) l3 = 0 → (-2147483648 ≤ l3 + 1 ∧ l3 + 1 ≤ 2147483647) ∧ Runs 1 mX8_soonestUnsettled 7 [zR 17 0, zI l1, zI l2, zI (l3 + 1)] [] σ Q) ∧ (bitz (σ 17 0 3) l3 = 0 → (0 ≤ l3 ∧ l3 < 10) ∧ (-2147483648 ≤ l3 + 1 ∧ l3 + 1 ≤ 2147483647) ∧ Runs 1 mX8_soonestUnsettled 7 [zR 17 0, zI l3, zI (σ 18 0 l3.toNat), zI (l3 + 1)] [] σ Q))))))) : Runs 1 mX8_soonestUnsettled 7 [zR 17 0, zI l1, zI l2, zI l3] [] σ Q := by
  refine r_blk [qO (.iload_n 3), qO (.aload_n 0), qF (.getfield 15) 8 0, qF (.getfield 34) 6 0] (pc' := 15) (L' := [zR 17 0, zI l1, zI l2, zI l3]) (S' := [zI (σ 1 0 0), zI l3]) (σ' := σ) (Ps := []) (by decide +kernel) rfl trivial ?_
  refine r_icmp_ge (off := 39) (tgt := 54) (by decide +kernel) (by decide) (fun c => ?_) (fun c => ?_)
  · replace h := h.1 c
    refine r_blk [qO (.iload_n 1)] (pc' := 55) (L' := [zR 17 0, zI l1, zI l2, zI l3]) (S' := [zI l1]) (σ' := σ) (Ps := []) (by decide +kernel) rfl trivial ?_
    exact r_ret (by decide +kernel) rfl (fun _ => h)
  · replace h := h.2 c
    refine r_blk [qO (.aload_n 0), qF (.getfield 9) 8 2, qO (.iload_n 3), qO .iaload, qO (.iload_n 2)] (pc' := 25) (L' := [zR 17 0, zI l1, zI l2, zI l3]) (S' := [zI l2, zI (σ 18 0 l3.toNat)]) (σ' := σ) (Ps := [0 ≤ l3 ∧ l3 < 10]) (by decide +kernel) rfl ⟨h.1, trivial⟩ ?_
    replace h := h.2
    refine r_icmp_ge (off := 23) (tgt := 48) (by decide +kernel) (by decide) (fun c => ?_) (fun c => ?_)
    · replace h := h.1 c
      refine r_blk [qO (.iinc 3 1), qO (.goto (-44))] (pc' := 7) (L' := [zR 17 0, zI l1, zI l2, zI (l3 + 1)]) (S' := []) (σ' := σ) (Ps := [-2147483648 ≤ l3 + 1 ∧ l3 + 1 ≤ 2147483647]) (by decide +kernel) rfl ⟨h.1, trivial⟩ ?_
      replace h := h.2
      exact Runs.fg (fgE (fgE (fgE (fgE fg0)))) h
    · replace h := h.2 c
      refine r_blk [qO (.aload_n 0), qF (.getfield 30) 8 3, qO (.iload_n 3)] (pc' := 33) (L' := [zR 17 0, zI l1, zI l2, zI l3]) (S' := [zI l3, zI (σ 17 0 3)]) (σ' := σ) (Ps := []) (by decide +kernel) rfl trivial ?_
      refine r_callNI (As := [zI (σ 17 0 3), zI l3]) (S := []) (Lc := [zI (σ 17 0 3), zI l3]) (d' := 0) (n := 2) kX10_bitOf vX10_bitOf lkX8_47 (by decide +kernel) (by decide) rfl rfl (Nat.le_of_ble_eq_true rfl) rfl rfl (Nat.le_of_ble_eq_true rfl) (pX10_bitOf  ?_)
      refine r_if_ne (off := 12) (tgt := 48) (by decide +kernel) (by decide) (fun c => ?_) (fun c => ?_)
      · replace h := h.1 c
        refine r_blk [qO (.iinc 3 1), qO (.goto (-44))] (pc' := 7) (L' := [zR 17 0, zI l1, zI l2, zI (l3 + 1)]) (S' := []) (σ' := σ) (Ps := [-2147483648 ≤ l3 + 1 ∧ l3 + 1 ≤ 2147483647]) (by decide +kernel) rfl ⟨h.1, trivial⟩ ?_
        replace h := h.2
        exact Runs.fg (fgE (fgE (fgE (fgE fg0)))) h
      · replace h := h.2 c
        refine r_blk [qO (.iload_n 3), qO (.istore_n 1), qO (.aload_n 0), qF (.getfield 9) 8 2, qO (.iload_n 3), qO .iaload, qO (.istore_n 2), qO (.iinc 3 1), qO (.goto (-44))] (pc' := 7) (L' := [zR 17 0, zI l3, zI (σ 18 0 l3.toNat), zI (l3 + 1)]) (S' := []) (σ' := σ) (Ps := [0 ≤ l3 ∧ l3 < 10, -2147483648 ≤ l3 + 1 ∧ l3 + 1 ≤ 2147483647]) (by decide +kernel) rfl ⟨h.1, h.2.1, trivial⟩ ?_
        replace h := h.2.2
        exact Runs.fg (fgE (fgE (fgE (fgE fg0)))) h
theorem gX8_goOnFrom_0 (a0 : Int) (σ : Hp) {Q : Option Int → Hp → Prop} (h : (0 ≤ a0 ∧ a0 < 10) ∧ (0 ≤ σ 16 0 2 ∧ σ 16 0 2 ≤ 1439) ∧ (10 ≤ σ 16 0 3 ∧ σ 16 0 3 ≤ 720) ∧ (0 ≤ (σ 18 0 a0.toNat) ∧ (σ 18 0 a0.toNat) ≤ 1000000) ∧ ∀ σ1 : Hp, σ1 = tStand σ (σ 18 0 a0.toNat) → Runs 2 mX8_goOnFrom 15 [zR 17 0, zI a0, zI 0] [] σ1 Q) : Runs 2 mX8_goOnFrom 0 [zR 17 0, zI a0, zU] [] σ Q := by
  refine r_blk [qO (.aload_n 0), qF (.getfield 19) 8 1, qO (.aload_n 0), qF (.getfield 9) 8 2, qO (.iload_n 1), qO .iaload] (pc' := 10) (L' := [zR 17 0, zI a0, zU]) (S' := [zI (σ 18 0 a0.toNat), zR 16 0]) (σ' := σ) (Ps := [0 ≤ a0 ∧ a0 < 10]) (by decide +kernel) rfl ⟨h.1, trivial⟩ ?_
  replace h := h.2
  refine r_callVV (As := [zI (σ 18 0 a0.toNat)]) (S := []) (Lc := [zR 16 0, zI (σ 18 0 a0.toNat), zU, zU]) (d' := 0) (n := 1) (g := 16) (x := 0) (ci := 7) kX7_standAt vX7_standAt lkX8_51 (by decide +kernel) (by decide) rfl rfl (by decide) rfl rfl (Nat.le_of_ble_eq_true rfl) rfl rfl (Nat.le_of_ble_eq_true rfl) (pX7_standAt h.1 h.2.1 h.2.2.1 ?_)
  replace h := h.2.2.2
  generalize hσ1 : tStand σ (σ 18 0 a0.toNat) = σ1
  replace h := h σ1 hσ1.symm
  refine r_blk [qO (.iconst 0), qO (.istore_n 2)] (pc' := 15) (L' := [zR 17 0, zI a0, zI 0]) (S' := []) (σ' := σ1) (Ps := []) (by decide +kernel) rfl trivial ?_
  exact Runs.fg (fgE (fgE (fgE fg0))) h
theorem gX8_goOnFrom_15 (l1 : Int) (l2 : Int) (σ : Hp) {Q : Option Int → Hp → Prop} (h : ((σ 1 0 1 ≤ l2 → Q none σ) ∧ (¬ σ 1 0 1 ≤ l2 → (0 ≤ l2 ∧ l2 < 14) ∧ ((¬ σ 2 0 l2.toNat = l1 → (0 ≤ l2 ∧ l2 < 14) ∧ ((¬ σ 3 0 l2.toNat = l1 → (-2147483648 ≤ l2 + 1 ∧ l2 + 1 ≤ 2147483647) ∧ Runs 2 mX8_goOnFrom 15 [zR 17 0, zI l1, zI (l2 + 1)] [] σ Q) ∧ (σ 3 0 l2.toNat = l1 → (0 ≤ l2 ∧ l2 < 14) ∧ (0 ≤ l2 ∧ l2 < 14) ∧ (0 ≤ (σ 2 0 l2.toNat) ∧ (σ 2 0 l2.toNat) < 10) ∧ (-9 ≤ (tEnt σ l2 1) ∧ (tEnt σ l2 1) ≤ 1000000) ∧ (0 ≤ σ 4 0 (l2).toNat ∧ σ 4 0 (l2).toNat ≤ 60) ∧ ∀ σ1 : Hp, σ1 = tAlong σ l2 (σ 2 0 l2.toNat) (tEnt σ l2 1) → (-2147483648 ≤ l2 + 1 ∧ l2 + 1 ≤ 2147483647) ∧ Runs 2 mX8_goOnFrom 15 [zR 17 0, zI l1, zI (l2 + 1)] [] σ1 Q))) ∧ (σ 2 0 l2.toNat = l1 → (0 ≤ l2 ∧ l2 < 14) ∧ (0 ≤ l2 ∧ l2 < 14) ∧ (0 ≤ (σ 3 0 l2.toNat) ∧ (σ 3 0 l2.toNat) < 10) ∧ (-9 ≤ (tEnt σ l2 0) ∧ (tEnt σ l2 0) ≤ 1000000) ∧ (0 ≤ σ 4 0 (l2).toNat ∧ σ 4 0 (l2).toNat ≤ 60) ∧ ∀ σ2 : Hp, σ2 = tAlong σ l2 (σ 3 0 l2.toNat) (tEnt σ l2 0) → (-2147483648 ≤ l2 + 1 ∧ l2 + 1 ≤ 2147483647) ∧ Runs 2 mX8_goOnFrom 15 [zR 17 0, zI l1, zI (l2 + 1)] [] σ2 Q))))) : Runs 2 mX8_goOnFrom 15 [zR 17 0, zI l1, zI l2] [] σ Q := by
  refine r_blk [qO (.iload_n 2), qO (.aload_n 0), qF (.getfield 15) 8 0, qF (.getfield 56) 6 1] (pc' := 23) (L' := [zR 17 0, zI l1, zI l2]) (S' := [zI (σ 1 0 1), zI l2]) (σ' := σ) (Ps := []) (by decide +kernel) rfl trivial ?_
  refine r_icmp_ge (off := 84) (tgt := 107) (by decide +kernel) (by decide) (fun c => ?_) (fun c => ?_)
  · replace h := h.1 c
    exact r_retv (by decide +kernel) rfl h
  · replace h := h.2 c
    refine r_blk [qO (.aload_n 0), qF (.getfield 15) 8 0, qF (.getfield 59) 6 7, qO (.iload_n 2), qO .iaload, qO (.iload_n 1)] (pc' := 36) (L' := [zR 17 0, zI l1, zI l2]) (S' := [zI l1, zI (σ 2 0 l2.toNat)]) (σ' := σ) (Ps := [0 ≤ l2 ∧ l2 < 14]) (by decide +kernel) rfl ⟨h.1, trivial⟩ ?_
    replace h := h.2
    refine r_icmp_ne (off := 29) (tgt := 65) (by decide +kernel) (by decide) (fun c => ?_) (fun c => ?_)
    · replace h := h.1 c
      refine r_blk [qO (.aload_n 0), qF (.getfield 15) 8 0, qF (.getfield 62) 6 8, qO (.iload_n 2), qO .iaload, qO (.iload_n 1)] (pc' := 75) (L' := [zR 17 0, zI l1, zI l2]) (S' := [zI l1, zI (σ 3 0 l2.toNat)]) (σ' := σ) (Ps := [0 ≤ l2 ∧ l2 < 14]) (by decide +kernel) rfl ⟨h.1, trivial⟩ ?_
      replace h := h.2
      refine r_icmp_ne (off := 26) (tgt := 101) (by decide +kernel) (by decide) (fun c => ?_) (fun c => ?_)
      · replace h := h.1 c
        refine r_blk [qO (.iinc 2 1), qO (.goto (-89))] (pc' := 15) (L' := [zR 17 0, zI l1, zI (l2 + 1)]) (S' := []) (σ' := σ) (Ps := [-2147483648 ≤ l2 + 1 ∧ l2 + 1 ≤ 2147483647]) (by decide +kernel) rfl ⟨h.1, trivial⟩ ?_
        replace h := h.2
        exact Runs.fg (fgE (fgE (fgE fg0))) h
      · replace h := h.2 c
        refine r_blk [qO (.aload_n 0), qO (.iload_n 2), qO (.aload_n 0), qF (.getfield 15) 8 0, qF (.getfield 59) 6 7, qO (.iload_n 2), qO .iaload, qO (.aload_n 0), qF (.getfield 19) 8 1, qO (.iload_n 2), qO (.iconst 1)] (pc' := 95) (L' := [zR 17 0, zI l1, zI l2]) (S' := [zI 1, zI l2, zR 16 0, zI (σ 2 0 l2.toNat), zI l2, zR 17 0]) (σ' := σ) (Ps := [0 ≤ l2 ∧ l2 < 14]) (by decide +kernel) rfl ⟨h.1, trivial⟩ ?_
        replace h := h.2
        refine r_callVI (As := [zI l2, zI 1]) (S := [zI (σ 2 0 l2.toNat), zI l2, zR 17 0]) (Lc := [zR 16 0, zI l2, zI 1]) (d' := 0) (n := 2) (g := 16) (x := 0) (ci := 7) kX7_entryOf vX7_entryOf lkX8_65 (by decide +kernel) (by decide) rfl rfl (by decide) rfl rfl (Nat.le_of_ble_eq_true rfl) rfl rfl (Nat.le_of_ble_eq_true rfl) (pX7_entryOf  ?_)
        refine r_callVV (As := [zI l2, zI (σ 2 0 l2.toNat), zI (tEnt σ l2 1)]) (S := []) (Lc := [zR 17 0, zI l2, zI (σ 2 0 l2.toNat), zI (tEnt σ l2 1)]) (d' := 1) (n := 3) (g := 17) (x := 0) (ci := 8) kX8_goAlong vX8_goAlong lkX8_68 (by decide +kernel) (by decide) rfl rfl (by decide) rfl rfl (Nat.le_of_ble_eq_true rfl) rfl rfl (Nat.le_of_ble_eq_true rfl) (pX8_goAlongB h.1 h.2.1 h.2.2.1 h.2.2.2.1 ?_)
        replace h := h.2.2.2.2
        generalize hσ1 : tAlong σ l2 (σ 2 0 l2.toNat) (tEnt σ l2 1) = σ1
        replace h := h σ1 hσ1.symm
        refine r_blk [qO (.iinc 2 1), qO (.goto (-89))] (pc' := 15) (L' := [zR 17 0, zI l1, zI (l2 + 1)]) (S' := []) (σ' := σ1) (Ps := [-2147483648 ≤ l2 + 1 ∧ l2 + 1 ≤ 2147483647]) (by decide +kernel) rfl ⟨h.1, trivial⟩ ?_
        replace h := h.2
        exact Runs.fg (fgE (fgE (fgE fg0))) h
    · replace h := h.2 c
      refine r_blk [qO (.aload_n 0), qO (.iload_n 2), qO (.aload_n 0), qF (.getfield 15) 8 0, qF (.getfield 62) 6 8, qO (.iload_n 2), qO .iaload, qO (.aload_n 0), qF (.getfield 19) 8 1, qO (.iload_n 2), qO (.iconst 0)] (pc' := 56) (L' := [zR 17 0, zI l1, zI l2]) (S' := [zI 0, zI l2, zR 16 0, zI (σ 3 0 l2.toNat), zI l2, zR 17 0]) (σ' := σ) (Ps := [0 ≤ l2 ∧ l2 < 14]) (by decide +kernel) rfl ⟨h.1, trivial⟩ ?_
      replace h := h.2
      refine r_callVI (As := [zI l2, zI 0]) (S := [zI (σ 3 0 l2.toNat), zI l2, zR 17 0]) (Lc := [zR 16 0, zI l2, zI 0]) (d' := 0) (n := 2) (g := 16) (x := 0) (ci := 7) kX7_entryOf vX7_entryOf lkX8_65 (by decide +kernel) (by decide) rfl rfl (by decide) rfl rfl (Nat.le_of_ble_eq_true rfl) rfl rfl (Nat.le_of_ble_eq_true rfl) (pX7_entryOf  ?_)
      refine r_callVV (As := [zI l2, zI (σ 3 0 l2.toNat), zI (tEnt σ l2 0)]) (S := []) (Lc := [zR 17 0, zI l2, zI (σ 3 0 l2.toNat), zI (tEnt σ l2 0)]) (d' := 1) (n := 3) (g := 17) (x := 0) (ci := 8) kX8_goAlong vX8_goAlong lkX8_68 (by decide +kernel) (by decide) rfl rfl (by decide) rfl rfl (Nat.le_of_ble_eq_true rfl) rfl rfl (Nat.le_of_ble_eq_true rfl) (pX8_goAlongB h.1 h.2.1 h.2.2.1 h.2.2.2.1 ?_)
      replace h := h.2.2.2.2
      generalize hσ2 : tAlong σ l2 (σ 3 0 l2.toNat) (tEnt σ l2 0) = σ2
      replace h := h σ2 hσ2.symm
      refine r_blk [qO (.goto 39), qO (.iinc 2 1), qO (.goto (-89))] (pc' := 15) (L' := [zR 17 0, zI l1, zI (l2 + 1)]) (S' := []) (σ' := σ2) (Ps := [-2147483648 ≤ l2 + 1 ∧ l2 + 1 ≤ 2147483647]) (by decide +kernel) rfl ⟨h.1, trivial⟩ ?_
      replace h := h.2
      exact Runs.fg (fgE (fgE (fgE fg0))) h
theorem gX8_setOut_0 (a0 : Int) (a1 : Int) (a2 : Int) (σ : Hp) {Q : Option Int → Hp → Prop} (h : Runs 0 mJ7_fill_53178 0 [zR 18 0, zI 1000000, zU, zU] [] σ (rV (fun σ1 => (0 ≤ a0 ∧ a0 < 10) ∧ Runs 3 mX8_setOut 24 [zR 17 0, zU, zI a1, zU, zI 0, zU] [] (zup (zup σ1 18 0 a0.toNat a2) 17 0 3 0) Q))) : Runs 3 mX8_setOut 0 [zR 17 0, zI a0, zI a1, zI a2, zU, zU] [] σ Q := by
  refine r_blk [qO (.aload_n 0), qF (.getfield 9) 8 2, qC (.ldc 23) 1000000] (pc' := 6) (L' := [zR 17 0, zI a0, zI a1, zI a2, zU, zU]) (S' := [zI 1000000, zR 18 0]) (σ' := σ) (Ps := []) (by decide +kernel) rfl trivial ?_
  refine r_callSV (As := [zR 18 0, zI 1000000]) (S := []) (Lc := [zR 18 0, zI 1000000, zU, zU]) (d' := 0) (n := 2) kJ7_fill_53178 vJ7_fill_53178 lkX8_24 (by decide +kernel) (by decide) rfl rfl (Nat.le_of_ble_eq_true rfl) rfl rfl (Nat.le_of_ble_eq_true rfl) (h.monoV (fun σ1 h => ?_))
  refine r_blk [qO (.aload_n 0), qF (.getfield 9) 8 2, qO (.iload_n 1), qO (.iload_n 3), qO .iastore, qO (.aload_n 0), qO (.iconst 0), qF (.putfield 30) 8 3, qO (.iconst 0), qO (.istore 4)] (pc' := 24) (L' := [zR 17 0, zI a0, zI a1, zI a2, zI 0, zU]) (S' := []) (σ' := (zup (zup σ1 18 0 a0.toNat a2) 17 0 3 0)) (Ps := [0 ≤ a0 ∧ a0 < 10]) (by decide +kernel) rfl ⟨h.1, trivial⟩ ?_
  replace h := h.2
  exact Runs.fg (fgE (fgU (fgE (fgU (fgE (fgU fg0)))))) h
theorem gX8_setOut_24 (l2 : Int) (l4 : Int) (σ : Hp) {Q : Option Int → Hp → Prop} (h : ((σ 1 0 0 ≤ l4 → Q none σ) ∧ (¬ σ 1 0 0 ≤ l4 → Runs 1 mX8_soonestUnsettled 0 [zR 17 0, zU, zU, zU] [] σ (rI (fun z2 σ1 => ((z2 = (-1) → Q none σ1) ∧ (¬ z2 = (-1) → ((¬ z2 = l2 → Runs 2 mX8_goOnFrom 0 [zR 17 0, zI z2, zU] [] (zup σ1 17 0 3 (zor (σ1 17 0 3) (zshl 1 z2))) (rV (fun σ3 => (-2147483648 ≤ l4 + 1 ∧ l4 + 1 ≤ 2147483647) ∧ Runs 3 mX8_setOut 24 [zR 17 0, zU, zI l2, zU, zI (l4 + 1), zU] [] σ3 Q))) ∧ (z2 = l2 → Q none σ1))))))))) : Runs 3 mX8_setOut 24 [zR 17 0, zU, zI l2, zU, zI l4, zU] [] σ Q := by
  refine r_blk [qO (.iload 4), qO (.aload_n 0), qF (.getfield 15) 8 0, qF (.getfield 34) 6 0] (pc' := 33) (L' := [zR 17 0, zU, zI l2, zU, zI l4, zU]) (S' := [zI (σ 1 0 0), zI l4]) (σ' := σ) (Ps := []) (by decide +kernel) rfl trivial ?_
  refine r_icmp_ge (off := 47) (tgt := 80) (by decide +kernel) (by decide) (fun c => ?_) (fun c => ?_)
  · replace h := h.1 c
    exact r_retv (by decide +kernel) rfl h
  · replace h := h.2 c
    refine r_blk [qO (.aload_n 0)] (pc' := 37) (L' := [zR 17 0, zU, zI l2, zU, zI l4, zU]) (S' := [zR 17 0]) (σ' := σ) (Ps := []) (by decide +kernel) rfl trivial ?_
    refine r_callVI (As := []) (S := []) (Lc := [zR 17 0, zU, zU, zU]) (d' := 1) (n := 0) (g := 17) (x := 0) (ci := 8) kX8_soonestUnsettled vX8_soonestUnsettled lkX8_39 (by decide +kernel) (by decide) rfl rfl (by decide) rfl rfl (Nat.le_of_ble_eq_true rfl) rfl rfl (Nat.le_of_ble_eq_true rfl) (h.monoI (fun z2 σ1 h => ?_))
    refine r_blk [qO (.istore 5), qO (.iload 5), qO (.iconst (-1))] (pc' := 45) (L' := [zR 17 0, zU, zI l2, zU, zI l4, zI z2]) (S' := [zI (-1), zI z2]) (σ' := σ1) (Ps := []) (by decide +kernel) rfl trivial ?_
    refine r_icmp_eq (off := 9) (tgt := 54) (by decide +kernel) (by decide) (fun c => ?_) (fun c => ?_)
    · replace h := h.1 c
      exact r_retv (by decide +kernel) rfl h
    · replace h := h.2 c
      refine r_blk [qO (.iload 5), qO (.iload_n 2)] (pc' := 51) (L' := [zR 17 0, zU, zI l2, zU, zI l4, zI z2]) (S' := [zI l2, zI z2]) (σ' := σ1) (Ps := []) (by decide +kernel) rfl trivial ?_
      refine r_icmp_ne (off := 4) (tgt := 55) (by decide +kernel) (by decide) (fun c => ?_) (fun c => ?_)
      · replace h := h.1 c
        refine r_blk [qO (.aload_n 0), qO .dup, qF (.getfield 30) 8 3, qO (.iconst 1), qO (.iload 5), qO .ishl, qO .ior, qF (.putfield 30) 8 3, qO (.aload_n 0), qO (.iload 5)] (pc' := 71) (L' := [zR 17 0, zU, zI l2, zU, zI l4, zI z2]) (S' := [zI z2, zR 17 0]) (σ' := (zup σ1 17 0 3 (zor (σ1 17 0 3) (zshl 1 z2)))) (Ps := []) (by decide +kernel) rfl trivial ?_
        refine r_callVV (As := [zI z2]) (S := []) (Lc := [zR 17 0, zI z2, zU]) (d' := 2) (n := 1) (g := 17) (x := 0) (ci := 8) kX8_goOnFrom vX8_goOnFrom lkX8_43 (by decide +kernel) (by decide) rfl rfl (by decide) rfl rfl (Nat.le_of_ble_eq_true rfl) rfl rfl (Nat.le_of_ble_eq_true rfl) (h.monoV (fun σ3 h => ?_))
        refine r_blk [qO (.iinc 4 1), qO (.goto (-53))] (pc' := 24) (L' := [zR 17 0, zU, zI l2, zU, zI (l4 + 1), zI z2]) (S' := []) (σ' := σ3) (Ps := [-2147483648 ≤ l4 + 1 ∧ l4 + 1 ≤ 2147483647]) (by decide +kernel) rfl ⟨h.1, trivial⟩ ?_
        replace h := h.2
        exact Runs.fg (fgE (fgU (fgE (fgU (fgE (fgU fg0)))))) h
      · replace h := h.2 c
        exact r_retv (by decide +kernel) rfl h
end
section
/-! the class's search: setOut -/
def zfillN (σ : Hp) (g x : Nat) (v : Int) (n : Nat) : Hp := fun g' i' j' => if g' = g ∧ i' = x ∧ j' < n then v else σ g' i' j'
theorem zfillN_up {σ : Hp} {g x : Nat} {v : Int} {n : Nat} : zup (zfillN σ g x v n) g x n v = zfillN σ g x v (n + 1) := by
  funext g' i' j'
  unfold zup zfillN
  by_cases h1 : g' = g ∧ i' = x
  · obtain ⟨rfl, rfl⟩ := h1
    by_cases h2 : j' = n
    · subst h2; simp
    · by_cases h3 : j' < n
      · simp [h2, h3, show j' < n + 1 by omega]
      · simp [h2, h3, show ¬ j' < n + 1 by omega]
  · have a1 : ¬ (g' = g ∧ i' = x ∧ j' = n) := fun q => h1 ⟨q.1, q.2.1⟩
    have a2 : ¬ (g' = g ∧ i' = x ∧ j' < n) := fun q => h1 ⟨q.1, q.2.1⟩
    have a3 : ¬ (g' = g ∧ i' = x ∧ j' < n + 1) := fun q => h1 ⟨q.1, q.2.1⟩
    rw [if_neg a1, if_neg a2, if_neg a3]
theorem zfillN_0 {σ : Hp} {g x : Nat} {v : Int} : zfillN σ g x v 0 = σ := by
  funext g' i' j'
  unfold zfillN
  rw [if_neg (by omega)]
theorem zfillN_off {σ : Hp} {g x : Nat} {v : Int} {n : Nat} : Off [g] σ (zfillN σ g x v n) := fun g' hg => by
  funext i' j'
  unfold zfillN
  rw [if_neg (fun q => hg (by simp [q.1]))]
theorem fill18 {σ : Hp} {K' : Hp → Prop} {x : Nat} {v : Int} (h : K' (zfillN σ 18 x v 10)) : Runs 0 mJ7_fill_53178 0 [zR 18 x, zI v, zU, zU] [] σ (rV K') := by
  have loop : ∀ n i : Nat, i + n = 10 → Runs 0 mJ7_fill_53178 5 [zR 18 x, zI v, zI (i : Int), zI 10] [] (zfillN σ 18 x v i) (rV K') := by
    intro n
    induction n with
    | zero =>
      intro i hi
      have : i = 10 := by omega
      subst this
      exact gJ7_fill18_5 v 10 10 x _ ⟨fun _ => h, fun q => absurd (Int.le_refl _) q⟩
    | succ n ih =>
      intro i hi
      refine gJ7_fill18_5 v (i : Int) 10 x _ ⟨fun q => absurd q (by omega), fun _ => ⟨by omega, by omega, ?_⟩⟩
      simp only [Int.toNat_natCast]
      rw [zfillN_up]
      exact ih (i + 1) (by omega)
  have := loop 10 0 rfl
  rw [zfillN_0] at this
  exact gJ7_fill18_0 v x σ this
theorem fill21 {σ : Hp} {K' : Hp → Prop} {x : Nat} {v : Int} (h : K' (zfillN σ 21 x v 10)) : Runs 0 mJ7_fill_53178 0 [zR 21 x, zI v, zU, zU] [] σ (rV K') := by
  have loop : ∀ n i : Nat, i + n = 10 → Runs 0 mJ7_fill_53178 5 [zR 21 x, zI v, zI (i : Int), zI 10] [] (zfillN σ 21 x v i) (rV K') := by
    intro n
    induction n with
    | zero =>
      intro i hi
      have : i = 10 := by omega
      subst this
      exact gJ7_fill21_5 v 10 10 x _ ⟨fun _ => h, fun q => absurd (Int.le_refl _) q⟩
    | succ n ih =>
      intro i hi
      refine gJ7_fill21_5 v (i : Int) 10 x _ ⟨fun q => absurd q (by omega), fun _ => ⟨by omega, by omega, ?_⟩⟩
      simp only [Int.toNat_natCast]
      rw [zfillN_up]
      exact ih (i + 1) (by omega)
  have := loop 10 0 rfl
  rw [zfillN_0] at this
  exact gJ7_fill21_0 v x σ this
theorem fill24 {σ : Hp} {K' : Hp → Prop} {x : Nat} {v : Int} (h : K' (zfillN σ 24 x v 10)) : Runs 0 mJ7_fill_53178 0 [zR 24 x, zI v, zU, zU] [] σ (rV K') := by
  have loop : ∀ n i : Nat, i + n = 10 → Runs 0 mJ7_fill_53178 5 [zR 24 x, zI v, zI (i : Int), zI 10] [] (zfillN σ 24 x v i) (rV K') := by
    intro n
    induction n with
    | zero =>
      intro i hi
      have : i = 10 := by omega
      subst this
      exact gJ7_fill24_5 v 10 10 x _ ⟨fun _ => h, fun q => absurd (Int.le_refl _) q⟩
    | succ n ih =>
      intro i hi
      refine gJ7_fill24_5 v (i : Int) 10 x _ ⟨fun q => absurd q (by omega), fun _ => ⟨by omega, by omega, ?_⟩⟩
      simp only [Int.toNat_natCast]
      rw [zfillN_up]
      exact ih (i + 1) (by omega)
  have := loop 10 0 rfl
  rw [zfillN_0] at this
  exact gJ7_fill24_0 v x σ this
theorem qX8_soonestUnsettled {σ : Hp} {K : Int → Hp → Prop} (hn : σ 1 0 0 ≤ 10 ∧ 0 ≤ σ 1 0 0) (h1 : (∀ c : Nat, (c : Int) < σ 1 0 0 → bitz (σ 17 0 3) c = 1 ∨ 1000000 ≤ σ 18 0 c) → K (-1) σ)
    (h2 : ∀ b : Nat, (b : Int) < σ 1 0 0 → bitz (σ 17 0 3) b = 0 → σ 18 0 b < 1000000 → (∀ c : Nat, (c : Int) < σ 1 0 0 → bitz (σ 17 0 3) c = 0 → σ 18 0 b ≤ σ 18 0 c) → K (b : Int) σ) : Runs 1 mX8_soonestUnsettled 0 [zR 17 0, zU, zU, zU] [] σ (rI K) := by
  have loop : ∀ (n c : Nat) (l1 l2 : Int), (σ 1 0 0 - c).toNat ≤ n → (c : Int) ≤ σ 1 0 0 →
      ((l1 = -1 ∧ l2 = 1000000 ∧ ∀ c' : Nat, c' < c → bitz (σ 17 0 3) c' = 1 ∨ 1000000 ≤ σ 18 0 c') ∨ ∃ b : Nat, l1 = b ∧ l2 = σ 18 0 b ∧ b < c ∧ bitz (σ 17 0 3) b = 0 ∧ σ 18 0 b < 1000000 ∧ ∀ c' : Nat, c' < c → bitz (σ 17 0 3) c' = 0 → σ 18 0 b ≤ σ 18 0 c') →
      Runs 1 mX8_soonestUnsettled 7 [zR 17 0, zI l1, zI l2, zI (c : Int)] [] σ (rI K) := by
    intro n
    have fin : ∀ (c : Nat) (l1 l2 : Int), (c : Int) = σ 1 0 0 → ((l1 = -1 ∧ l2 = 1000000 ∧ ∀ c' : Nat, c' < c → bitz (σ 17 0 3) c' = 1 ∨ 1000000 ≤ σ 18 0 c') ∨ ∃ b : Nat, l1 = b ∧ l2 = σ 18 0 b ∧ b < c ∧ bitz (σ 17 0 3) b = 0 ∧ σ 18 0 b < 1000000 ∧ ∀ c' : Nat, c' < c → bitz (σ 17 0 3) c' = 0 → σ 18 0 b ≤ σ 18 0 c') → Runs 1 mX8_soonestUnsettled 7 [zR 17 0, zI l1, zI l2, zI (c : Int)] [] σ (rI K) := fun c l1 l2 hc hI => by
      refine gX8_soonestUnsettled_7 l1 l2 (c : Int) σ ⟨fun _ => ?_, fun q => absurd (show σ 1 0 0 ≤ (c : Int) by omega) q⟩
      rcases hI with ⟨rfl, -, h⟩ | ⟨b, rfl, -, hb, hz, hl, hm⟩
      · exact h1 (fun c' hc' => h c' (by omega))
      · exact h2 b (by omega) hz hl (fun c' hc' => hm c' (by omega))
    induction n with
    | zero => intro c l1 l2 hn2 hc hI; exact fin c l1 l2 (by omega) hI
    | succ n ih =>
      intro c l1 l2 hn2 hc hI
      by_cases hcs : (c : Int) = σ 1 0 0
      · exact fin c l1 l2 hcs hI
      · have a1 : (σ 1 0 0 - ((c + 1 : Nat) : Int)).toNat ≤ n ∧ ((c + 1 : Nat) : Int) ≤ σ 1 0 0 := by clear hI; omega
        have split : ∀ c' : Nat, c' < c + 1 → c' < c ∨ c' = c := fun c' h => by omega
        refine gX8_soonestUnsettled_7 l1 l2 (c : Int) σ ⟨fun q => absurd q (by clear hI; omega), fun q => ?_⟩
        simp only [Int.toNat_natCast]
        refine ⟨by clear hI; omega, fun le => ⟨by clear hI; omega, ih (c + 1) l1 l2 a1.1 a1.2 ?_⟩, fun gt => ⟨fun z => ⟨by clear hI; omega, ih (c + 1) l1 l2 a1.1 a1.2 ?_⟩, fun z => ⟨by clear hI; omega, by clear hI; omega, ih (c + 1) _ _ a1.1 a1.2 ?_⟩⟩⟩
        · rcases hI with ⟨e1, e2, h⟩ | ⟨b, e1, e2, hb, hz, hl, hm⟩
          · refine Or.inl ⟨e1, e2, fun c' hc' => ?_⟩
            rcases split c' hc' with y | rfl
            · exact h c' y
            · exact Or.inr (by omega)
          · refine Or.inr ⟨b, e1, e2, by omega, hz, hl, fun c' hc' hz' => ?_⟩
            rcases split c' hc' with y | rfl
            · exact hm c' y hz'
            · omega
        · have z1 : bitz (σ 17 0 3) c = 1 := (bitz_01 _ _).resolve_left z
          rcases hI with ⟨e1, e2, h⟩ | ⟨b, e1, e2, hb, hz, hl, hm⟩
          · refine Or.inl ⟨e1, e2, fun c' hc' => ?_⟩
            rcases split c' hc' with y | rfl
            · exact h c' y
            · exact Or.inl z1
          · refine Or.inr ⟨b, e1, e2, by omega, hz, hl, fun c' hc' hz' => ?_⟩
            rcases split c' hc' with y | rfl
            · exact hm c' y hz'
            · exact absurd hz' z
        · refine Or.inr ⟨c, rfl, rfl, by omega, z, ?_, fun c' hc' hz' => ?_⟩
          · rcases hI with ⟨e1, e2, h⟩ | ⟨b, e1, e2, hb, hz, hl, hm⟩ <;> omega
          · rcases split c' hc' with y | rfl
            · rcases hI with ⟨e1, e2, h⟩ | ⟨b, e1, e2, hb, hz, hl, hm⟩
              · rcases h c' y with k | k
                · omega
                · omega
              · have := hm c' y hz'; omega
            · omega
  exact gX8_soonestUnsettled_0 σ (loop (σ 1 0 0).toNat 0 (-1) 1000000 (by omega) (by omega) (Or.inl ⟨rfl, rfl, fun c' h => absurd h (by omega)⟩))
section Go
variable {K' : Hp → Prop} {s : Nat → Int} {f b : Nat} {m0 : Int} {Z : Nat → Prop}
theorem goOn_loop (hw : WF s) (hb : b < 10) {σ0 : Hp} (ht : TRc σ0 s) (hm : TMs σ0 s) {mb : Int} (hst : Std σ0 s mb) (cont : ∀ σ', Off [18] σ0 σ' → RX s f m0 (σ' 18 0) Z b (fun t' _ => t' < s 1) → K' σ') :
    ∀ (n : Nat) (t : Int) (σ : Hp), (s 1 - t).toNat ≤ n → 0 ≤ t → t ≤ s 1 → Off [18] σ0 σ → σ 18 0 b = mb → RX s f m0 (σ 18 0) Z b (fun t' _ => t' < t) → Runs 2 mX8_goOnFrom 15 [zR 17 0, zI (b : Int), zI t] [] σ (rV K') := by
  have w1 := hw.2.1
  have fin : ∀ (t : Int) (σ : Hp), t = s 1 → Off [18] σ0 σ → RX s f m0 (σ 18 0) Z b (fun t' _ => t' < t) → Runs 2 mX8_goOnFrom 15 [zR 17 0, zI (b : Int), zI t] [] σ (rV K') := fun t σ e ho hx => by
    subst e
    have e1 : σ 1 0 1 = s 1 := by rw [ho 1 (by decide)]; exact hm.2.1
    exact gX8_goOnFrom_15 (b : Int) (s 1) σ ⟨fun _ => cont σ ho hx, fun q => absurd (show σ 1 0 1 ≤ s 1 by omega) q⟩
  intro n
  induction n with
  | zero => intro t σ hn h0 h1 ho hmb hx; exact fin t σ (by omega) ho hx
  | succ n ih =>
    intro t σ hn h0 h1 ho hmb hx
    by_cases hts : t = s 1
    · exact fin t σ hts ho hx
    · have e1 : σ 1 0 1 = s 1 := by rw [ho 1 (by decide)]; exact hm.2.1
      obtain ⟨t2, t3, t4⟩ := hm.2.2 t h0 (by omega)
      rw [← show σ 2 = σ0 2 from ho 2 (by decide)] at t2
      rw [← show σ 3 = σ0 3 from ho 3 (by decide)] at t3
      rw [← show σ 4 = σ0 4 from ho 4 (by decide)] at t4
      have e16 : σ 16 = σ0 16 := ho 16 (by decide)
      have ht' : TRc σ s := ht.keep (fun j _ => by rw [e16])
      have hst' : Std σ s mb := by unfold Std; rw [e16]; exact hst
      obtain ⟨a0, a1, a2, a3, -, -, -, a7, -⟩ := id hx
      have hTb := a3 b hb
      have hTl := (a7 b hb (Or.inr rfl)).1
      have wst := hw.2.2.2.2.2.2.2.2.2.2.2.1 t h0 (by omega)
      unfold stOK at wst
      -- one step by an end
      have step : ∀ e : Int, (e = 0 ∨ e = 1) → sg s t e = (b : Int) → (-9 ≤ tEnt σ t e ∧ tEnt σ t e ≤ 1000000) ∧ ∃ σ1, σ1 = tAlong σ t (sg s t (1 - e)) (tEnt σ t e) ∧ Off [18] σ σ1 ∧ σ1 18 0 b = mb ∧ RX s f m0 (σ1 18 0) Z b (fun t' _ => t' < t + 1) := fun e he hsb => by
        have hv : vst s t e := ⟨h0, by omega, he⟩
        have v := vst_ok hw hv
        have hea : ea s t e = b := by unfold ea; omega
        have hent : tEnt σ t e = entS s t e mb := tEnt_eq ht' hst' ⟨h0, by omega⟩ he
        have hother : ∀ t' e', vst s t' e' → t' < t + 1 → ea s t' e' = b → t' < t ∨ (t' = t ∧ e' = e) := fun t' e' hv' hlt he' => by
          by_cases y : t' < t
          · exact Or.inl y
          · have : t' = t := by omega
            subst this
            refine Or.inr ⟨rfl, ?_⟩
            by_cases z : e' = e
            · exact z
            · have e3 : e' = 1 - e := by rcases he with p | p <;> rcases hv'.2.2 with r | r <;> omega
              rw [e3] at he'
              exact absurd (hea.trans he'.symm) v.2.2.1
        rw [hent]
        by_cases hn9 : entS s t e mb = -9
        · refine ⟨by omega, σ, by unfold tAlong; rw [if_pos hn9], Off.rf, hmb, ?_⟩
          have x1 := hx.none (t := t) (e := e) (by rw [hmb]; exact hn9)
          exact x1.weak (fun t' e' hv' hlt he' => hother t' e' hv' hlt he')
        · have g := entS_ge hw (m := mb) (by omega) hn9
          refine ⟨by omega, _, rfl, ?_, ?_, ?_⟩
          · unfold tAlong; rw [if_neg hn9]; exact Off.rf.up (by decide)
          · unfold tAlong; rw [if_neg hn9]
            have : (b : Nat) ≠ (sg s t (1 - e)).toNat := by rw [← hea]; exact v.2.2.1
            simp [zup, this, hmb]
          · have x1 := hx.go (T' := (tAlong σ t (sg s t (1 - e)) (entS s t e mb)) 18 0) hw hb hv hea (by rw [hmb]; exact hn9) (fun c hc => by
              unfold tAlong; rw [if_neg hn9, hmb, t4]
              have ee : ea s t (1 - e) = (sg s t (1 - e)).toNat := rfl
              rw [ee]
              by_cases y : c = (sg s t (1 - e)).toNat
              · rw [if_pos y]; subst y; simp [zup]
              · rw [if_neg y]; simp [zup, y])
            exact x1.weak (fun t' e' hv' hlt he' => hother t' e' hv' hlt he')
      have w0 := hw.1
      refine gX8_goOnFrom_15 (b : Int) t σ ⟨fun q => absurd q (by omega), fun q => ⟨by omega, fun c2 => ⟨by omega, fun c3 => ⟨by omega, ?_⟩, fun c3 => ?_⟩, fun c2 => ?_⟩⟩
      · refine ih (t + 1) σ (by omega) (by omega) (by omega) ho hmb (hx.weak (fun t' e' hv' hlt he' => ?_))
        by_cases y : t' < t
        · exact y
        · exfalso
          have : t' = t := by omega
          subst this
          unfold ea at he'
          rcases hv'.2.2 with p | p
          · rw [p] at he'; apply c2; rw [t2]; omega
          · rw [p] at he'; apply c3; rw [t3]; omega
      · rw [t3] at c3
        obtain ⟨s1, σ1, s2, s3, s4, s5⟩ := step 1 (Or.inr rfl) c3
        rw [show (1 : Int) - 1 = 0 by omega] at s2
        rw [t2, t4]
        refine ⟨by omega, by omega, by omega, s1, by omega, fun σ2 e2 => ?_⟩
        rw [← s2] at e2
        subst e2
        exact ⟨by omega, ih (t + 1) σ2 (by omega) (by omega) (by omega) (ho.tr s3) s4 s5⟩
      · rw [t2] at c2
        obtain ⟨s1, σ1, s2, s3, s4, s5⟩ := step 0 (Or.inl rfl) c2
        rw [show (1 : Int) - 0 = 1 by omega] at s2
        rw [t3, t4]
        refine ⟨by omega, by omega, by omega, s1, by omega, fun σ2 e2 => ?_⟩
        rw [← s2] at e2
        subst e2
        exact ⟨by omega, ih (t + 1) σ2 (by omega) (by omega) (by omega) (ho.tr s3) s4 s5⟩
theorem qX8_goOnFrom (hw : WF s) (hb : b < 10) {σ : Hp} (ht : TRc σ s) (hm : TMs σ s) (hx : RX s f m0 (σ 18 0) Z b (fun _ _ => False)) (cont : ∀ σ', Off [16, 18] σ σ' → (∀ j, j < 7 → σ' 16 0 j = σ 16 0 j) → RX s f m0 (σ' 18 0) Z b (fun t' _ => t' < s 1) → K' σ') :
    Runs 2 mX8_goOnFrom 0 [zR 17 0, zI (b : Int), zU] [] σ (rV K') := by
  obtain ⟨a0, a1, a2, a3, -, -, -, a7, -⟩ := id hx
  have hTb := a3 b hb
  have hTl := (a7 b hb (Or.inr rfl)).1
  have w7 := hw.2.2.2.2.2.2.2.1
  have w9 := hw.2.2.2.2.2.2.2.2.2.1
  have r1 := ht.2.1
  have r2 := ht.2.2.1
  refine gX8_goOnFrom_0 (b : Int) σ ⟨by omega, by omega, by omega, ?_, ?_⟩
  · simp only [Int.toNat_natCast]; omega
  · simp only [Int.toNat_natCast]
    intro σ1 e1
    subst e1
    obtain ⟨k1, k2⟩ := tStand_keep (σ := σ) (m := σ 18 0 b)
    have e18 : (tStand σ (σ 18 0 b)) 18 = σ 18 := k2 18 (by decide)
    refine goOn_loop (f := f) (m0 := m0) (Z := Z) hw hb (ht.keep k1) (hm.keep k2 (by decide) (by decide) (by decide) (by decide)) (Std.of hw ht (by omega)) (fun σ2 o2 x2 => ?_) (s 1).toNat 0 _ (by omega) (by omega) hw.2.1.1 Off.rf (by rw [e18]) ?_
    · refine cont σ2 ((k2.mono (by decide)).tr (o2.mono (by decide))) (fun j hj => ?_) x2
      rw [o2 16 (by decide)]
      exact k1 j hj
    · rw [e18]
      exact hx.weak (fun t' e' hv' hp _ => absurd hv'.1 (by omega))
theorem setOut_loop (hw : WF s) (hf : (f : Int) < s 0) {σ0 : Hp} (ht : TRc σ0 s) (hm : TMs σ0 s) {tg : Int} (htg : tg = -1 ∨ (0 ≤ tg ∧ tg < s 0))
    (cont : ∀ σ', Off [16, 17, 18] σ0 σ' → (∀ j, j < 7 → σ' 16 0 j = σ0 16 0 j) → (tg = -1 → ∀ c, c < 10 → σ' 18 0 c = dist s f m0 c) → (0 ≤ tg → σ' 18 0 tg.toNat = dist s f m0 tg.toNat) → K' σ') :
    ∀ (n i : Nat) (σ : Hp), (s 0 - i).toNat ≤ n → (i : Int) ≤ s 0 → Off [16, 17, 18] σ0 σ → (∀ j, j < 7 → σ 16 0 j = σ0 16 0 j) → (0 ≤ σ 17 0 3 ∧ σ 17 0 3 < 16384) → cnt10 (fun c => bitz (σ 17 0 3) (c : Int)) = i → (∀ c : Nat, s 0 ≤ (c : Int) → c < 10 → bitz (σ 17 0 3) (c : Int) = 0) → DI s f m0 (σ 18 0) (fun c => bitz (σ 17 0 3) (c : Int) = 1) →
      Runs 3 mX8_setOut 24 [zR 17 0, zU, zI tg, zU, zI (i : Int), zU] [] σ (rV K') := by
  have w0 := hw.1
  have full : ∀ σ : Hp, Off [16, 17, 18] σ0 σ → (∀ j, j < 7 → σ 16 0 j = σ0 16 0 j) → DI s f m0 (σ 18 0) (fun c => bitz (σ 17 0 3) (c : Int) = 1) → (∀ c : Nat, (c : Int) < s 0 → bitz (σ 17 0 3) (c : Int) = 1 ∨ 1000000 ≤ σ 18 0 c) → K' σ := fun σ ho hk hd hall => by
    have hs : Soon s f m0 (σ 18 0) := hd.fin hw (fun v hv hz => by
      have hb := hd.2.2.2.1 v hv
      by_cases q : σ 18 0 v < 1000000
      · rcases hall v (hd.in hw hf hv q) with y | y
        · exact absurd y hz
        · omega
      · omega)
    have e := dist_eq hw hs
    refine cont σ ho hk (fun _ c hc => e c hc) (fun h0 => e _ ?_)
    rcases htg with q | q <;> omega
  have last : ∀ (i : Nat) (σ : Hp), (i : Int) = s 0 → Off [16, 17, 18] σ0 σ → (∀ j, j < 7 → σ 16 0 j = σ0 16 0 j) → (0 ≤ σ 17 0 3 ∧ σ 17 0 3 < 16384) → cnt10 (fun c => bitz (σ 17 0 3) (c : Int)) = i → (∀ c : Nat, s 0 ≤ (c : Int) → c < 10 → bitz (σ 17 0 3) (c : Int) = 0) → DI s f m0 (σ 18 0) (fun c => bitz (σ 17 0 3) (c : Int) = 1) → Runs 3 mX8_setOut 24 [zR 17 0, zU, zI tg, zU, zI (i : Int), zU] [] σ (rV K') := fun i σ hi ho hk hmask hcnt hhi hd => by
    have e1 : σ 1 0 0 = s 0 := by rw [ho 1 (by decide)]; exact hm.1
    refine gX8_setOut_24 tg (i : Int) σ ⟨fun _ => full σ ho hk hd (fun c hc => ?_), fun q => absurd (show σ 1 0 0 ≤ (i : Int) by omega) q⟩
    by_cases q : bitz (σ 17 0 3) (c : Int) = 1
    · exact Or.inl q
    · exfalso
      have q0 : (fun c : Nat => bitz (σ 17 0 3) (c : Int)) c = 0 := (bitz_01 _ _).resolve_right q
      have u := cnt10_up (z := fun c => bitz (σ 17 0 3) (c : Int)) (b := c) (by omega) q0
      have l := cnt10_n (z := fun x => if x = c then 1 else bitz (σ 17 0 3) (x : Int)) (n := i) (by omega) (fun x hx => by
        unfold wn
        by_cases y : x < i
        · rw [if_pos y]
          by_cases r : x = c
          · simp [r]
          · simp [r]; have := bitz_01 (σ 17 0 3) (x : Int); omega
        · rw [if_neg y]
          by_cases r : x = c
          · omega
          · simp [r]; have := hhi x (by omega) hx; omega)
      omega
  intro n
  induction n with
  | zero => intro i σ hn hi ho hk hmask hcnt hhi hd; exact last i σ (by omega) ho hk hmask hcnt hhi hd
  | succ n ih =>
    intro i σ hn hi ho hk hmask hcnt hhi hd
    by_cases his : (i : Int) = s 0
    · exact last i σ his ho hk hmask hcnt hhi hd
    · have e1 : σ 1 0 0 = s 0 := by rw [ho 1 (by decide)]; exact hm.1
      refine gX8_setOut_24 tg (i : Int) σ ⟨fun q => absurd q (by omega), fun _ => ?_⟩
      refine qX8_soonestUnsettled (by omega) (fun hnone => ⟨fun _ => ?_, fun q => absurd rfl q⟩) (fun b hb hbz hbl hmin => ⟨fun q => absurd q (by omega), fun _ => ⟨fun hne => ?_, fun heq => ?_⟩⟩)
      · rw [e1] at hnone
        exact full σ ho hk hd hnone
      · rw [e1] at hb hmin
        have hb10 : b < 10 := by omega
        have hminall : ∀ v : Nat, v < 10 → ¬ bitz (σ 17 0 3) (v : Int) = 1 → σ 18 0 b ≤ σ 18 0 v := fun v hv hz => by
          by_cases q : σ 18 0 v < 1000000
          · exact hmin v (hd.in hw hf hv q) ((bitz_01 _ _).resolve_right hz)
          · omega
        generalize hσ1 : zup σ 17 0 3 (zor (σ 17 0 3) (zshl 1 (b : Int))) = σ1
        have o1 : Off [16, 17, 18] σ σ1 := by rw [← hσ1]; exact Off.rf.up (by decide)
        have e16 : σ1 16 = σ 16 := by rw [← hσ1]; funext i'; exact zup_ne (fun e => by cases e)
        have e18 : σ1 18 = σ 18 := by rw [← hσ1]; funext i'; exact zup_ne (fun e => by cases e)
        have e17 : σ1 17 0 3 = zor (σ 17 0 3) (zshl 1 (b : Int)) := by rw [← hσ1]; simp [zup]
        have ho1 := ho.tr o1
        have hk1 : ∀ j, j < 7 → σ1 16 0 j = σ0 16 0 j := fun j hj => by rw [e16]; exact hk j hj
        have x0 := RX.start hd hb10 (fun q => by rw [hbz] at q; omega) hbl hminall
        refine qX8_goOnFrom (s := s) (f := f) (m0 := m0) (Z := fun c => bitz (σ 17 0 3) (c : Int) = 1) hw hb10 (ht.keep hk1) (hm.keep ho1 (by decide) (by decide) (by decide) (by decide)) (by rw [e18]; exact x0) (fun σ2 o2 k2 x2 => ⟨by omega, ?_⟩)
        have e17b : σ2 17 = σ1 17 := o2 17 (by decide)
        have bits : ∀ c : Nat, c < 10 → bitz (σ2 17 0 3) (c : Int) = if c = b then 1 else bitz (σ 17 0 3) (c : Int) := fun c hc => by
          rw [e17b, e17]; exact bitz_or hmask (by omega) c (by omega)
        have hlt := zor_lt hmask (show b < 14 by omega)
        refine ih (i + 1) σ2 (by omega) (by omega) (ho1.tr (o2.mono (by decide))) (fun j hj => by rw [k2 j hj]; exact hk1 j hj) (by rw [e17b, e17]; exact hlt) ?_ (fun c hc hc10 => ?_) ?_
        · have u := cnt10_up (z := fun c => bitz (σ 17 0 3) (c : Int)) hb10 hbz
          have : cnt10 (fun c => bitz (σ2 17 0 3) (c : Int)) = cnt10 (fun c => if c = b then 1 else bitz (σ 17 0 3) (c : Int)) := by
            unfold cnt10
            simp only [bits 0 (by omega), bits 1 (by omega), bits 2 (by omega), bits 3 (by omega), bits 4 (by omega), bits 5 (by omega), bits 6 (by omega), bits 7 (by omega), bits 8 (by omega), bits 9 (by omega)]
          rw [this, u, hcnt]
          omega
        · rw [bits c hc10, if_neg (by omega)]
          exact hhi c hc hc10
        · have d2 := x2.done (fun t e hv => hv.2.1)
          obtain ⟨c0, c1, c2, c3, c4, c5, c6, c7⟩ := d2
          have conv : ∀ c : Nat, c < 10 → (bitz (σ2 17 0 3) (c : Int) = 1 ↔ (bitz (σ 17 0 3) (c : Int) = 1 ∨ c = b)) := fun c hc => by
            rw [bits c hc]
            by_cases q : c = b <;> simp [q]
          refine ⟨c0, c1, c2, c3, fun c hc hl hcf => ?_, fun t e hv hz hne => ?_, fun u v hu hv hzu hzv => ?_, fun u hu hz => ?_⟩
          · obtain ⟨t, e, hv, h1, h2, h3⟩ := c4 c hc hl hcf
            exact ⟨t, e, hv, h1, (conv _ (vst_ok hw hv).1).mpr h2, h3⟩
          · exact c5 t e hv ((conv _ (vst_ok hw hv).1).mp hz) hne
          · exact c6 u v hu hv ((conv u hu).mp hzu) (fun q => hzv ((conv v hv).mpr q))
          · exact c7 u hu ((conv u hu).mp hz)
      · rw [e1] at hb hmin
        have hb10 : b < 10 := by omega
        have ee := soon_early hw hd (dist_soon hw hd.1 hd.2.1) hb10 (fun v hv hz => by
          by_cases q : σ 18 0 v < 1000000
          · exact hmin v (hd.in hw hf hv q) ((bitz_01 _ _).resolve_right hz)
          · omega)
        refine cont σ ho hk (fun q => by omega) (fun _ => ?_)
        rw [← heq]
        exact ee
/-- setOut: the soonest minutes, at the target or everywhere -/
theorem qX8_setOut (hw : WF s) {σ : Hp} (ht : TRc σ s) (hm : TMs σ s) {ff tg mm : Int} (hf : 0 ≤ ff ∧ ff < s 0) (hmm : 0 ≤ mm ∧ mm ≤ 2879) (htg : tg = -1 ∨ (0 ≤ tg ∧ tg < s 0))
    (cont : ∀ σ', Off [16, 17, 18] σ σ' → (∀ j, j < 7 → σ' 16 0 j = σ 16 0 j) → (tg = -1 → ∀ c, c < 10 → σ' 18 0 c = dist s ff.toNat mm c) → (0 ≤ tg → σ' 18 0 tg.toNat = dist s ff.toNat mm tg.toNat) → K' σ') :
    Runs 3 mX8_setOut 0 [zR 17 0, zI ff, zI tg, zI mm, zU, zU] [] σ (rV K') := by
  have w0 := hw.1
  refine gX8_setOut_0 ff tg mm σ (fill18 ⟨by omega, ?_⟩)
  generalize hσ1 : zup (zup (zfillN σ 18 0 1000000 10) 18 0 ff.toNat mm) 17 0 3 0 = σ1
  have o1 : Off [16, 17, 18] σ σ1 := by rw [← hσ1]; exact (((zfillN_off.mono (by decide)).up (by decide)).up (by decide))
  have e16 : σ1 16 = σ 16 := by
    rw [← hσ1]
    have a : (zfillN σ 18 0 1000000 10) 16 = σ 16 := zfillN_off 16 (by decide)
    rw [← a]
    funext i'
    rw [zup_ne (fun e => by cases e), zup_ne (fun e => by cases e)]
  have e17 : σ1 17 0 3 = 0 := by rw [← hσ1]; simp [zup]
  have e18 : ∀ c, c < 10 → σ1 18 0 c = if c = ff.toNat then mm else 1000000 := fun c hc => by
    rw [← hσ1]
    by_cases q : c = ff.toNat
    · subst q; simp [zup]
    · simp [zup, q, zfillN, hc]
  have hk1 : ∀ j, j < 7 → σ1 16 0 j = σ 16 0 j := fun j _ => by rw [e16]
  have b0 : ∀ c : Nat, bitz (σ1 17 0 3) (c : Int) = 0 := fun c => by rw [e17]; exact bitz_0 _
  have d0 := DI.start (s := s) (f := ff.toNat) (m0 := mm) (T := σ1 18 0) (by omega) hmm e18
  have := setOut_loop (K' := K') (s := s) (f := ff.toNat) (m0 := mm) hw (by omega) ht hm htg cont (s 0).toNat 0 σ1 (by omega) (by omega) o1 hk1 (by rw [e17]; omega) (by unfold cnt10; simp only [b0]; rfl) (fun c _ _ => b0 c) (by
    have ez : (fun c : Nat => bitz (σ1 17 0 3) (c : Int) = 1) = (fun _ => False) := by
      funext c
      rw [b0 c]
      simp
    rw [ez]
    exact d0)
  exact this
end Go
end
section
theorem gX11_costOf_0 (σ : Hp) {Q : Option Int → Hp → Prop} (h : Runs 5 mX11_costOf 4 [zR 34 0, zI 0, zI 0, zU] [] σ Q) : Runs 5 mX11_costOf 0 [zR 34 0, zU, zU, zU] [] σ Q := by
  refine r_blk [qO (.iconst 0), qO (.istore_n 1), qO (.iconst 0), qO (.istore_n 2)] (pc' := 4) (L' := [zR 34 0, zI 0, zI 0, zU]) (S' := []) (σ' := σ) (Ps := []) (by decide +kernel) rfl trivial ?_
  exact Runs.fg (fgE (fgE (fgE (fgU fg0)))) h
theorem gX11_costOf_4 (l1 : Int) (l2 : Int) (σ : Hp) {Q : Option Int → Hp → Prop} (h : ((σ 36 0 2 ≤ l2 → Q (some l1) σ) ∧ (¬ σ 36 0 2 ≤ l2 → (0 ≤ l2 ∧ l2 < 8) ∧ (0 ≤ l2 ∧ l2 < 8) ∧ Runs 4 mX11_finds 0 [zR 34 0, zI (se (σ 36 0) l2 0), zI (se (σ 36 0) l2 2), zU, zU, zU, zU, zU] [] σ (rV (fun σ1 => (0 ≤ l2 ∧ l2 < 8) ∧ (0 ≤ se (σ1 36 0) l2 1 ∧ se (σ1 36 0) l2 1 < 10) ∧ (0 ≤ l2 ∧ l2 < 8) ∧ ((0 ≤ σ1 41 0 ((se (σ1 36 0) l2 1).toNat) → (0 ≤ l2 ∧ l2 < 8) ∧ (-2147483648 ≤ (σ1 41 0 ((se (σ1 36 0) l2 1).toNat)) - (se (σ1 36 0) l2 2) ∧ (σ1 41 0 ((se (σ1 36 0) l2 1).toNat)) - (se (σ1 36 0) l2 2) ≤ 2147483647) ∧ (-2147483648 ≤ (se (σ1 36 0) l2 3) * ((σ1 41 0 ((se (σ1 36 0) l2 1).toNat)) - (se (σ1 36 0) l2 2)) ∧ (se (σ1 36 0) l2 3) * ((σ1 41 0 ((se (σ1 36 0) l2 1).toNat)) - (se (σ1 36 0) l2 2)) ≤ 2147483647) ∧ (-2147483648 ≤ l1 + ((se (σ1 36 0) l2 3) * ((σ1 41 0 ((se (σ1 36 0) l2 1).toNat)) - (se (σ1 36 0) l2 2))) ∧ l1 + ((se (σ1 36 0) l2 3) * ((σ1 41 0 ((se (σ1 36 0) l2 1).toNat)) - (se (σ1 36 0) l2 2))) ≤ 2147483647) ∧ (-2147483648 ≤ l2 + 1 ∧ l2 + 1 ≤ 2147483647) ∧ ∀ z2 : Int, z2 = l1 + ((se (σ1 36 0) l2 3) * ((σ1 41 0 ((se (σ1 36 0) l2 1).toNat)) - (se (σ1 36 0) l2 2))) → Runs 5 mX11_costOf 4 [zR 34 0, zI z2, zI (l2 + 1), zU] [] σ1 Q) ∧ (¬ 0 ≤ σ1 41 0 ((se (σ1 36 0) l2 1).toNat) → (-2147483648 ≤ (se (σ1 36 0) l2 3) * 3000 ∧ (se (σ1 36 0) l2 3) * 3000 ≤ 2147483647) ∧ (-2147483648 ≤ l1 + ((se (σ1 36 0) l2 3) * 3000) ∧ l1 + ((se (σ1 36 0) l2 3) * 3000) ≤ 2147483647) ∧ (-2147483648 ≤ l2 + 1 ∧ l2 + 1 ≤ 2147483647) ∧ Runs 5 mX11_costOf 4 [zR 34 0, zI (l1 + ((se (σ1 36 0) l2 3) * 3000)), zI (l2 + 1), zU] [] σ1 Q))))))) : Runs 5 mX11_costOf 4 [zR 34 0, zI l1, zI l2, zU] [] σ Q := by
  refine r_blk [qO (.iload_n 2), qO (.aload_n 0), qF (.getfield 13) 11 1, qO (.iconst 2), qO .iaload] (pc' := 11) (L' := [zR 34 0, zI l1, zI l2, zU]) (S' := [zI (σ 36 0 2), zI l2]) (σ' := σ) (Ps := [0 ≤ 2 ∧ 2 < 123]) (by decide +kernel) rfl ⟨(by decide), trivial⟩ ?_
  refine r_icmp_ge (off := 65) (tgt := 76) (by decide +kernel) (by decide) (fun c => ?_) (fun c => ?_)
  · replace h := h.1 c
    refine r_blk [qO (.iload_n 1)] (pc' := 77) (L' := [zR 34 0, zI l1, zI l2, zU]) (S' := [zI l1]) (σ' := σ) (Ps := []) (by decide +kernel) rfl trivial ?_
    exact r_ret (by decide +kernel) rfl (fun _ => h)
  · replace h := h.2 c
    refine r_blk [qO (.aload_n 0), qO (.aload_n 0), qO (.iload_n 2), qO (.iconst 0)] (pc' := 18) (L' := [zR 34 0, zI l1, zI l2, zU]) (S' := [zI 0, zI l2, zR 34 0, zR 34 0]) (σ' := σ) (Ps := []) (by decide +kernel) rfl trivial ?_
    refine r_callVI (As := [zI l2, zI 0]) (S := [zR 34 0]) (Lc := [zR 34 0, zI l2, zI 0]) (d' := 0) (n := 2) (g := 34) (x := 0) (ci := 11) kX11_of vX11_of lkX11_113 (by decide +kernel) (by decide) rfl rfl (by decide) rfl rfl (Nat.le_of_ble_eq_true rfl) rfl rfl (Nat.le_of_ble_eq_true rfl) (pX11_of h.1 (by decide) ?_)
    replace h := h.2
    refine r_blk [qO (.aload_n 0), qO (.iload_n 2), qO (.iconst 2)] (pc' := 24) (L' := [zR 34 0, zI l1, zI l2, zU]) (S' := [zI 2, zI l2, zR 34 0, zI (se (σ 36 0) l2 0), zR 34 0]) (σ' := σ) (Ps := []) (by decide +kernel) rfl trivial ?_
    refine r_callVI (As := [zI l2, zI 2]) (S := [zI (se (σ 36 0) l2 0), zR 34 0]) (Lc := [zR 34 0, zI l2, zI 2]) (d' := 0) (n := 2) (g := 34) (x := 0) (ci := 11) kX11_of vX11_of lkX11_113 (by decide +kernel) (by decide) rfl rfl (by decide) rfl rfl (Nat.le_of_ble_eq_true rfl) rfl rfl (Nat.le_of_ble_eq_true rfl) (pX11_of h.1 (by decide) ?_)
    replace h := h.2
    refine r_callVV (As := [zI (se (σ 36 0) l2 0), zI (se (σ 36 0) l2 2)]) (S := []) (Lc := [zR 34 0, zI (se (σ 36 0) l2 0), zI (se (σ 36 0) l2 2), zU, zU, zU, zU, zU]) (d' := 4) (n := 2) (g := 34) (x := 0) (ci := 11) kX11_finds vX11_finds lkX11_142 (by decide +kernel) (by decide) rfl rfl (by decide) rfl rfl (Nat.le_of_ble_eq_true rfl) rfl rfl (Nat.le_of_ble_eq_true rfl) (h.monoV (fun σ1 h => ?_))
    refine r_blk [qO (.aload_n 0), qF (.getfield 28) 11 9, qO (.aload_n 0), qO (.iload_n 2), qO (.iconst 1)] (pc' := 37) (L' := [zR 34 0, zI l1, zI l2, zU]) (S' := [zI 1, zI l2, zR 34 0, zR 41 0]) (σ' := σ1) (Ps := []) (by decide +kernel) rfl trivial ?_
    refine r_callVI (As := [zI l2, zI 1]) (S := [zR 41 0]) (Lc := [zR 34 0, zI l2, zI 1]) (d' := 0) (n := 2) (g := 34) (x := 0) (ci := 11) kX11_of vX11_of lkX11_113 (by decide +kernel) (by decide) rfl rfl (by decide) rfl rfl (Nat.le_of_ble_eq_true rfl) rfl rfl (Nat.le_of_ble_eq_true rfl) (pX11_of h.1 (by decide) ?_)
    replace h := h.2
    refine r_blk [qO .iaload, qO (.istore_n 3), qO (.iload_n 1), qO (.aload_n 0), qO (.iload_n 2), qO (.iconst 3)] (pc' := 46) (L' := [zR 34 0, zI l1, zI l2, zI (σ1 41 0 ((se (σ1 36 0) l2 1).toNat))]) (S' := [zI 3, zI l2, zR 34 0, zI l1]) (σ' := σ1) (Ps := [0 ≤ se (σ1 36 0) l2 1 ∧ se (σ1 36 0) l2 1 < 10]) (by decide +kernel) rfl ⟨h.1, trivial⟩ ?_
    replace h := h.2
    refine r_callVI (As := [zI l2, zI 3]) (S := [zI l1]) (Lc := [zR 34 0, zI l2, zI 3]) (d' := 0) (n := 2) (g := 34) (x := 0) (ci := 11) kX11_of vX11_of lkX11_113 (by decide +kernel) (by decide) rfl rfl (by decide) rfl rfl (Nat.le_of_ble_eq_true rfl) rfl rfl (Nat.le_of_ble_eq_true rfl) (pX11_of h.1 (by decide) ?_)
    replace h := h.2
    refine r_blk [qO (.iload_n 3)] (pc' := 50) (L' := [zR 34 0, zI l1, zI l2, zI (σ1 41 0 ((se (σ1 36 0) l2 1).toNat))]) (S' := [zI (σ1 41 0 ((se (σ1 36 0) l2 1).toNat)), zI (se (σ1 36 0) l2 3), zI l1]) (σ' := σ1) (Ps := []) (by decide +kernel) rfl trivial ?_
    refine r_if_ge (off := 9) (tgt := 59) (by decide +kernel) (by decide) (fun c => ?_) (fun c => ?_)
    · replace h := h.1 c
      refine r_blk [qO (.iload_n 3), qO (.aload_n 0), qO (.iload_n 2), qO (.iconst 2)] (pc' := 63) (L' := [zR 34 0, zI l1, zI l2, zI (σ1 41 0 ((se (σ1 36 0) l2 1).toNat))]) (S' := [zI 2, zI l2, zR 34 0, zI (σ1 41 0 ((se (σ1 36 0) l2 1).toNat)), zI (se (σ1 36 0) l2 3), zI l1]) (σ' := σ1) (Ps := []) (by decide +kernel) rfl trivial ?_
      refine r_callVI (As := [zI l2, zI 2]) (S := [zI (σ1 41 0 ((se (σ1 36 0) l2 1).toNat)), zI (se (σ1 36 0) l2 3), zI l1]) (Lc := [zR 34 0, zI l2, zI 2]) (d' := 0) (n := 2) (g := 34) (x := 0) (ci := 11) kX11_of vX11_of lkX11_113 (by decide +kernel) (by decide) rfl rfl (by decide) rfl rfl (Nat.le_of_ble_eq_true rfl) rfl rfl (Nat.le_of_ble_eq_true rfl) (pX11_of h.1 (by decide) ?_)
      replace h := h.2
      refine r_blk [qO .isub, qO .imul, qO .iadd, qO (.istore_n 1), qO (.iinc 2 1), qO (.goto (-69))] (pc' := 4) (L' := [zR 34 0, zI (l1 + ((se (σ1 36 0) l2 3) * ((σ1 41 0 ((se (σ1 36 0) l2 1).toNat)) - (se (σ1 36 0) l2 2)))), zI (l2 + 1), zI (σ1 41 0 ((se (σ1 36 0) l2 1).toNat))]) (S' := []) (σ' := σ1) (Ps := [-2147483648 ≤ (σ1 41 0 ((se (σ1 36 0) l2 1).toNat)) - (se (σ1 36 0) l2 2) ∧ (σ1 41 0 ((se (σ1 36 0) l2 1).toNat)) - (se (σ1 36 0) l2 2) ≤ 2147483647, -2147483648 ≤ (se (σ1 36 0) l2 3) * ((σ1 41 0 ((se (σ1 36 0) l2 1).toNat)) - (se (σ1 36 0) l2 2)) ∧ (se (σ1 36 0) l2 3) * ((σ1 41 0 ((se (σ1 36 0) l2 1).toNat)) - (se (σ1 36 0) l2 2)) ≤ 2147483647, -2147483648 ≤ l1 + ((se (σ1 36 0) l2 3) * ((σ1 41 0 ((se (σ1 36 0) l2 1).toNat)) - (se (σ1 36 0) l2 2))) ∧ l1 + ((se (σ1 36 0) l2 3) * ((σ1 41 0 ((se (σ1 36 0) l2 1).toNat)) - (se (σ1 36 0) l2 2))) ≤ 2147483647, -2147483648 ≤ l2 + 1 ∧ l2 + 1 ≤ 2147483647]) (by decide +kernel) rfl ⟨h.1, h.2.1, h.2.2.1, h.2.2.2.1, trivial⟩ ?_
      replace h := h.2.2.2.2
      generalize hz2 : l1 + ((se (σ1 36 0) l2 3) * ((σ1 41 0 ((se (σ1 36 0) l2 1).toNat)) - (se (σ1 36 0) l2 2))) = z2
      replace h := h z2 hz2.symm
      exact Runs.fg (fgE (fgE (fgE (fgU fg0)))) h
    · replace h := h.2 c
      refine r_blk [qO (.sipush 3000), qO (.goto 11), qO .imul, qO .iadd, qO (.istore_n 1), qO (.iinc 2 1), qO (.goto (-69))] (pc' := 4) (L' := [zR 34 0, zI (l1 + ((se (σ1 36 0) l2 3) * 3000)), zI (l2 + 1), zI (σ1 41 0 ((se (σ1 36 0) l2 1).toNat))]) (S' := []) (σ' := σ1) (Ps := [-2147483648 ≤ (se (σ1 36 0) l2 3) * 3000 ∧ (se (σ1 36 0) l2 3) * 3000 ≤ 2147483647, -2147483648 ≤ l1 + ((se (σ1 36 0) l2 3) * 3000) ∧ l1 + ((se (σ1 36 0) l2 3) * 3000) ≤ 2147483647, -2147483648 ≤ l2 + 1 ∧ l2 + 1 ≤ 2147483647]) (by decide +kernel) rfl ⟨h.1, h.2.1, h.2.2.1, trivial⟩ ?_
      replace h := h.2.2.2
      exact Runs.fg (fgE (fgE (fgE (fgU fg0)))) h
theorem gX1_minutesOf_0 (a0 : Int) (a1 : Int) (a2 : Int) (σ : Hp) {Q : Option Int → Hp → Prop} (h : Runs 3 mX8_setOut 0 [zR 17 0, zI a0, zI a1, zI a2, zU, zU] [] σ (rV (fun σ1 => (0 ≤ a1 ∧ a1 < 10) ∧ ((¬ zmin σ1 a1 = (-9) → (-2147483648 ≤ (zmin σ1 a1) - a2 ∧ (zmin σ1 a1) - a2 ≤ 2147483647) ∧ Q (some ((zmin σ1 a1) - a2)) σ1) ∧ (zmin σ1 a1 = (-9) → Q (some 3000) σ1))))) : Runs 4 mX1_minutesOf 0 [zR 25 0, zI a0, zI a1, zI a2, zU] [] σ Q := by
  refine r_blk [qO (.aload_n 0), qF (.getfield 15) 1 1, qO (.iload_n 1), qO (.iload_n 2), qO (.iload_n 3)] (pc' := 7) (L' := [zR 25 0, zI a0, zI a1, zI a2, zU]) (S' := [zI a2, zI a1, zI a0, zR 17 0]) (σ' := σ) (Ps := []) (by decide +kernel) rfl trivial ?_
  refine r_callVV (As := [zI a0, zI a1, zI a2]) (S := []) (Lc := [zR 17 0, zI a0, zI a1, zI a2, zU, zU]) (d' := 3) (n := 3) (g := 17) (x := 0) (ci := 8) kX8_setOut vX8_setOut lkX1_47 (by decide +kernel) (by decide) rfl rfl (by decide) rfl rfl (Nat.le_of_ble_eq_true rfl) rfl rfl (Nat.le_of_ble_eq_true rfl) (h.monoV (fun σ1 h => ?_))
  refine r_blk [qO (.aload_n 0), qF (.getfield 15) 1 1, qO (.iload_n 2)] (pc' := 15) (L' := [zR 25 0, zI a0, zI a1, zI a2, zU]) (S' := [zI a1, zR 17 0]) (σ' := σ1) (Ps := []) (by decide +kernel) rfl trivial ?_
  refine r_callVI (As := [zI a1]) (S := []) (Lc := [zR 17 0, zI a1]) (d' := 0) (n := 1) (g := 17) (x := 0) (ci := 8) kX8_minuteAt vX8_minuteAt lkX1_53 (by decide +kernel) (by decide) rfl rfl (by decide) rfl rfl (Nat.le_of_ble_eq_true rfl) rfl rfl (Nat.le_of_ble_eq_true rfl) (pX8_minuteAt h.1 ?_)
  replace h := h.2
  refine r_blk [qO (.istore 4), qO (.iload 4), qO (.bipush (-9))] (pc' := 24) (L' := [zR 25 0, zI a0, zI a1, zI a2, zI (zmin σ1 a1)]) (S' := [zI (-9), zI (zmin σ1 a1)]) (σ' := σ1) (Ps := []) (by decide +kernel) rfl trivial ?_
  refine r_icmp_ne (off := 9) (tgt := 33) (by decide +kernel) (by decide) (fun c => ?_) (fun c => ?_)
  · replace h := h.1 c
    refine r_blk [qO (.iload 4), qO (.iload_n 3), qO .isub] (pc' := 37) (L' := [zR 25 0, zI a0, zI a1, zI a2, zI (zmin σ1 a1)]) (S' := [zI ((zmin σ1 a1) - a2)]) (σ' := σ1) (Ps := [-2147483648 ≤ (zmin σ1 a1) - a2 ∧ (zmin σ1 a1) - a2 ≤ 2147483647]) (by decide +kernel) rfl ⟨h.1, trivial⟩ ?_
    replace h := h.2
    exact r_ret (by decide +kernel) rfl (fun _ => h)
  · replace h := h.2 c
    refine r_blk [qO (.sipush 3000), qO (.goto 7)] (pc' := 37) (L' := [zR 25 0, zI a0, zI a1, zI a2, zI (zmin σ1 a1)]) (S' := [zI 3000]) (σ' := σ1) (Ps := []) (by decide +kernel) rfl trivial ?_
    exact r_ret (by decide +kernel) rfl (fun _ => h)
theorem gX1_totalUpTo_0 (a0 : Int) (σ : Hp) {Q : Option Int → Hp → Prop} (h : Runs 5 mX1_totalUpTo 4 [zR 25 0, zI a0, zI 0, zI 0] [] σ Q) : Runs 5 mX1_totalUpTo 0 [zR 25 0, zI a0, zU, zU] [] σ Q := by
  refine r_blk [qO (.iconst 0), qO (.istore_n 2), qO (.iconst 0), qO (.istore_n 3)] (pc' := 4) (L' := [zR 25 0, zI a0, zI 0, zI 0]) (S' := []) (σ' := σ) (Ps := []) (by decide +kernel) rfl trivial ?_
  exact Runs.fg (fgE (fgE (fgE (fgE fg0)))) h
theorem gX1_totalUpTo_4 (l1 : Int) (l2 : Int) (l3 : Int) (σ : Hp) {Q : Option Int → Hp → Prop} (h : ((σ 1 0 2 ≤ l3 → Q (some l2) σ) ∧ (¬ σ 1 0 2 ≤ l3 → ((l1 ≤ l2 → Q (some l2) σ) ∧ (¬ l1 ≤ l2 → (0 ≤ l3 ∧ l3 < 8) ∧ (0 ≤ l3 ∧ l3 < 8) ∧ (0 ≤ l3 ∧ l3 < 8) ∧ (0 ≤ l3 ∧ l3 < 8) ∧ Runs 4 mX1_minutesOf 0 [zR 25 0, zI (σ 6 0 l3.toNat), zI (σ 7 0 l3.toNat), zI (σ 8 0 l3.toNat), zU] [] σ (rI (fun z2 σ1 => (-2147483648 ≤ (σ 9 0 l3.toNat) * z2 ∧ (σ 9 0 l3.toNat) * z2 ≤ 2147483647) ∧ (-2147483648 ≤ l2 + ((σ 9 0 l3.toNat) * z2) ∧ l2 + ((σ 9 0 l3.toNat) * z2) ≤ 2147483647) ∧ (-2147483648 ≤ l3 + 1 ∧ l3 + 1 ≤ 2147483647) ∧ Runs 5 mX1_totalUpTo 4 [zR 25 0, zI l1, zI (l2 + ((σ 9 0 l3.toNat) * z2)), zI (l3 + 1)] [] σ1 Q))))))) : Runs 5 mX1_totalUpTo 4 [zR 25 0, zI l1, zI l2, zI l3] [] σ Q := by
  refine r_blk [qO (.iload_n 3), qO (.aload_n 0), qF (.getfield 9) 1 0, qF (.getfield 24) 6 2] (pc' := 12) (L' := [zR 25 0, zI l1, zI l2, zI l3]) (S' := [zI (σ 1 0 2), zI l3]) (σ' := σ) (Ps := []) (by decide +kernel) rfl trivial ?_
  refine r_icmp_ge (off := 58) (tgt := 70) (by decide +kernel) (by decide) (fun c => ?_) (fun c => ?_)
  · replace h := h.1 c
    refine r_blk [qO (.iload_n 2)] (pc' := 71) (L' := [zR 25 0, zI l1, zI l2, zI l3]) (S' := [zI l2]) (σ' := σ) (Ps := []) (by decide +kernel) rfl trivial ?_
    exact r_ret (by decide +kernel) rfl (fun _ => h)
  · replace h := h.2 c
    refine r_blk [qO (.iload_n 2), qO (.iload_n 1)] (pc' := 17) (L' := [zR 25 0, zI l1, zI l2, zI l3]) (S' := [zI l1, zI l2]) (σ' := σ) (Ps := []) (by decide +kernel) rfl trivial ?_
    refine r_icmp_ge (off := 53) (tgt := 70) (by decide +kernel) (by decide) (fun c => ?_) (fun c => ?_)
    · replace h := h.1 c
      refine r_blk [qO (.iload_n 2)] (pc' := 71) (L' := [zR 25 0, zI l1, zI l2, zI l3]) (S' := [zI l2]) (σ' := σ) (Ps := []) (by decide +kernel) rfl trivial ?_
      exact r_ret (by decide +kernel) rfl (fun _ => h)
    · replace h := h.2 c
      refine r_blk [qO (.iload_n 2), qO (.aload_n 0), qF (.getfield 9) 1 0, qF (.getfield 30) 6 14, qO (.iload_n 3), qO .iaload, qO (.aload_n 0), qO (.aload_n 0), qF (.getfield 9) 1 0, qF (.getfield 34) 6 11, qO (.iload_n 3), qO .iaload, qO (.aload_n 0), qF (.getfield 9) 1 0, qF (.getfield 37) 6 12, qO (.iload_n 3), qO .iaload, qO (.aload_n 0), qF (.getfield 9) 1 0, qF (.getfield 40) 6 13, qO (.iload_n 3), qO .iaload] (pc' := 58) (L' := [zR 25 0, zI l1, zI l2, zI l3]) (S' := [zI (σ 8 0 l3.toNat), zI (σ 7 0 l3.toNat), zI (σ 6 0 l3.toNat), zR 25 0, zI (σ 9 0 l3.toNat), zI l2]) (σ' := σ) (Ps := [0 ≤ l3 ∧ l3 < 8, 0 ≤ l3 ∧ l3 < 8, 0 ≤ l3 ∧ l3 < 8, 0 ≤ l3 ∧ l3 < 8]) (by decide +kernel) rfl ⟨h.1, h.2.1, h.2.2.1, h.2.2.2.1, trivial⟩ ?_
      replace h := h.2.2.2.2
      refine r_callVI (As := [zI (σ 6 0 l3.toNat), zI (σ 7 0 l3.toNat), zI (σ 8 0 l3.toNat)]) (S := [zI (σ 9 0 l3.toNat), zI l2]) (Lc := [zR 25 0, zI (σ 6 0 l3.toNat), zI (σ 7 0 l3.toNat), zI (σ 8 0 l3.toNat), zU]) (d' := 4) (n := 3) (g := 25) (x := 0) (ci := 1) kX1_minutesOf vX1_minutesOf lkX1_43 (by decide +kernel) (by decide) rfl rfl (by decide) rfl rfl (Nat.le_of_ble_eq_true rfl) rfl rfl (Nat.le_of_ble_eq_true rfl) (h.monoI (fun z2 σ1 h => ?_))
      refine r_blk [qO .imul, qO .iadd, qO (.istore_n 2), qO (.iinc 3 1), qO (.goto (-63))] (pc' := 4) (L' := [zR 25 0, zI l1, zI (l2 + ((σ 9 0 l3.toNat) * z2)), zI (l3 + 1)]) (S' := []) (σ' := σ1) (Ps := [-2147483648 ≤ (σ 9 0 l3.toNat) * z2 ∧ (σ 9 0 l3.toNat) * z2 ≤ 2147483647, -2147483648 ≤ l2 + ((σ 9 0 l3.toNat) * z2) ∧ l2 + ((σ 9 0 l3.toNat) * z2) ≤ 2147483647, -2147483648 ≤ l3 + 1 ∧ l3 + 1 ≤ 2147483647]) (by decide +kernel) rfl ⟨h.1, h.2.1, h.2.2.1, trivial⟩ ?_
      replace h := h.2.2.2
      exact Runs.fg (fgE (fgE (fgE (fgE fg0)))) h
theorem gX1_total_0 (σ : Hp) {Q : Option Int → Hp → Prop} (h : Runs 5 mX1_totalUpTo 0 [zR 25 0, zI 1000000, zU, zU] [] σ (rI (fun z2 σ1 => Q (some z2) σ1))) : Runs 6 mX1_total 0 [zR 25 0] [] σ Q := by
  refine r_blk [qO (.aload_n 0), qC (.ldc 19) 1000000] (pc' := 3) (L' := [zR 25 0]) (S' := [zI 1000000, zR 25 0]) (σ' := σ) (Ps := []) (by decide +kernel) rfl trivial ?_
  refine r_callVI (As := [zI 1000000]) (S := []) (Lc := [zR 25 0, zI 1000000, zU, zU]) (d' := 5) (n := 1) (g := 25) (x := 0) (ci := 1) kX1_totalUpTo vX1_totalUpTo lkX1_20 (by decide +kernel) (by decide) rfl rfl (by decide) rfl rfl (Nat.le_of_ble_eq_true rfl) rfl rfl (Nat.le_of_ble_eq_true rfl) (h.monoI (fun z2 σ1 h => ?_))
  exact r_ret (by decide +kernel) rfl (fun _ => h)
end
section
/-! what errands cost -/
noncomputable def mins (s : Nat → Int) (f t : Nat) (a : Int) : Int := if dist s f a t = 1000000 then 3000 else dist s f a t - a
noncomputable def costN (s : Nat → Int) : Nat → Int
  | 0 => 0
  | n + 1 => costN s n + se s n 3 * mins s (se s n 0).toNat (se s n 1).toNat (se s n 2)
noncomputable def costM (s : Nat → Int) : Int := costN s (s 2).toNat
theorem mins_b {s : Nat → Int} (hw : WF s) {f t : Nat} {a : Int} (hf : f < 10) (ht : t < 10) (ha : 0 ≤ a ∧ a ≤ 2879) : 0 ≤ mins s f t a ∧ mins s f t a ≤ 3000 := by
  have d := dist_soon hw hf ha
  have b := d.2.2.2.1 t ht
  unfold mins
  split <;> omega
theorem mul_b {w m : Int} (hw : 0 ≤ w ∧ w ≤ 9) (hm : 0 ≤ m ∧ m ≤ 3000) : 0 ≤ w * m ∧ w * m ≤ 27000 := by
  have h1 := Int.mul_nonneg hw.1 hm.1
  have h2 := Int.mul_le_mul_of_nonneg_right hw.2 hm.1
  omega
theorem er_of {s : Nat → Int} (hw : WF s) {e : Int} (he : 0 ≤ e ∧ e < s 2) : erOK s e := hw.2.2.2.2.2.2.2.2.2.2.2.2.1 e he.1 he.2
theorem er_b {s : Nat → Int} (hw : WF s) {e : Int} (he : 0 ≤ e ∧ e < s 2) : 0 ≤ se s e 3 * mins s (se s e 0).toNat (se s e 1).toNat (se s e 2) ∧ se s e 3 * mins s (se s e 0).toNat (se s e 1).toNat (se s e 2) ≤ 27000 := by
  have w0 := hw.1
  obtain ⟨e0, e1, e2, e3⟩ := er_of hw he
  exact mul_b (by omega) (mins_b hw (by omega) (by omega) (by omega))
theorem costN_b {s : Nat → Int} (hw : WF s) : ∀ n : Nat, (n : Int) ≤ s 2 → 0 ≤ costN s n ∧ costN s n ≤ 27000 * n
  | 0, _ => by unfold costN; omega
  | n + 1, h => by
    have ih := costN_b hw n (by omega)
    have b := er_b hw (e := (n : Int)) (by omega)
    unfold costN
    omega
theorem costN_mono {s : Nat → Int} (hw : WF s) {n : Nat} : ∀ k : Nat, ((n + k : Nat) : Int) ≤ s 2 → costN s n ≤ costN s (n + k)
  | 0, _ => Int.le_refl _
  | k + 1, h => by
    have ih := costN_mono hw (n := n) k (by omega)
    have b := er_b hw (e := ((n + k : Nat) : Int)) (by omega)
    have e : costN s (n + (k + 1)) = costN s (n + k) + se s ((n + k : Nat) : Int) 3 * mins s (se s ((n + k : Nat) : Int) 0).toNat (se s ((n + k : Nat) : Int) 1).toNat (se s ((n + k : Nat) : Int) 2) := rfl
    rw [e]
    omega
theorem costM_b {s : Nat → Int} (hw : WF s) : 0 ≤ costM s ∧ costM s ≤ 216000 := by
  have w2 := hw.2.2.1
  have := costN_b hw (s 2).toNat (by omega)
  unfold costM
  omega
/-- the reference's cost -/
theorem qX11_costOf {σ : Hp} {K : Int → Hp → Prop} (hw : WF (σ 36 0)) (h : ∀ σ', Off [41, 42] σ σ' → K (costM (σ 36 0)) σ') : Runs 5 mX11_costOf 0 [zR 34 0, zU, zU, zU] [] σ (rI K) := by
  generalize hs : σ 36 0 = s at hw h
  have w0 := hw.1
  have w2 := hw.2.2.1
  have loop : ∀ (n e : Nat) (σ1 : Hp), (s 2 - e).toNat ≤ n → (e : Int) ≤ s 2 → Off [41, 42] σ σ1 → Runs 5 mX11_costOf 4 [zR 34 0, zI (costN s e), zI (e : Int), zU] [] σ1 (rI K) := by
    intro n
    have fin : ∀ (e : Nat) (σ1 : Hp), (e : Int) = s 2 → Off [41, 42] σ σ1 → Runs 5 mX11_costOf 4 [zR 34 0, zI (costN s e), zI (e : Int), zU] [] σ1 (rI K) := fun e σ1 he ho => by
      have hs1 : σ1 36 0 = s := by rw [ho 36 (by decide)]; exact hs
      refine gX11_costOf_4 _ (e : Int) σ1 ⟨fun _ => ?_, fun q => absurd (show σ1 36 0 2 ≤ (e : Int) by rw [hs1]; omega) q⟩
      have := h σ1 ho
      have e2 : e = (s 2).toNat := by omega
      unfold costM at this
      rw [← e2] at this
      exact this
    induction n with
    | zero => intro e σ1 hn he ho; exact fin e σ1 (by omega) ho
    | succ n ih =>
      intro e σ1 hn he ho
      by_cases hes : (e : Int) = s 2
      · exact fin e σ1 hes ho
      · have hs1 : σ1 36 0 = s := by rw [ho 36 (by decide)]; exact hs
        obtain ⟨e0, e1, e2, e3⟩ := er_of hw (e := (e : Int)) (by omega)
        have cb := costN_b hw e he
        have eb := er_b hw (e := (e : Int)) (by omega)
        refine gX11_costOf_4 _ (e : Int) σ1 ⟨fun q => absurd q (by rw [hs1]; omega), fun _ => ⟨by omega, by omega, ?_⟩⟩
        refine qX11_finds (by rw [hs1]; exact hw) (by rw [hs1]; exact e0) (by rw [hs1]; omega) (fun σ2 o2 r2 d2 => ?_)
        have hs2 : σ2 36 0 = s := by rw [o2 36 (by decide)]; exact hs1
        rw [hs1] at d2
        rw [hs2]
        have dd := dist_eq hw d2 (se s e 1).toNat (by omega)
        have hr := r2 (se s e 1).toNat (by omega)
        have next : costN s (e + 1) = costN s e + se s e 3 * mins s (se s e 0).toNat (se s e 1).toNat (se s e 2) := rfl
        refine ⟨by omega, by omega, by omega, fun q => ⟨by omega, by omega, ?_⟩, fun q => ?_⟩
        · have hm : mins s (se s e 0).toNat (se s e 1).toNat (se s e 2) = σ2 41 0 (se s e 1).toNat - se s e 2 := by
            unfold mins
            rw [← dd]
            unfold tauR
            rw [if_neg (by omega), if_neg (by omega)]
          rw [hm] at eb next
          refine ⟨by omega, by omega, by omega, fun z ez => ?_⟩
          rw [ez, ← next]
          exact ih (e + 1) σ2 (by omega) (by omega) (ho.tr o2)
        · have hm : mins s (se s e 0).toNat (se s e 1).toNat (se s e 2) = 3000 := by
            unfold mins
            rw [← dd]
            unfold tauR
            rw [if_pos (show σ2 41 0 (se s e 1).toNat < 0 by omega)]
            rfl
          rw [hm] at eb next
          refine ⟨by omega, by omega, by omega, ?_⟩
          rw [← next]
          exact ih (e + 1) σ2 (by omega) (by omega) (ho.tr o2)
  exact gX11_costOf_0 σ (loop (s 2).toNat 0 σ (by omega) (by omega) Off.rf)
/-- what stays in the class over a search -/
def Kept (σ σ' : Hp) : Prop := Off [16, 17, 18] σ σ' ∧ ∀ j, j < 7 → σ' 16 0 j = σ 16 0 j
theorem Kept.rf {σ : Hp} : Kept σ σ := ⟨Off.rf, fun _ _ => rfl⟩
theorem Kept.tr {a b c : Hp} (h1 : Kept a b) (h2 : Kept b c) : Kept a c := ⟨h1.1.tr h2.1, fun j hj => (h2.2 j hj).trans (h1.2 j hj)⟩
theorem Kept.T {σ σ' : Hp} {s : Nat → Int} (h : Kept σ σ') (ht : TRc σ s) (hm : TMs σ s) : TRc σ' s ∧ TMs σ' s := ⟨ht.keep h.2, hm.keep h.1 (by decide) (by decide) (by decide) (by decide)⟩
theorem qX1_minutesOf {σ : Hp} {K : Int → Hp → Prop} {s : Nat → Int} (hw : WF s) (ht : TRc σ s) (hm : TMs σ s) {f t a : Int} (hf : 0 ≤ f ∧ f < s 0) (htt : 0 ≤ t ∧ t < s 0) (ha : 0 ≤ a ∧ a ≤ 2879) (h : ∀ σ', Kept σ σ' → K (mins s f.toNat t.toNat a) σ') : Runs 4 mX1_minutesOf 0 [zR 25 0, zI f, zI t, zI a, zU] [] σ (rI K) := by
  have w0 := hw.1
  have d := dist_soon hw (f := f.toNat) (m0 := a) (by omega) ha
  have b := d.2.2.2.1 t.toNat (by omega)
  refine gX1_minutesOf_0 f t a σ (qX8_setOut hw ht hm hf ha (Or.inr htt) (fun σ1 o1 k1 _ e1 => ?_))
  have e1 := e1 htt.1
  have hK := h σ1 ⟨o1, k1⟩
  unfold mins at hK
  refine ⟨by omega, fun c => ⟨?_, ?_⟩, fun c => ?_⟩
  · unfold zmin at c ⊢
    rw [e1] at c ⊢
    split at c
    · exact absurd rfl c
    · rename_i q
      rw [if_neg q]
      omega
  · unfold zmin at c ⊢
    rw [e1] at c ⊢
    split at c
    · exact absurd rfl c
    · rename_i q
      rw [if_neg q]
      rw [if_neg q] at hK
      exact hK
  · unfold zmin at c
    rw [e1] at c
    split at c
    · rename_i q
      rw [if_pos q] at hK
      exact hK
    · omega
def TMe (σ : Hp) (s : Nat → Int) : Prop := σ 1 0 2 = s 2 ∧ ∀ e : Int, 0 ≤ e → e < s 2 → σ 6 0 e.toNat = se s e 0 ∧ σ 7 0 e.toNat = se s e 1 ∧ σ 8 0 e.toNat = se s e 2 ∧ σ 9 0 e.toNat = se s e 3
theorem TMe.keep {σ σ' : Hp} {s : Nat → Int} {G : List Nat} (h : TMe σ s) (hk : Off G σ σ') (h1 : 1 ∉ G) (h2 : 6 ∉ G) (h3 : 7 ∉ G) (h4 : 8 ∉ G) (h5 : 9 ∉ G) : TMe σ' s := by
  unfold TMe
  rw [hk 1 h1, hk 6 h2, hk 7 h3, hk 8 h4, hk 9 h5]
  exact h
/-- the class's cost, as far as it is asked for -/
theorem qX1_totalUpTo {σ : Hp} {K : Int → Hp → Prop} {s : Nat → Int} (hw : WF s) (ht : TRc σ s) (hm : TMs σ s) (he : TMe σ s) {much : Int} (h : ∀ σ' z, Kept σ σ' → 0 ≤ z → z ≤ 216000 → (costM s < much → z = costM s) → (much ≤ costM s → much ≤ z) → K z σ') : Runs 5 mX1_totalUpTo 0 [zR 25 0, zI much, zU, zU] [] σ (rI K) := by
  have w0 := hw.1
  have w2 := hw.2.2.1
  have loop : ∀ (n e : Nat) (σ1 : Hp), (s 2 - e).toNat ≤ n → (e : Int) ≤ s 2 → Kept σ σ1 → Runs 5 mX1_totalUpTo 4 [zR 25 0, zI much, zI (costN s e), zI (e : Int)] [] σ1 (rI K) := by
    intro n
    have fin : ∀ (e : Nat) (σ1 : Hp), (e : Int) = s 2 → Kept σ σ1 → Runs 5 mX1_totalUpTo 4 [zR 25 0, zI much, zI (costN s e), zI (e : Int)] [] σ1 (rI K) := fun e σ1 hes hk => by
      have e1 : σ1 1 0 2 = s 2 := by rw [hk.1 1 (by decide)]; exact he.1
      have cb := costN_b hw e (by omega)
      have ec : costN s e = costM s := by unfold costM; rw [show (s 2).toNat = e by omega]
      refine gX1_totalUpTo_4 much _ (e : Int) σ1 ⟨fun _ => ?_, fun q => absurd (show σ1 1 0 2 ≤ (e : Int) by omega) q⟩
      exact h σ1 _ hk cb.1 (by omega) (fun _ => ec) (fun q => by omega)
    induction n with
    | zero => intro e σ1 hn hes hk; exact fin e σ1 (by omega) hk
    | succ n ih =>
      intro e σ1 hn hes hk
      by_cases hq : (e : Int) = s 2
      · exact fin e σ1 hq hk
      · have e1 : σ1 1 0 2 = s 2 := by rw [hk.1 1 (by decide)]; exact he.1
        have cb := costN_b hw e hes
        have mono := costN_mono hw (n := e) ((s 2).toNat - e) (by omega)
        rw [show e + ((s 2).toNat - e) = (s 2).toNat by omega] at mono
        obtain ⟨a0, a1, a2, a3⟩ := er_of hw (e := (e : Int)) (by omega)
        have eb := er_b hw (e := (e : Int)) (by omega)
        obtain ⟨t6, t7, t8, t9⟩ := he.2 (e : Int) (by omega) (by omega)
        rw [← show σ1 6 = σ 6 from hk.1 6 (by decide)] at t6
        rw [← show σ1 7 = σ 7 from hk.1 7 (by decide)] at t7
        rw [← show σ1 8 = σ 8 from hk.1 8 (by decide)] at t8
        rw [← show σ1 9 = σ 9 from hk.1 9 (by decide)] at t9
        obtain ⟨ht1, hm1⟩ := hk.T ht hm
        refine gX1_totalUpTo_4 much _ (e : Int) σ1 ⟨fun q => absurd q (by omega), fun _ => ⟨fun q => ?_, fun q => ⟨by omega, by omega, by omega, by omega, ?_⟩⟩⟩
        · exact h σ1 _ hk cb.1 (by omega) (fun z => by unfold costM at z; omega) (fun _ => q)
        · rw [t6, t7, t8, t9]
          refine qX1_minutesOf hw ht1 hm1 a0 a1 (by omega) (fun σ2 k2 => ?_)
          have next : costN s (e + 1) = costN s e + se s e 3 * mins s (se s e 0).toNat (se s e 1).toNat (se s e 2) := rfl
          refine ⟨by omega, by omega, by omega, ?_⟩
          rw [← next]
          exact ih (e + 1) σ2 (by omega) (by omega) (hk.tr k2)
  exact gX1_totalUpTo_0 much σ (loop (s 2).toNat 0 σ (by omega) (by omega) Kept.rf)
theorem qX1_total {σ : Hp} {K : Int → Hp → Prop} {s : Nat → Int} (hw : WF s) (ht : TRc σ s) (hm : TMs σ s) (he : TMe σ s) (h : ∀ σ', Kept σ σ' → K (costM s) σ') : Runs 6 mX1_total 0 [zR 25 0] [] σ (rI K) := by
  refine gX1_total_0 σ (qX1_totalUpTo hw ht hm he (fun σ1 z k1 _ _ e1 _ => ?_))
  have := costM_b hw
  rw [e1 (by omega)]
  exact h σ1 k1
end
section
/-! the town with one number put otherwise in mind -/
def su (s : Nat → Int) (k : Nat) (v : Int) : Nat → Int := fun j => if j = k then v else s j
theorem su_ne {s : Nat → Int} {k j : Nat} {v : Int} (h : j ≠ k) : su s k v j = s j := if_neg h
theorem su_eq {s : Nat → Int} {k : Nat} {v : Int} : su s k v k = v := if_pos rfl
theorem sg_su {s : Nat → Int} {k : Nat} {v t j : Int} (hk : k < 11) (ht : 0 ≤ t) (hj : 0 ≤ j) : sg (su s k v) t j = sg s t j := su_ne (by omega)
theorem se_su {s : Nat → Int} {k : Nat} {v t j : Int} (hk : k < 11) (ht : 0 ≤ t) (hj : 0 ≤ j) : se (su s k v) t j = se s t j := su_ne (by omega)
theorem stOK_su {s : Nat → Int} {k : Nat} {v t : Int} (hk : 0 < k ∧ k < 11) (ht : 0 ≤ t) (h : stOK s t) : stOK (su s k v) t := by
  unfold stOK at *
  rw [sg_su hk.2 ht (by omega), sg_su hk.2 ht (by omega), sg_su hk.2 ht (by omega), sg_su hk.2 ht (by omega), sg_su hk.2 ht (by omega), su_ne (show 0 ≠ k by omega)]
  exact h
theorem erOK_su {s : Nat → Int} {k : Nat} {v t : Int} (hk : 0 < k ∧ k < 11) (ht : 0 ≤ t) (h : erOK s t) : erOK (su s k v) t := by
  unfold erOK at *
  rw [se_su hk.2 ht (by omega), se_su hk.2 ht (by omega), se_su hk.2 ht (by omega), se_su hk.2 ht (by omega), su_ne (show 0 ≠ k by omega)]
  exact h
theorem WF_su {s : Nat → Int} (hw : WF s) {k : Nat} {v : Int} (h : (k = 3 ∨ k = 4 ∨ k = 5) ∧ (0 ≤ v ∧ v < 16384) ∨ (k = 7 ∧ 0 ≤ v ∧ v ≤ 1439)) : WF (su s k v) := by
  obtain ⟨w0, w1, w2, w3, w4, w5, w6, w7, w8, w9, w10, wst, wer, wrow⟩ := hw
  have hk : 0 < k ∧ k < 11 := by omega
  have e0 : su s k v 0 = s 0 := su_ne (by omega)
  have e1 : su s k v 1 = s 1 := su_ne (by omega)
  have e2 : su s k v 2 = s 2 := su_ne (by omega)
  have e6 : su s k v 6 = s 6 := su_ne (by omega)
  have e8 : su s k v 8 = s 8 := su_ne (by omega)
  have e9 : su s k v 9 = s 9 := su_ne (by omega)
  have e10 : su s k v 10 = s 10 := su_ne (by omega)
  have e3 : 0 ≤ su s k v 3 ∧ su s k v 3 < 16384 := by unfold su; split <;> omega
  have e4 : 0 ≤ su s k v 4 ∧ su s k v 4 < 16384 := by unfold su; split <;> omega
  have e5 : 0 ≤ su s k v 5 ∧ su s k v 5 < 16384 := by unfold su; split <;> omega
  have e7 : 0 ≤ su s k v 7 ∧ su s k v 7 ≤ 1439 := by unfold su; split <;> omega
  refine ⟨by rw [e0]; exact w0, by rw [e1]; exact w1, by rw [e2]; exact w2, e3, e4, e5, by rw [e6]; exact w6, e7, by rw [e8]; exact w8, by rw [e9]; exact w9, by rw [e10]; exact w10, fun t h0 h1 => ?_, fun e h0 h1 => ?_, fun i hi => ?_⟩
  · rw [e1] at h1; exact stOK_su hk h0 (wst t h0 h1)
  · rw [e2] at h1; exact erOK_su hk h0 (wer e h0 h1)
  · rw [e6] at hi; rw [su_ne (by omega)]; exact wrow i hi
theorem TMs_su {σ : Hp} {s : Nat → Int} {k : Nat} {v : Int} (hk : 1 < k ∧ k < 11) (h : TMs σ s) : TMs σ (su s k v) := by
  obtain ⟨h1, h2, h3⟩ := h
  refine ⟨by rw [su_ne (by omega)]; exact h1, by rw [su_ne (by omega)]; exact h2, fun t h0 hl => ?_⟩
  rw [su_ne (by omega)] at hl
  rw [sg_su hk.2 h0 (by omega), sg_su hk.2 h0 (by omega), sg_su hk.2 h0 (by omega)]
  exact h3 t h0 hl
theorem TMe_su {σ : Hp} {s : Nat → Int} {k : Nat} {v : Int} (hk : 2 < k ∧ k < 11) (h : TMe σ s) : TMe σ (su s k v) := by
  obtain ⟨h1, h3⟩ := h
  refine ⟨by rw [su_ne (by omega)]; exact h1, fun t h0 hl => ?_⟩
  rw [su_ne (by omega)] at hl
  rw [se_su hk.2 h0 (by omega), se_su hk.2 h0 (by omega), se_su hk.2 h0 (by omega), se_su hk.2 h0 (by omega)]
  exact h3 t h0 hl
theorem zor_0 {a : Int} (ha : 0 ≤ a ∧ a < 16384) : zor a 0 = a := by
  rw [zor_nat (by omega) (by omega)]
  simp
  omega
theorem zor_bit {a b : Int} (ha : 0 ≤ a ∧ a < 16384) (hb : 0 ≤ b ∧ b < 16384) {t : Int} (ht : 0 ≤ t ∧ t < 32) : bitz (zor a b) t = 1 ↔ bitz a t = 1 ∨ bitz b t = 1 := by
  have hlt : a.toNat ||| b.toNat < 2 ^ 14 := Nat.or_lt_two_pow (by omega) (by omega)
  rw [zor_nat (by omega) (by omega), bitz_tb ⟨by omega, by omega⟩ ht, bitz_tb (by omega) ht, bitz_tb (by omega) ht]
  rw [show ((a.toNat ||| b.toNat : Nat) : Int).toNat = a.toNat ||| b.toNat from rfl, Nat.testBit_or]
  cases a.toNat.testBit t.toNat <;> cases b.toNat.testBit t.toNat <;> simp
/-- the class's settings and broad ones, as the reference has them -/
def CS (σ : Hp) (s : Nat → Int) : Prop := (∀ j, j < 4 → σ 11 0 j = s (7 + j)) ∧ σ 1 0 3 = s 6 ∧ σ 1 0 5 = s 4 ∧ σ 1 0 6 = s 3 ∧ (0 ≤ σ 1 0 4 ∧ σ 1 0 4 < 16384) ∧ (∀ t : Int, 0 ≤ t → t < s 1 → σ 5 0 t.toNat = sg s t 4 ∧ bitz (σ 1 0 4) t = sg s t 3) ∧ (∀ i : Nat, (i : Int) < s 6 → σ 10 0 i = s (113 + i))
theorem tBits_ok {σ : Hp} {s : Nat → Int} (h8 : σ 16 0 1 = s 8) (h10 : σ 11 0 3 = s 10) {b : Int} (hb : 0 ≤ b ∧ b < 16384) {t : Int} (ht : 0 ≤ t ∧ t < 32) : inR (tBits σ b) ∧ bitz (tBits σ b) t = ebit (su s 3 b) t := by
  unfold tBits ebit
  rw [h8, h10, su_ne (show 8 ≠ 3 by omega), su_ne (show 10 ≠ 3 by omega), su_eq]
  split
  · refine ⟨?_, bitz_not ⟨by omega, by omega⟩ ht⟩
    rw [zxor_not ⟨by omega, by omega⟩]
    exact ⟨by omega, by omega⟩
  · exact ⟨⟨by omega, by omega⟩, rfl⟩
theorem TRc_point {σ : Hp} {s : Nat → Int} (hw : WF s) (h : TRc σ s) (h10 : σ 11 0 3 = s 10) {b : Int} (hb : 0 ≤ b ∧ b < 16384) : TRc (zup σ 16 0 4 (tBits σ b)) (su s 3 b) := by
  obtain ⟨h1, h2, h3, h4, h5⟩ := h
  have w1 := hw.2.1
  have e : ∀ j, j ≠ 4 → (zup σ 16 0 4 (tBits σ b)) 16 0 j = σ 16 0 j := fun j hj => by simp [zup, hj]
  have e4 : (zup σ 16 0 4 (tBits σ b)) 16 0 4 = tBits σ b := by simp [zup]
  refine ⟨by rw [e 1 (by omega), su_ne (by omega)]; exact h1, by rw [e 2 (by omega), su_ne (by omega)]; exact h2, by rw [e 3 (by omega), su_ne (by omega)]; exact h3, by rw [e4]; exact (tBits_ok h1 h10 hb (t := 0) (by omega)).1, fun t h0 hl => ?_⟩
  rw [su_ne (by omega)] at hl
  rw [e4, e 5 (by omega), e 6 (by omega), su_ne (show 4 ≠ 3 by omega), su_ne (show 5 ≠ 3 by omega), su_ne (show 8 ≠ 3 by omega), sg_su (by omega) h0 (by omega)]
  exact ⟨(tBits_ok h1 h10 hb (by omega)).2, (h5 t h0 hl).2⟩
theorem ebit_su {s : Nat → Int} {k : Nat} {v t : Int} (h3 : k ≠ 3) (h8 : k ≠ 8) (h10 : k ≠ 10) : ebit (su s k v) t = ebit s t := by
  unfold ebit
  rw [su_ne (Ne.symm h3), su_ne (Ne.symm h8), su_ne (Ne.symm h10)]
theorem TRc_lanes {σ : Hp} {s : Nat → Int} (hw : WF s) (h : TRc σ s) (hb4 : 0 ≤ σ 1 0 4 ∧ σ 1 0 4 < 16384) (hbr : ∀ t : Int, 0 ≤ t → t < s 1 → bitz (σ 1 0 4) t = sg s t 3) {b : Int} (hb : 0 ≤ b ∧ b < 16384) : TRc (zup σ 16 0 6 (tOpen σ b)) (su s 5 b) := by
  obtain ⟨h1, h2, h3, h4, h5⟩ := h
  have w1 := hw.2.1
  have e : ∀ j, j ≠ 6 → (zup σ 16 0 6 (tOpen σ b)) 16 0 j = σ 16 0 j := fun j hj => by simp [zup, hj]
  have e6 : (zup σ 16 0 6 (tOpen σ b)) 16 0 6 = tOpen σ b := by simp [zup]
  refine ⟨by rw [e 1 (by omega), su_ne (by omega)]; exact h1, by rw [e 2 (by omega), su_ne (by omega)]; exact h2, by rw [e 3 (by omega), su_ne (by omega)]; exact h3, by rw [e 4 (by omega)]; exact h4, fun t h0 hl => ?_⟩
  rw [su_ne (by omega)] at hl
  rw [e6, e 4 (by omega), e 5 (by omega), ebit_su (by omega) (by omega) (by omega), su_ne (show 4 ≠ 5 by omega), su_ne (show 8 ≠ 5 by omega), su_eq, sg_su (by omega) h0 (by omega)]
  refine ⟨(h5 t h0 hl).1, (h5 t h0 hl).2.1, ?_⟩
  unfold tOpen
  rw [h1]
  split
  · rename_i q
    rw [zor_bit hb4 hb (by omega), hbr t h0 hl]
    exact ⟨fun z => z.elim (fun y => Or.inr ⟨q, y⟩) Or.inl, fun z => z.elim Or.inr (fun y => Or.inl y.2)⟩
  · rename_i q
    exact ⟨Or.inl, fun z => z.elim id (fun y => absurd y.1 q)⟩
theorem TRc_noon {σ : Hp} {s : Nat → Int} (h : TRc σ s) {n : Int} : TRc (zup σ 16 0 2 n) (su s 7 n) := by
  obtain ⟨h1, h2, h3, h4, h5⟩ := h
  have e : ∀ j, j ≠ 2 → (zup σ 16 0 2 n) 16 0 j = σ 16 0 j := fun j hj => by simp [zup, hj]
  have e6 : (zup σ 16 0 2 n) 16 0 2 = n := by simp [zup]
  refine ⟨by rw [e 1 (by omega), su_ne (by omega)]; exact h1, by rw [e6, su_eq], by rw [e 3 (by omega), su_ne (by omega)]; exact h3, by rw [e 4 (by omega)]; exact h4, fun t h0 hl => ?_⟩
  rw [su_ne (by omega)] at hl
  rw [e 4 (by omega), e 5 (by omega), e 6 (by omega), ebit_su (by omega) (by omega) (by omega), su_ne (show 4 ≠ 7 by omega), su_ne (show 8 ≠ 7 by omega), su_ne (show 5 ≠ 7 by omega), sg_su (by omega) h0 (by omega)]
  exact h5 t h0 hl
theorem TRc_shut {σ : Hp} {s : Nat → Int} (h : TRc σ s) {v : Int} : TRc (zup σ 16 0 5 v) (su s 4 v) := by
  obtain ⟨h1, h2, h3, h4, h5⟩ := h
  have e : ∀ j, j ≠ 5 → (zup σ 16 0 5 v) 16 0 j = σ 16 0 j := fun j hj => by simp [zup, hj]
  have e6 : (zup σ 16 0 5 v) 16 0 5 = v := by simp [zup]
  refine ⟨by rw [e 1 (by omega), su_ne (by omega)]; exact h1, by rw [e 2 (by omega), su_ne (by omega)]; exact h2, by rw [e 3 (by omega), su_ne (by omega)]; exact h3, by rw [e 4 (by omega)]; exact h4, fun t h0 hl => ?_⟩
  rw [su_ne (by omega)] at hl
  rw [e 4 (by omega), e6, e 6 (by omega), ebit_su (by omega) (by omega) (by omega), su_eq, su_ne (show 8 ≠ 4 by omega), su_ne (show 5 ≠ 4 by omega), sg_su (by omega) h0 (by omega)]
  exact ⟨(h5 t h0 hl).1, rfl, (h5 t h0 hl).2.2⟩
/-- the traffic as it is -/
theorem tTake_off {σ : Hp} : Off [16] σ (tTake σ) := by
  unfold tTake
  exact (((((Off.rf.up (by decide)).up (by decide)).up (by decide)).up (by decide)).up (by decide)).up (by decide)
theorem TRc_take {σ : Hp} {s : Nat → Int} (hw : WF s) (h5 : s 5 = 0) (hc : CS σ s) : TRc (tTake σ) s := by
  obtain ⟨c1, c2, c3, c4, c5, c6, c7⟩ := hc
  have w1 := hw.2.1
  have w3 := hw.2.2.2.1
  generalize hσ1 : zup (zup (zup (zup σ 16 0 1 (σ 11 0 1)) 16 0 2 (σ 11 0 0)) 16 0 3 (σ 11 0 2)) 16 0 5 (σ 1 0 5) = σ1
  have f1 : σ1 16 0 1 = s 8 := by rw [← hσ1]; simp [zup]; exact c1 1 (by omega)
  have f2 : σ1 16 0 2 = s 7 := by rw [← hσ1]; simp [zup]; exact c1 0 (by omega)
  have f3 : σ1 16 0 3 = s 9 := by rw [← hσ1]; simp [zup]; exact c1 2 (by omega)
  have f5 : σ1 16 0 5 = s 4 := by rw [← hσ1]; simp [zup]; exact c3
  have o1 : Off [16] σ σ1 := by rw [← hσ1]; exact (((Off.rf.up (by decide)).up (by decide)).up (by decide)).up (by decide)
  generalize hσ2 : zup σ1 16 0 6 (tOpen σ1 0) = σ2
  have g : ∀ j, j ≠ 6 → σ2 16 0 j = σ1 16 0 j := fun j hj => by rw [← hσ2]; simp [zup, hj]
  have g6 : σ2 16 0 6 = tOpen σ1 0 := by rw [← hσ2]; simp [zup]
  have o2 : Off [16] σ σ2 := by rw [← hσ2]; exact o1.up (by decide)
  have e11 : σ2 11 0 3 = s 10 := by rw [o2 11 (by decide)]; exact c1 3 (by omega)
  have e1 : σ2 1 0 6 = s 3 := by rw [o2 1 (by decide)]; exact c4
  have e8 : σ2 16 0 1 = s 8 := by rw [g 1 (by omega)]; exact f1
  have hT : tTake σ = zup σ2 16 0 4 (tBits σ2 (σ2 1 0 6)) := by
    unfold tTake
    rw [hσ1]
    show zup (zup σ1 16 0 6 (tOpen σ1 0)) 16 0 4 (tBits (zup σ1 16 0 6 (tOpen σ1 0)) ((zup σ1 16 0 6 (tOpen σ1 0)) 1 0 6)) = _
    rw [hσ2]
  have e4 : (tTake σ) 16 0 4 = tBits σ2 (s 3) := by rw [hT, e1]; simp [zup]
  have en : ∀ j, j ≠ 4 → (tTake σ) 16 0 j = σ2 16 0 j := fun j hj => by rw [hT]; simp [zup, hj]
  have es : su s 3 (s 3) = s := by
    funext j
    unfold su
    split
    · rename_i q; rw [q]
    · rfl
  refine ⟨by rw [en 1 (by omega)]; exact e8, by rw [en 2 (by omega), g 2 (by omega)]; exact f2, by rw [en 3 (by omega), g 3 (by omega)]; exact f3, by rw [e4]; exact (tBits_ok e8 e11 w3 (t := 0) (by omega)).1, fun t h0 hl => ?_⟩
  have b := (tBits_ok e8 e11 w3 (t := t) (by omega)).2
  rw [es] at b
  rw [e4, en 5 (by omega), en 6 (by omega), g 5 (by omega), g6, f5, h5, bitz_0]
  refine ⟨b, rfl, ?_⟩
  unfold tOpen
  rw [f1, o1 1 (by decide), zor_0 c5]
  split
  · rename_i q
    rw [(c6 t h0 hl).2]
    exact ⟨fun z => Or.inr ⟨q, z⟩, fun z => z.elim (fun y => by omega) (fun y => y.2)⟩
  · rename_i q
    rw [bitz_0]
    exact ⟨fun z => by omega, fun z => z.elim (fun y => by omega) (fun y => absurd y.1 q)⟩
end
section
theorem gX11_keepsMusts_0 (a0 : Int) (σ : Hp) {Q : Option Int → Hp → Prop} (h : Runs 1 mX11_keepsMusts 2 [zR 34 0, zI a0, zI 0] [] σ Q) : Runs 1 mX11_keepsMusts 0 [zR 34 0, zI a0, zU] [] σ Q := by
  refine r_blk [qO (.iconst 0), qO (.istore_n 2)] (pc' := 2) (L' := [zR 34 0, zI a0, zI 0]) (S' := []) (σ' := σ) (Ps := []) (by decide +kernel) rfl trivial ?_
  exact Runs.fg (fgE (fgE (fgE fg0))) h
theorem gX11_keepsMusts_2 (l1 : Int) (l2 : Int) (σ : Hp) {Q : Option Int → Hp → Prop} (h : ((σ 36 0 1 ≤ l2 → Q (some 1) σ) ∧ (¬ σ 36 0 1 ≤ l2 → (0 ≤ l2 ∧ l2 < 14) ∧ ((2 ≤ sg (σ 36 0) l2 4 → (-2147483648 ≤ l2 + 1 ∧ l2 + 1 ≤ 2147483647) ∧ Runs 1 mX11_keepsMusts 2 [zR 34 0, zI l1, zI (l2 + 1)] [] σ Q) ∧ (¬ 2 ≤ sg (σ 36 0) l2 4 → (0 ≤ l2 ∧ l2 < 14) ∧ ((bitz l1 l2 = sg (σ 36 0) l2 4 → (-2147483648 ≤ l2 + 1 ∧ l2 + 1 ≤ 2147483647) ∧ Runs 1 mX11_keepsMusts 2 [zR 34 0, zI l1, zI (l2 + 1)] [] σ Q) ∧ (¬ bitz l1 l2 = sg (σ 36 0) l2 4 → Q (some 0) σ))))))) : Runs 1 mX11_keepsMusts 2 [zR 34 0, zI l1, zI l2] [] σ Q := by
  refine r_blk [qO (.iload_n 2), qO (.aload_n 0), qF (.getfield 13) 11 1, qO (.iconst 1), qO .iaload] (pc' := 9) (L' := [zR 34 0, zI l1, zI l2]) (S' := [zI (σ 36 0 1), zI l2]) (σ' := σ) (Ps := [0 ≤ 1 ∧ 1 < 123]) (by decide +kernel) rfl ⟨(by decide), trivial⟩ ?_
  refine r_icmp_ge (off := 35) (tgt := 44) (by decide +kernel) (by decide) (fun c => ?_) (fun c => ?_)
  · replace h := h.1 c
    refine r_blk [qO (.iconst 1)] (pc' := 45) (L' := [zR 34 0, zI l1, zI l2]) (S' := [zI 1]) (σ' := σ) (Ps := []) (by decide +kernel) rfl trivial ?_
    exact r_retz (by decide +kernel) rfl (by decide) h
  · replace h := h.2 c
    refine r_blk [qO (.aload_n 0), qO (.iload_n 2), qO (.iconst 4)] (pc' := 15) (L' := [zR 34 0, zI l1, zI l2]) (S' := [zI 4, zI l2, zR 34 0]) (σ' := σ) (Ps := []) (by decide +kernel) rfl trivial ?_
    refine r_callVI (As := [zI l2, zI 4]) (S := []) (Lc := [zR 34 0, zI l2, zI 4]) (d' := 0) (n := 2) (g := 34) (x := 0) (ci := 11) kX11_get vX11_get lkX11_106 (by decide +kernel) (by decide) rfl rfl (by decide) rfl rfl (Nat.le_of_ble_eq_true rfl) rfl rfl (Nat.le_of_ble_eq_true rfl) (pX11_get h.1 (by decide) ?_)
    replace h := h.2
    refine r_blk [qO (.iconst 2)] (pc' := 19) (L' := [zR 34 0, zI l1, zI l2]) (S' := [zI 2, zI (sg (σ 36 0) l2 4)]) (σ' := σ) (Ps := []) (by decide +kernel) rfl trivial ?_
    refine r_icmp_ge (off := 19) (tgt := 38) (by decide +kernel) (by decide) (fun c => ?_) (fun c => ?_)
    · replace h := h.1 c
      refine r_blk [qO (.iinc 2 1), qO (.goto (-39))] (pc' := 2) (L' := [zR 34 0, zI l1, zI (l2 + 1)]) (S' := []) (σ' := σ) (Ps := [-2147483648 ≤ l2 + 1 ∧ l2 + 1 ≤ 2147483647]) (by decide +kernel) rfl ⟨h.1, trivial⟩ ?_
      replace h := h.2
      exact Runs.fg (fgE (fgE (fgE fg0))) h
    · replace h := h.2 c
      refine r_blk [qO (.iload_n 1), qO (.iload_n 2), qO .ishr, qO (.iconst 1), qO .iand, qO (.aload_n 0), qO (.iload_n 2), qO (.iconst 4)] (pc' := 30) (L' := [zR 34 0, zI l1, zI l2]) (S' := [zI 4, zI l2, zR 34 0, zI (bitz l1 l2)]) (σ' := σ) (Ps := []) (by decide +kernel) rfl trivial ?_
      refine r_callVI (As := [zI l2, zI 4]) (S := [zI (bitz l1 l2)]) (Lc := [zR 34 0, zI l2, zI 4]) (d' := 0) (n := 2) (g := 34) (x := 0) (ci := 11) kX11_get vX11_get lkX11_106 (by decide +kernel) (by decide) rfl rfl (by decide) rfl rfl (Nat.le_of_ble_eq_true rfl) rfl rfl (Nat.le_of_ble_eq_true rfl) (pX11_get h.1 (by decide) ?_)
      replace h := h.2
      refine r_icmp_eq (off := 5) (tgt := 38) (by decide +kernel) (by decide) (fun c => ?_) (fun c => ?_)
      · replace h := h.1 c
        refine r_blk [qO (.iinc 2 1), qO (.goto (-39))] (pc' := 2) (L' := [zR 34 0, zI l1, zI (l2 + 1)]) (S' := []) (σ' := σ) (Ps := [-2147483648 ≤ l2 + 1 ∧ l2 + 1 ≤ 2147483647]) (by decide +kernel) rfl ⟨h.1, trivial⟩ ?_
        replace h := h.2
        exact Runs.fg (fgE (fgE (fgE fg0))) h
      · replace h := h.2 c
        refine r_blk [qO (.iconst 0)] (pc' := 37) (L' := [zR 34 0, zI l1, zI l2]) (S' := [zI 0]) (σ' := σ) (Ps := []) (by decide +kernel) rfl trivial ?_
        exact r_retz (by decide +kernel) rfl (by decide) h
theorem gX6_firstMustUnkept_0 (a0 : Int) (t : Nat) (σ : Hp) {Q : Option Int → Hp → Prop} (h : Runs 1 mX6_firstMustUnkept 2 [zR 1 t, zI a0, zI 0] [] σ Q) : Runs 1 mX6_firstMustUnkept 0 [zR 1 t, zI a0, zU] [] σ Q := by
  refine r_blk [qO (.iconst 0), qO (.istore_n 2)] (pc' := 2) (L' := [zR 1 t, zI a0, zI 0]) (S' := []) (σ' := σ) (Ps := []) (by decide +kernel) rfl trivial ?_
  exact Runs.fg (fgE (fgE (fgE fg0))) h
theorem gX6_firstMustUnkept_2 (l1 : Int) (l2 : Int) (t : Nat) (σ : Hp) {Q : Option Int → Hp → Prop} (h : ((σ 1 t 1 ≤ l2 → Q (some (-1)) σ) ∧ (¬ σ 1 t 1 ≤ l2 → (0 ≤ l2 ∧ l2 < 14) ∧ ((σ 5 t (l2).toNat = 2 ∨ σ 5 t (l2).toNat = (bitz l1 l2) → (-2147483648 ≤ l2 + 1 ∧ l2 + 1 ≤ 2147483647) ∧ Runs 1 mX6_firstMustUnkept 2 [zR 1 t, zI l1, zI (l2 + 1)] [] σ Q) ∧ (¬ (σ 5 t (l2).toNat = 2 ∨ σ 5 t (l2).toNat = (bitz l1 l2)) → Q (some l2) σ))))) : Runs 1 mX6_firstMustUnkept 2 [zR 1 t, zI l1, zI l2] [] σ Q := by
  refine r_blk [qO (.iload_n 2), qO (.aload_n 0), qF (.getfield 46) 6 1] (pc' := 7) (L' := [zR 1 t, zI l1, zI l2]) (S' := [zI (σ 1 t 1), zI l2]) (σ' := σ) (Ps := []) (by decide +kernel) rfl trivial ?_
  refine r_icmp_ge (off := 24) (tgt := 31) (by decide +kernel) (by decide) (fun c => ?_) (fun c => ?_)
  · replace h := h.1 c
    refine r_blk [qO (.iconst (-1))] (pc' := 32) (L' := [zR 1 t, zI l1, zI l2]) (S' := [zI (-1)]) (σ' := σ) (Ps := []) (by decide +kernel) rfl trivial ?_
    exact r_ret (by decide +kernel) rfl (fun _ => h)
  · replace h := h.2 c
    refine r_blk [qO (.aload_n 0), qO (.iload_n 2), qO (.iload_n 1), qO (.iload_n 2)] (pc' := 14) (L' := [zR 1 t, zI l1, zI l2]) (S' := [zI l2, zI l1, zI l2, zR 1 t]) (σ' := σ) (Ps := []) (by decide +kernel) rfl trivial ?_
    refine r_callNI (As := [zI l1, zI l2]) (S := [zI l2, zR 1 t]) (Lc := [zI l1, zI l2]) (d' := 0) (n := 2) kX10_bitOf vX10_bitOf lkX6_91 (by decide +kernel) (by decide) rfl rfl (Nat.le_of_ble_eq_true rfl) rfl rfl (Nat.le_of_ble_eq_true rfl) (pX10_bitOf  ?_)
    refine r_callVI (As := [zI l2, zI (bitz l1 l2)]) (S := []) (Lc := [zR 1 t, zI l2, zI (bitz l1 l2)]) (d' := 0) (n := 2) (g := 1) (x := t) (ci := 6) kX6_mustLets vX6_mustLets lkX6_94 (by decide +kernel) (by decide) rfl rfl (by decide) rfl rfl (Nat.le_of_ble_eq_true rfl) rfl rfl (Nat.le_of_ble_eq_true rfl) (pX6_mustLets h.1 (fun c => ?_) (fun c => ?_))
    all_goals replace h := h.2
    · replace h := h.1 c
      refine r_if_ne (off := 5) (tgt := 25) (by decide +kernel) (by decide) (fun c => ?_) (fun c => ?_)
      · refine r_blk [qO (.iinc 2 1), qO (.goto (-26))] (pc' := 2) (L' := [zR 1 t, zI l1, zI (l2 + 1)]) (S' := []) (σ' := σ) (Ps := [-2147483648 ≤ l2 + 1 ∧ l2 + 1 ≤ 2147483647]) (by decide +kernel) rfl ⟨h.1, trivial⟩ ?_
        replace h := h.2
        exact Runs.fg (fgE (fgE (fgE fg0))) h
      · exact absurd c (by decide)
    · replace h := h.2 c
      refine r_if_ne (off := 5) (tgt := 25) (by decide +kernel) (by decide) (fun c => ?_) (fun c => ?_)
      · exact absurd c (by decide)
      · refine r_blk [qO (.iload_n 2)] (pc' := 24) (L' := [zR 1 t, zI l1, zI l2]) (S' := [zI l2]) (σ' := σ) (Ps := []) (by decide +kernel) rfl trivial ?_
        exact r_ret (by decide +kernel) rfl (fun _ => h)
theorem gX11_bestOf_0 (a0 : Int) (σ : Hp) {Q : Option Int → Hp → Prop} (h : Runs 6 mX11_bestOf 16 [zR 34 0, zI a0, zI (σ 36 0 3), zI (-9), zI 0, zI 0, zU] [] σ Q) : Runs 6 mX11_bestOf 0 [zR 34 0, zI a0, zU, zU, zU, zU, zU] [] σ Q := by
  refine r_blk [qO (.aload_n 0), qF (.getfield 13) 11 1, qO (.iconst 3), qO .iaload, qO (.istore_n 2), qO (.bipush (-9)), qO (.istore_n 3), qO (.iconst 0), qO (.istore 4), qO (.iconst 0), qO (.istore 5)] (pc' := 16) (L' := [zR 34 0, zI a0, zI (σ 36 0 3), zI (-9), zI 0, zI 0, zU]) (S' := []) (σ' := σ) (Ps := [0 ≤ 3 ∧ 3 < 123]) (by decide +kernel) rfl ⟨(by decide), trivial⟩ ?_
  exact Runs.fg (fgE (fgE (fgE (fgE (fgE (fgE (fgU fg0))))))) h
theorem gX11_bestOf_16 (l1 : Int) (l2 : Int) (l3 : Int) (l4 : Int) (l5 : Int) (σ : Hp) {Q : Option Int → Hp → Prop} (h : ((zshl 1 (σ 36 0 1) ≤ l5 → Q (some l3) (zup σ 36 0 3 l2)) ∧ (¬ zshl 1 (σ 36 0 1) ≤ l5 → Runs 1 mX11_keepsMusts 0 [zR 34 0, zI l5, zU] [] σ (rI (fun z2 σ1 => ((¬ z2 = 0 → ((l1 = 0 → Runs 5 mX11_costOf 0 [zR 34 0, zU, zU, zU] [] (zup σ1 36 0 3 l5) (rI (fun z4 σ3 => ((z4 < 0 → (-2147483648 ≤ l5 + 1 ∧ l5 + 1 ≤ 2147483647) ∧ Runs 6 mX11_bestOf 16 [zR 34 0, zI l1, zI l2, zI l3, zI l4, zI (l5 + 1), zU] [] σ3 Q) ∧ (¬ z4 < 0 → ((l3 < 0 → (-2147483648 ≤ l5 + 1 ∧ l5 + 1 ≤ 2147483647) ∧ Runs 6 mX11_bestOf 16 [zR 34 0, zI l1, zI l2, zI l5, zI z4, zI (l5 + 1), zU] [] σ3 Q) ∧ (¬ l3 < 0 → ((z4 < l4 → (-2147483648 ≤ l5 + 1 ∧ l5 + 1 ≤ 2147483647) ∧ Runs 6 mX11_bestOf 16 [zR 34 0, zI l1, zI l2, zI l5, zI z4, zI (l5 + 1), zU] [] σ3 Q) ∧ (¬ z4 < l4 → (-2147483648 ≤ l5 + 1 ∧ l5 + 1 ≤ 2147483647) ∧ Runs 6 mX11_bestOf 16 [zR 34 0, zI l1, zI l2, zI l3, zI l4, zI (l5 + 1), zU] [] σ3 Q))))))))) ∧ (¬ l1 = 0 → Runs 5 mX11_longestAt 0 [zR 34 0, zI 0, zU, zU, zU] [] (zup σ1 36 0 3 l5) (rI (fun z6 σ5 => ((z6 < 0 → (-2147483648 ≤ l5 + 1 ∧ l5 + 1 ≤ 2147483647) ∧ Runs 6 mX11_bestOf 16 [zR 34 0, zI l1, zI l2, zI l3, zI l4, zI (l5 + 1), zU] [] σ5 Q) ∧ (¬ z6 < 0 → ((l3 < 0 → (-2147483648 ≤ l5 + 1 ∧ l5 + 1 ≤ 2147483647) ∧ Runs 6 mX11_bestOf 16 [zR 34 0, zI l1, zI l2, zI l5, zI z6, zI (l5 + 1), zU] [] σ5 Q) ∧ (¬ l3 < 0 → ((z6 < l4 → (-2147483648 ≤ l5 + 1 ∧ l5 + 1 ≤ 2147483647) ∧ Runs 6 mX11_bestOf 16 [zR 34 0, zI l1, zI l2, zI l5, zI z6, zI (l5 + 1), zU] [] σ5 Q) ∧ (¬ z6 < l4 → (-2147483648 ≤ l5 + 1 ∧ l5 + 1 ≤ 2147483647) ∧ Runs 6 mX11_bestOf 16 [zR 34 0, zI l1, zI l2, zI l3, zI l4, zI (l5 + 1), zU] [] σ5 Q))))))))))) ∧ (z2 = 0 → (-2147483648 ≤ l5 + 1 ∧ l5 + 1 ≤ 2147483647) ∧ Runs 6 mX11_bestOf 16 [zR 34 0, zI l1, zI l2, zI l3, zI l4, zI (l5 + 1), zU] [] σ1 Q))))))) : Runs 6 mX11_bestOf 16 [zR 34 0, zI l1, zI l2, zI l3, zI l4, zI l5, zU] [] σ Q := by
  refine r_blk [qO (.iload 5), qO (.iconst 1), qO (.aload_n 0), qF (.getfield 13) 11 1, qO (.iconst 1), qO .iaload, qO .ishl] (pc' := 26) (L' := [zR 34 0, zI l1, zI l2, zI l3, zI l4, zI l5, zU]) (S' := [zI (zshl 1 (σ 36 0 1)), zI l5]) (σ' := σ) (Ps := [0 ≤ 1 ∧ 1 < 123]) (by decide +kernel) rfl ⟨(by decide), trivial⟩ ?_
  refine r_icmp_ge (off := 73) (tgt := 99) (by decide +kernel) (by decide) (fun c => ?_) (fun c => ?_)
  · replace h := h.1 c
    refine r_blk [qO (.aload_n 0), qF (.getfield 13) 11 1, qO (.iconst 3), qO (.iload_n 2), qO .iastore, qO (.iload_n 3)] (pc' := 107) (L' := [zR 34 0, zI l1, zI l2, zI l3, zI l4, zI l5, zU]) (S' := [zI l3]) (σ' := (zup σ 36 0 3 l2)) (Ps := [0 ≤ 3 ∧ 3 < 123]) (by decide +kernel) rfl ⟨(by decide), trivial⟩ ?_
    exact r_ret (by decide +kernel) rfl (fun _ => h)
  · replace h := h.2 c
    refine r_blk [qO (.aload_n 0), qO (.iload 5)] (pc' := 32) (L' := [zR 34 0, zI l1, zI l2, zI l3, zI l4, zI l5, zU]) (S' := [zI l5, zR 34 0]) (σ' := σ) (Ps := []) (by decide +kernel) rfl trivial ?_
    refine r_callVI (As := [zI l5]) (S := []) (Lc := [zR 34 0, zI l5, zU]) (d' := 1) (n := 1) (g := 34) (x := 0) (ci := 11) kX11_keepsMusts vX11_keepsMusts lkX11_190 (by decide +kernel) (by decide) rfl rfl (by decide) rfl rfl (Nat.le_of_ble_eq_true rfl) rfl rfl (Nat.le_of_ble_eq_true rfl) (h.monoI (fun z2 σ1 h => ?_))
    refine r_if_ne (off := 6) (tgt := 41) (by decide +kernel) (by decide) (fun c => ?_) (fun c => ?_)
    · replace h := h.1 c
      refine r_blk [qO (.aload_n 0), qF (.getfield 13) 11 1, qO (.iconst 3), qO (.iload 5), qO .iastore, qO (.iload_n 1)] (pc' := 50) (L' := [zR 34 0, zI l1, zI l2, zI l3, zI l4, zI l5, zU]) (S' := [zI l1]) (σ' := (zup σ1 36 0 3 l5)) (Ps := [0 ≤ 3 ∧ 3 < 123]) (by decide +kernel) rfl ⟨(by decide), trivial⟩ ?_
      refine r_if_eq (off := 11) (tgt := 61) (by decide +kernel) (by decide) (fun c => ?_) (fun c => ?_)
      · replace h := h.1 c
        refine r_blk [qO (.aload_n 0)] (pc' := 62) (L' := [zR 34 0, zI l1, zI l2, zI l3, zI l4, zI l5, zU]) (S' := [zR 34 0]) (σ' := (zup σ1 36 0 3 l5)) (Ps := []) (by decide +kernel) rfl trivial ?_
        refine r_callVI (As := []) (S := []) (Lc := [zR 34 0, zU, zU, zU]) (d' := 5) (n := 0) (g := 34) (x := 0) (ci := 11) kX11_costOf vX11_costOf lkX11_187 (by decide +kernel) (by decide) rfl rfl (by decide) rfl rfl (Nat.le_of_ble_eq_true rfl) rfl rfl (Nat.le_of_ble_eq_true rfl) (h.monoI (fun z4 σ3 h => ?_))
        refine r_blk [qO (.istore 6), qO (.iload 6)] (pc' := 69) (L' := [zR 34 0, zI l1, zI l2, zI l3, zI l4, zI l5, zI z4]) (S' := [zI z4]) (σ' := σ3) (Ps := []) (by decide +kernel) rfl trivial ?_
        refine r_if_lt (off := 24) (tgt := 93) (by decide +kernel) (by decide) (fun c => ?_) (fun c => ?_)
        · replace h := h.1 c
          refine r_blk [qO (.iinc 5 1), qO (.goto (-80))] (pc' := 16) (L' := [zR 34 0, zI l1, zI l2, zI l3, zI l4, zI (l5 + 1), zI z4]) (S' := []) (σ' := σ3) (Ps := [-2147483648 ≤ l5 + 1 ∧ l5 + 1 ≤ 2147483647]) (by decide +kernel) rfl ⟨h.1, trivial⟩ ?_
          replace h := h.2
          exact Runs.fg (fgE (fgE (fgE (fgE (fgE (fgE (fgU fg0))))))) h
        · replace h := h.2 c
          refine r_blk [qO (.iload_n 3)] (pc' := 73) (L' := [zR 34 0, zI l1, zI l2, zI l3, zI l4, zI l5, zI z4]) (S' := [zI l3]) (σ' := σ3) (Ps := []) (by decide +kernel) rfl trivial ?_
          refine r_if_lt (off := 13) (tgt := 86) (by decide +kernel) (by decide) (fun c => ?_) (fun c => ?_)
          · replace h := h.1 c
            refine r_blk [qO (.iload 5), qO (.istore_n 3), qO (.iload 6), qO (.istore 4), qO (.iinc 5 1), qO (.goto (-80))] (pc' := 16) (L' := [zR 34 0, zI l1, zI l2, zI l5, zI z4, zI (l5 + 1), zI z4]) (S' := []) (σ' := σ3) (Ps := [-2147483648 ≤ l5 + 1 ∧ l5 + 1 ≤ 2147483647]) (by decide +kernel) rfl ⟨h.1, trivial⟩ ?_
            replace h := h.2
            exact Runs.fg (fgE (fgE (fgE (fgE (fgE (fgE (fgU fg0))))))) h
          · replace h := h.2 c
            refine r_blk [qO (.iload 6), qO (.iload 4)] (pc' := 80) (L' := [zR 34 0, zI l1, zI l2, zI l3, zI l4, zI l5, zI z4]) (S' := [zI l4, zI z4]) (σ' := σ3) (Ps := []) (by decide +kernel) rfl trivial ?_
            refine r_icmp_lt (off := 6) (tgt := 86) (by decide +kernel) (by decide) (fun c => ?_) (fun c => ?_)
            · replace h := h.1 c
              refine r_blk [qO (.iload 5), qO (.istore_n 3), qO (.iload 6), qO (.istore 4), qO (.iinc 5 1), qO (.goto (-80))] (pc' := 16) (L' := [zR 34 0, zI l1, zI l2, zI l5, zI z4, zI (l5 + 1), zI z4]) (S' := []) (σ' := σ3) (Ps := [-2147483648 ≤ l5 + 1 ∧ l5 + 1 ≤ 2147483647]) (by decide +kernel) rfl ⟨h.1, trivial⟩ ?_
              replace h := h.2
              exact Runs.fg (fgE (fgE (fgE (fgE (fgE (fgE (fgU fg0))))))) h
            · replace h := h.2 c
              refine r_blk [qO (.goto 10), qO (.iinc 5 1), qO (.goto (-80))] (pc' := 16) (L' := [zR 34 0, zI l1, zI l2, zI l3, zI l4, zI (l5 + 1), zI z4]) (S' := []) (σ' := σ3) (Ps := [-2147483648 ≤ l5 + 1 ∧ l5 + 1 ≤ 2147483647]) (by decide +kernel) rfl ⟨h.1, trivial⟩ ?_
              replace h := h.2
              exact Runs.fg (fgE (fgE (fgE (fgE (fgE (fgE (fgU fg0))))))) h
      · replace h := h.2 c
        refine r_blk [qO (.aload_n 0), qO (.iconst 0)] (pc' := 55) (L' := [zR 34 0, zI l1, zI l2, zI l3, zI l4, zI l5, zU]) (S' := [zI 0, zR 34 0]) (σ' := (zup σ1 36 0 3 l5)) (Ps := []) (by decide +kernel) rfl trivial ?_
        refine r_callVI (As := [zI 0]) (S := []) (Lc := [zR 34 0, zI 0, zU, zU, zU]) (d' := 5) (n := 1) (g := 34) (x := 0) (ci := 11) kX11_longestAt vX11_longestAt lkX11_163 (by decide +kernel) (by decide) rfl rfl (by decide) rfl rfl (Nat.le_of_ble_eq_true rfl) rfl rfl (Nat.le_of_ble_eq_true rfl) (h.monoI (fun z6 σ5 h => ?_))
        refine r_blk [qO (.goto 7), qO (.istore 6), qO (.iload 6)] (pc' := 69) (L' := [zR 34 0, zI l1, zI l2, zI l3, zI l4, zI l5, zI z6]) (S' := [zI z6]) (σ' := σ5) (Ps := []) (by decide +kernel) rfl trivial ?_
        refine r_if_lt (off := 24) (tgt := 93) (by decide +kernel) (by decide) (fun c => ?_) (fun c => ?_)
        · replace h := h.1 c
          refine r_blk [qO (.iinc 5 1), qO (.goto (-80))] (pc' := 16) (L' := [zR 34 0, zI l1, zI l2, zI l3, zI l4, zI (l5 + 1), zI z6]) (S' := []) (σ' := σ5) (Ps := [-2147483648 ≤ l5 + 1 ∧ l5 + 1 ≤ 2147483647]) (by decide +kernel) rfl ⟨h.1, trivial⟩ ?_
          replace h := h.2
          exact Runs.fg (fgE (fgE (fgE (fgE (fgE (fgE (fgU fg0))))))) h
        · replace h := h.2 c
          refine r_blk [qO (.iload_n 3)] (pc' := 73) (L' := [zR 34 0, zI l1, zI l2, zI l3, zI l4, zI l5, zI z6]) (S' := [zI l3]) (σ' := σ5) (Ps := []) (by decide +kernel) rfl trivial ?_
          refine r_if_lt (off := 13) (tgt := 86) (by decide +kernel) (by decide) (fun c => ?_) (fun c => ?_)
          · replace h := h.1 c
            refine r_blk [qO (.iload 5), qO (.istore_n 3), qO (.iload 6), qO (.istore 4), qO (.iinc 5 1), qO (.goto (-80))] (pc' := 16) (L' := [zR 34 0, zI l1, zI l2, zI l5, zI z6, zI (l5 + 1), zI z6]) (S' := []) (σ' := σ5) (Ps := [-2147483648 ≤ l5 + 1 ∧ l5 + 1 ≤ 2147483647]) (by decide +kernel) rfl ⟨h.1, trivial⟩ ?_
            replace h := h.2
            exact Runs.fg (fgE (fgE (fgE (fgE (fgE (fgE (fgU fg0))))))) h
          · replace h := h.2 c
            refine r_blk [qO (.iload 6), qO (.iload 4)] (pc' := 80) (L' := [zR 34 0, zI l1, zI l2, zI l3, zI l4, zI l5, zI z6]) (S' := [zI l4, zI z6]) (σ' := σ5) (Ps := []) (by decide +kernel) rfl trivial ?_
            refine r_icmp_lt (off := 6) (tgt := 86) (by decide +kernel) (by decide) (fun c => ?_) (fun c => ?_)
            · replace h := h.1 c
              refine r_blk [qO (.iload 5), qO (.istore_n 3), qO (.iload 6), qO (.istore 4), qO (.iinc 5 1), qO (.goto (-80))] (pc' := 16) (L' := [zR 34 0, zI l1, zI l2, zI l5, zI z6, zI (l5 + 1), zI z6]) (S' := []) (σ' := σ5) (Ps := [-2147483648 ≤ l5 + 1 ∧ l5 + 1 ≤ 2147483647]) (by decide +kernel) rfl ⟨h.1, trivial⟩ ?_
              replace h := h.2
              exact Runs.fg (fgE (fgE (fgE (fgE (fgE (fgE (fgU fg0))))))) h
            · replace h := h.2 c
              refine r_blk [qO (.goto 10), qO (.iinc 5 1), qO (.goto (-80))] (pc' := 16) (L' := [zR 34 0, zI l1, zI l2, zI l3, zI l4, zI (l5 + 1), zI z6]) (S' := []) (σ' := σ5) (Ps := [-2147483648 ≤ l5 + 1 ∧ l5 + 1 ≤ 2147483647]) (by decide +kernel) rfl ⟨h.1, trivial⟩ ?_
              replace h := h.2
              exact Runs.fg (fgE (fgE (fgE (fgE (fgE (fgE (fgU fg0))))))) h
    · replace h := h.2 c
      refine r_blk [qO (.goto 55), qO (.iinc 5 1), qO (.goto (-80))] (pc' := 16) (L' := [zR 34 0, zI l1, zI l2, zI l3, zI l4, zI (l5 + 1), zU]) (S' := []) (σ' := σ1) (Ps := [-2147483648 ≤ l5 + 1 ∧ l5 + 1 ≤ 2147483647]) (by decide +kernel) rfl ⟨h.1, trivial⟩ ?_
      replace h := h.2
      exact Runs.fg (fgE (fgE (fgE (fgE (fgE (fgE (fgU fg0))))))) h
theorem gX9_cheapestPointing_0 (σ : Hp) {Q : Option Int → Hp → Prop} (h : Runs 6 mX9_cheapestPointing 8 [zR 26 0, zI (-9), zI 1000000, zI 0, zU] [] σ Q) : Runs 6 mX9_cheapestPointing 0 [zR 26 0, zU, zU, zU, zU] [] σ Q := by
  refine r_blk [qO (.bipush (-9)), qO (.istore_n 1), qC (.ldc 31) 1000000, qO (.istore_n 2), qO (.iconst 0), qO (.istore_n 3)] (pc' := 8) (L' := [zR 26 0, zI (-9), zI 1000000, zI 0, zU]) (S' := []) (σ' := σ) (Ps := []) (by decide +kernel) rfl trivial ?_
  exact Runs.fg (fgE (fgE (fgE (fgE (fgU fg0))))) h
theorem gX9_cheapestPointing_8 (l1 : Int) (l2 : Int) (l3 : Int) (σ : Hp) {Q : Option Int → Hp → Prop} (h : ((zshl 1 (σ 1 0 1) ≤ l3 → Q (some l1) σ) ∧ (¬ zshl 1 (σ 1 0 1) ≤ l3 → Runs 1 mX6_firstMustUnkept 0 [zR 1 0, zI l3, zU] [] σ (rI (fun z2 σ1 => ((z2 = (-1) → ∀ σ3 : Hp, σ3 = zup σ1 16 0 4 (tBits σ1 l3) → Runs 5 mX1_totalUpTo 0 [zR 25 0, zI l2, zU, zU] [] σ3 (rI (fun z5 σ4 => ((l2 ≤ z5 → (-2147483648 ≤ l3 + 1 ∧ l3 + 1 ≤ 2147483647) ∧ Runs 6 mX9_cheapestPointing 8 [zR 26 0, zI l1, zI l2, zI (l3 + 1), zU] [] σ4 Q) ∧ (¬ l2 ≤ z5 → (-2147483648 ≤ l3 + 1 ∧ l3 + 1 ≤ 2147483647) ∧ Runs 6 mX9_cheapestPointing 8 [zR 26 0, zI l3, zI z5, zI (l3 + 1), zU] [] σ4 Q))))) ∧ (¬ z2 = (-1) → (-2147483648 ≤ l3 + 1 ∧ l3 + 1 ≤ 2147483647) ∧ Runs 6 mX9_cheapestPointing 8 [zR 26 0, zI l1, zI l2, zI (l3 + 1), zU] [] σ1 Q))))))) : Runs 6 mX9_cheapestPointing 8 [zR 26 0, zI l1, zI l2, zI l3, zU] [] σ Q := by
  refine r_blk [qO (.iload_n 3), qO (.iconst 1), qO (.aload_n 0), qF (.getfield 9) 9 0, qF (.getfield 32) 6 1, qO .ishl] (pc' := 18) (L' := [zR 26 0, zI l1, zI l2, zI l3, zU]) (S' := [zI (zshl 1 (σ 1 0 1)), zI l3]) (σ' := σ) (Ps := []) (by decide +kernel) rfl trivial ?_
  refine r_icmp_ge (off := 53) (tgt := 71) (by decide +kernel) (by decide) (fun c => ?_) (fun c => ?_)
  · replace h := h.1 c
    refine r_blk [qO (.iload_n 1)] (pc' := 72) (L' := [zR 26 0, zI l1, zI l2, zI l3, zU]) (S' := [zI l1]) (σ' := σ) (Ps := []) (by decide +kernel) rfl trivial ?_
    exact r_ret (by decide +kernel) rfl (fun _ => h)
  · replace h := h.2 c
    refine r_blk [qO (.aload_n 0), qF (.getfield 9) 9 0, qO (.iload_n 3)] (pc' := 26) (L' := [zR 26 0, zI l1, zI l2, zI l3, zU]) (S' := [zI l3, zR 1 0]) (σ' := σ) (Ps := []) (by decide +kernel) rfl trivial ?_
    refine r_callVI (As := [zI l3]) (S := []) (Lc := [zR 1 0, zI l3, zU]) (d' := 1) (n := 1) (g := 1) (x := 0) (ci := 6) kX6_firstMustUnkept vX6_firstMustUnkept lkX9_38 (by decide +kernel) (by decide) rfl rfl (by decide) rfl rfl (Nat.le_of_ble_eq_true rfl) rfl rfl (Nat.le_of_ble_eq_true rfl) (h.monoI (fun z2 σ1 h => ?_))
    refine r_blk [qO (.iconst (-1))] (pc' := 30) (L' := [zR 26 0, zI l1, zI l2, zI l3, zU]) (S' := [zI (-1), zI z2]) (σ' := σ1) (Ps := []) (by decide +kernel) rfl trivial ?_
    refine r_icmp_eq (off := 6) (tgt := 36) (by decide +kernel) (by decide) (fun c => ?_) (fun c => ?_)
    · replace h := h.1 c
      refine r_blk [qO (.aload_n 0), qF (.getfield 15) 9 1, qO (.iload_n 3)] (pc' := 41) (L' := [zR 26 0, zI l1, zI l2, zI l3, zU]) (S' := [zI l3, zR 16 0]) (σ' := σ1) (Ps := []) (by decide +kernel) rfl trivial ?_
      refine r_callVV (As := [zI l3]) (S := []) (Lc := [zR 16 0, zI l3, zU]) (d' := 0) (n := 1) (g := 16) (x := 0) (ci := 7) kX7_pointAs vX7_pointAs lkX9_42 (by decide +kernel) (by decide) rfl rfl (by decide) rfl rfl (Nat.le_of_ble_eq_true rfl) rfl rfl (Nat.le_of_ble_eq_true rfl) (pX7_pointAs  ?_)
      generalize hσ3 : zup σ1 16 0 4 (tBits σ1 l3) = σ3
      replace h := h σ3 hσ3.symm
      refine r_blk [qO (.aload_n 0), qF (.getfield 27) 9 4, qO (.iload_n 2)] (pc' := 49) (L' := [zR 26 0, zI l1, zI l2, zI l3, zU]) (S' := [zI l2, zR 25 0]) (σ' := σ3) (Ps := []) (by decide +kernel) rfl trivial ?_
      refine r_callVI (As := [zI l2]) (S := []) (Lc := [zR 25 0, zI l2, zU, zU]) (d' := 5) (n := 1) (g := 25) (x := 0) (ci := 1) kX1_totalUpTo vX1_totalUpTo lkX9_48 (by decide +kernel) (by decide) rfl rfl (by decide) rfl rfl (Nat.le_of_ble_eq_true rfl) rfl rfl (Nat.le_of_ble_eq_true rfl) (h.monoI (fun z5 σ4 h => ?_))
      refine r_blk [qO (.istore 4), qO (.iload 4), qO (.iload_n 2)] (pc' := 57) (L' := [zR 26 0, zI l1, zI l2, zI l3, zI z5]) (S' := [zI l2, zI z5]) (σ' := σ4) (Ps := []) (by decide +kernel) rfl trivial ?_
      refine r_icmp_ge (off := 8) (tgt := 65) (by decide +kernel) (by decide) (fun c => ?_) (fun c => ?_)
      · replace h := h.1 c
        refine r_blk [qO (.iinc 3 1), qO (.goto (-60))] (pc' := 8) (L' := [zR 26 0, zI l1, zI l2, zI (l3 + 1), zI z5]) (S' := []) (σ' := σ4) (Ps := [-2147483648 ≤ l3 + 1 ∧ l3 + 1 ≤ 2147483647]) (by decide +kernel) rfl ⟨h.1, trivial⟩ ?_
        replace h := h.2
        exact Runs.fg (fgE (fgE (fgE (fgE (fgU fg0))))) h
      · replace h := h.2 c
        refine r_blk [qO (.iload 4), qO (.istore_n 2), qO (.iload_n 3), qO (.istore_n 1), qO (.iinc 3 1), qO (.goto (-60))] (pc' := 8) (L' := [zR 26 0, zI l3, zI z5, zI (l3 + 1), zI z5]) (S' := []) (σ' := σ4) (Ps := [-2147483648 ≤ l3 + 1 ∧ l3 + 1 ≤ 2147483647]) (by decide +kernel) rfl ⟨h.1, trivial⟩ ?_
        replace h := h.2
        exact Runs.fg (fgE (fgE (fgE (fgE (fgU fg0))))) h
    · replace h := h.2 c
      refine r_blk [qO (.goto 32), qO (.iinc 3 1), qO (.goto (-60))] (pc' := 8) (L' := [zR 26 0, zI l1, zI l2, zI (l3 + 1), zU]) (S' := []) (σ' := σ1) (Ps := [-2147483648 ≤ l3 + 1 ∧ l3 + 1 ≤ 2147483647]) (by decide +kernel) rfl ⟨h.1, trivial⟩ ?_
      replace h := h.2
      exact Runs.fg (fgE (fgE (fgE (fgE (fgU fg0))))) h
theorem gX11_bestNoon_0 (σ : Hp) {Q : Option Int → Hp → Prop} (h : Runs 6 mX11_bestNoon 16 [zR 34 0, zI (σ 36 0 7), zI (-9), zI 0, zI 0, zU] [] σ Q) : Runs 6 mX11_bestNoon 0 [zR 34 0, zU, zU, zU, zU, zU] [] σ Q := by
  refine r_blk [qO (.aload_n 0), qF (.getfield 13) 11 1, qO (.bipush 7), qO .iaload, qO (.istore_n 1), qO (.bipush (-9)), qO (.istore_n 2), qO (.iconst 0), qO (.istore_n 3), qO (.iconst 0), qO (.istore 4)] (pc' := 16) (L' := [zR 34 0, zI (σ 36 0 7), zI (-9), zI 0, zI 0, zU]) (S' := []) (σ' := σ) (Ps := [0 ≤ 7 ∧ 7 < 123]) (by decide +kernel) rfl ⟨(by decide), trivial⟩ ?_
  exact Runs.fg (fgE (fgE (fgE (fgE (fgE (fgU fg0)))))) h
theorem gX11_bestNoon_16 (l1 : Int) (l2 : Int) (l3 : Int) (l4 : Int) (σ : Hp) {Q : Option Int → Hp → Prop} (h : ((1380 < l4 → Q (some l2) (zup σ 36 0 7 l1)) ∧ (¬ 1380 < l4 → Runs 5 mX11_costOf 0 [zR 34 0, zU, zU, zU] [] (zup σ 36 0 7 l4) (rI (fun z2 σ1 => ((l2 < 0 → (-2147483648 ≤ l4 + 60 ∧ l4 + 60 ≤ 2147483647) ∧ Runs 6 mX11_bestNoon 16 [zR 34 0, zI l1, zI l4, zI z2, zI (l4 + 60), zU] [] σ1 Q) ∧ (¬ l2 < 0 → ((z2 < l3 → (-2147483648 ≤ l4 + 60 ∧ l4 + 60 ≤ 2147483647) ∧ Runs 6 mX11_bestNoon 16 [zR 34 0, zI l1, zI l4, zI z2, zI (l4 + 60), zU] [] σ1 Q) ∧ (¬ z2 < l3 → (-2147483648 ≤ l4 + 60 ∧ l4 + 60 ≤ 2147483647) ∧ Runs 6 mX11_bestNoon 16 [zR 34 0, zI l1, zI l2, zI l3, zI (l4 + 60), zU] [] σ1 Q))))))))) : Runs 6 mX11_bestNoon 16 [zR 34 0, zI l1, zI l2, zI l3, zI l4, zU] [] σ Q := by
  refine r_blk [qO (.iload 4), qO (.sipush 1380)] (pc' := 21) (L' := [zR 34 0, zI l1, zI l2, zI l3, zI l4, zU]) (S' := [zI 1380, zI l4]) (σ' := σ) (Ps := []) (by decide +kernel) rfl trivial ?_
  refine r_icmp_gt (off := 43) (tgt := 64) (by decide +kernel) (by decide) (fun c => ?_) (fun c => ?_)
  · replace h := h.1 c
    refine r_blk [qO (.aload_n 0), qF (.getfield 13) 11 1, qO (.bipush 7), qO (.iload_n 1), qO .iastore, qO (.iload_n 2)] (pc' := 73) (L' := [zR 34 0, zI l1, zI l2, zI l3, zI l4, zU]) (S' := [zI l2]) (σ' := (zup σ 36 0 7 l1)) (Ps := [0 ≤ 7 ∧ 7 < 123]) (by decide +kernel) rfl ⟨(by decide), trivial⟩ ?_
    exact r_ret (by decide +kernel) rfl (fun _ => h)
  · replace h := h.2 c
    refine r_blk [qO (.aload_n 0), qF (.getfield 13) 11 1, qO (.bipush 7), qO (.iload 4), qO .iastore, qO (.aload_n 0)] (pc' := 34) (L' := [zR 34 0, zI l1, zI l2, zI l3, zI l4, zU]) (S' := [zR 34 0]) (σ' := (zup σ 36 0 7 l4)) (Ps := [0 ≤ 7 ∧ 7 < 123]) (by decide +kernel) rfl ⟨(by decide), trivial⟩ ?_
    refine r_callVI (As := []) (S := []) (Lc := [zR 34 0, zU, zU, zU]) (d' := 5) (n := 0) (g := 34) (x := 0) (ci := 11) kX11_costOf vX11_costOf lkX11_187 (by decide +kernel) (by decide) rfl rfl (by decide) rfl rfl (Nat.le_of_ble_eq_true rfl) rfl rfl (Nat.le_of_ble_eq_true rfl) (h.monoI (fun z2 σ1 h => ?_))
    refine r_blk [qO (.istore 5), qO (.iload_n 2)] (pc' := 40) (L' := [zR 34 0, zI l1, zI l2, zI l3, zI l4, zI z2]) (S' := [zI l2]) (σ' := σ1) (Ps := []) (by decide +kernel) rfl trivial ?_
    refine r_if_lt (off := 12) (tgt := 52) (by decide +kernel) (by decide) (fun c => ?_) (fun c => ?_)
    · replace h := h.1 c
      refine r_blk [qO (.iload 4), qO (.istore_n 2), qO (.iload 5), qO (.istore_n 3), qO (.iinc 4 60), qO (.goto (-45))] (pc' := 16) (L' := [zR 34 0, zI l1, zI l4, zI z2, zI (l4 + 60), zI z2]) (S' := []) (σ' := σ1) (Ps := [-2147483648 ≤ l4 + 60 ∧ l4 + 60 ≤ 2147483647]) (by decide +kernel) rfl ⟨h.1, trivial⟩ ?_
      replace h := h.2
      exact Runs.fg (fgE (fgE (fgE (fgE (fgE (fgU fg0)))))) h
    · replace h := h.2 c
      refine r_blk [qO (.iload 5), qO (.iload_n 3)] (pc' := 46) (L' := [zR 34 0, zI l1, zI l2, zI l3, zI l4, zI z2]) (S' := [zI l3, zI z2]) (σ' := σ1) (Ps := []) (by decide +kernel) rfl trivial ?_
      refine r_icmp_lt (off := 6) (tgt := 52) (by decide +kernel) (by decide) (fun c => ?_) (fun c => ?_)
      · replace h := h.1 c
        refine r_blk [qO (.iload 4), qO (.istore_n 2), qO (.iload 5), qO (.istore_n 3), qO (.iinc 4 60), qO (.goto (-45))] (pc' := 16) (L' := [zR 34 0, zI l1, zI l4, zI z2, zI (l4 + 60), zI z2]) (S' := []) (σ' := σ1) (Ps := [-2147483648 ≤ l4 + 60 ∧ l4 + 60 ≤ 2147483647]) (by decide +kernel) rfl ⟨h.1, trivial⟩ ?_
        replace h := h.2
        exact Runs.fg (fgE (fgE (fgE (fgE (fgE (fgU fg0)))))) h
      · replace h := h.2 c
        refine r_blk [qO (.goto 9), qO (.iinc 4 60), qO (.goto (-45))] (pc' := 16) (L' := [zR 34 0, zI l1, zI l2, zI l3, zI (l4 + 60), zI z2]) (S' := []) (σ' := σ1) (Ps := [-2147483648 ≤ l4 + 60 ∧ l4 + 60 ≤ 2147483647]) (by decide +kernel) rfl ⟨h.1, trivial⟩ ?_
        replace h := h.2
        exact Runs.fg (fgE (fgE (fgE (fgE (fgE (fgU fg0)))))) h
theorem gX9_cheapestNoon_0 (σ : Hp) {Q : Option Int → Hp → Prop} (h : Runs 6 mX9_cheapestNoon 7 [zR 26 0, zI 0, zI 1000000, zI 0, zU] [] σ Q) : Runs 6 mX9_cheapestNoon 0 [zR 26 0, zU, zU, zU, zU] [] σ Q := by
  refine r_blk [qO (.iconst 0), qO (.istore_n 1), qC (.ldc 31) 1000000, qO (.istore_n 2), qO (.iconst 0), qO (.istore_n 3)] (pc' := 7) (L' := [zR 26 0, zI 0, zI 1000000, zI 0, zU]) (S' := []) (σ' := σ) (Ps := []) (by decide +kernel) rfl trivial ?_
  exact Runs.fg (fgE (fgE (fgE (fgE (fgU fg0))))) h
theorem gX9_cheapestNoon_7 (l1 : Int) (l2 : Int) (l3 : Int) (σ : Hp) {Q : Option Int → Hp → Prop} (h : ((1440 ≤ l3 → Q (some l1) σ) ∧ (¬ 1440 ≤ l3 → ∀ σ1 : Hp, σ1 = zup σ 16 0 2 l3 → Runs 5 mX1_totalUpTo 0 [zR 25 0, zI l2, zU, zU] [] σ1 (rI (fun z3 σ2 => ((l2 ≤ z3 → (-2147483648 ≤ l3 + 60 ∧ l3 + 60 ≤ 2147483647) ∧ Runs 6 mX9_cheapestNoon 7 [zR 26 0, zI l1, zI l2, zI (l3 + 60), zU] [] σ2 Q) ∧ (¬ l2 ≤ z3 → (-2147483648 ≤ l3 + 60 ∧ l3 + 60 ≤ 2147483647) ∧ Runs 6 mX9_cheapestNoon 7 [zR 26 0, zI l3, zI z3, zI (l3 + 60), zU] [] σ2 Q))))))) : Runs 6 mX9_cheapestNoon 7 [zR 26 0, zI l1, zI l2, zI l3, zU] [] σ Q := by
  refine r_blk [qO (.iload_n 3), qO (.sipush 1440)] (pc' := 11) (L' := [zR 26 0, zI l1, zI l2, zI l3, zU]) (S' := [zI 1440, zI l3]) (σ' := σ) (Ps := []) (by decide +kernel) rfl trivial ?_
  refine r_icmp_ge (off := 38) (tgt := 49) (by decide +kernel) (by decide) (fun c => ?_) (fun c => ?_)
  · replace h := h.1 c
    refine r_blk [qO (.iload_n 1)] (pc' := 50) (L' := [zR 26 0, zI l1, zI l2, zI l3, zU]) (S' := [zI l1]) (σ' := σ) (Ps := []) (by decide +kernel) rfl trivial ?_
    exact r_ret (by decide +kernel) rfl (fun _ => h)
  · replace h := h.2 c
    refine r_blk [qO (.aload_n 0), qF (.getfield 15) 9 1, qO (.iload_n 3)] (pc' := 19) (L' := [zR 26 0, zI l1, zI l2, zI l3, zU]) (S' := [zI l3, zR 16 0]) (σ' := σ) (Ps := []) (by decide +kernel) rfl trivial ?_
    refine r_callVV (As := [zI l3]) (S := []) (Lc := [zR 16 0, zI l3]) (d' := 0) (n := 1) (g := 16) (x := 0) (ci := 7) kX7_turnAt vX7_turnAt lkX9_108 (by decide +kernel) (by decide) rfl rfl (by decide) rfl rfl (Nat.le_of_ble_eq_true rfl) rfl rfl (Nat.le_of_ble_eq_true rfl) (pX7_turnAt  ?_)
    generalize hσ1 : zup σ 16 0 2 l3 = σ1
    replace h := h σ1 hσ1.symm
    refine r_blk [qO (.aload_n 0), qF (.getfield 27) 9 4, qO (.iload_n 2)] (pc' := 27) (L' := [zR 26 0, zI l1, zI l2, zI l3, zU]) (S' := [zI l2, zR 25 0]) (σ' := σ1) (Ps := []) (by decide +kernel) rfl trivial ?_
    refine r_callVI (As := [zI l2]) (S := []) (Lc := [zR 25 0, zI l2, zU, zU]) (d' := 5) (n := 1) (g := 25) (x := 0) (ci := 1) kX1_totalUpTo vX1_totalUpTo lkX9_48 (by decide +kernel) (by decide) rfl rfl (by decide) rfl rfl (Nat.le_of_ble_eq_true rfl) rfl rfl (Nat.le_of_ble_eq_true rfl) (h.monoI (fun z3 σ2 h => ?_))
    refine r_blk [qO (.istore 4), qO (.iload 4), qO (.iload_n 2)] (pc' := 35) (L' := [zR 26 0, zI l1, zI l2, zI l3, zI z3]) (S' := [zI l2, zI z3]) (σ' := σ2) (Ps := []) (by decide +kernel) rfl trivial ?_
    refine r_icmp_ge (off := 8) (tgt := 43) (by decide +kernel) (by decide) (fun c => ?_) (fun c => ?_)
    · replace h := h.1 c
      refine r_blk [qO (.iinc 3 60), qO (.goto (-39))] (pc' := 7) (L' := [zR 26 0, zI l1, zI l2, zI (l3 + 60), zI z3]) (S' := []) (σ' := σ2) (Ps := [-2147483648 ≤ l3 + 60 ∧ l3 + 60 ≤ 2147483647]) (by decide +kernel) rfl ⟨h.1, trivial⟩ ?_
      replace h := h.2
      exact Runs.fg (fgE (fgE (fgE (fgE (fgU fg0))))) h
    · replace h := h.2 c
      refine r_blk [qO (.iload 4), qO (.istore_n 2), qO (.iload_n 3), qO (.istore_n 1), qO (.iinc 3 60), qO (.goto (-39))] (pc' := 7) (L' := [zR 26 0, zI l3, zI z3, zI (l3 + 60), zI z3]) (S' := []) (σ' := σ2) (Ps := [-2147483648 ≤ l3 + 60 ∧ l3 + 60 ≤ 2147483647]) (by decide +kernel) rfl ⟨h.1, trivial⟩ ?_
      replace h := h.2
      exact Runs.fg (fgE (fgE (fgE (fgE (fgU fg0))))) h
end
section
/-! the first of the least -/
def AM (ok : Int → Prop) (f : Int → Int) (n r : Int) : Prop := (r = -9 ∧ ∀ b, 0 ≤ b → b < n → ¬ ok b) ∨ (0 ≤ r ∧ r < n ∧ ok r ∧ (∀ b, 0 ≤ b → b < n → ok b → f r ≤ f b) ∧ ∀ b, 0 ≤ b → b < r → ok b → f r < f b)
theorem AM.zero {ok : Int → Prop} {f : Int → Int} : AM ok f 0 (-9) := Or.inl ⟨rfl, fun b h1 h2 => by omega⟩
theorem AM.skip {ok : Int → Prop} {f : Int → Int} {n n' r : Int} (h : AM ok f n r) (hn : n ≤ n') (hs : ∀ b, n ≤ b → b < n' → ¬ ok b) : AM ok f n' r := by
  rcases h with ⟨h1, h2⟩ | ⟨h1, h2, h3, h4, h5⟩
  · refine Or.inl ⟨h1, fun b b0 bn => ?_⟩
    by_cases q : b < n
    · exact h2 b b0 q
    · exact hs b (by omega) bn
  · refine Or.inr ⟨h1, by omega, h3, fun b b0 bn hb => ?_, h5⟩
    by_cases q : b < n
    · exact h4 b b0 q hb
    · exact absurd hb (hs b (by omega) bn)
theorem AM.less {ok : Int → Prop} {f : Int → Int} {n r : Int} (h : AM ok f n r) (h0 : 0 ≤ n) (hn : ok n) (hl : 0 ≤ r → f n < f r) : AM ok f (n + 1) n := by
  refine Or.inr ⟨h0, by omega, hn, fun b b0 bn hb => ?_, fun b b0 bn hb => ?_⟩
  · by_cases q : b = n
    · rw [q]; omega
    · rcases h with ⟨h1, h2⟩ | ⟨h1, h2, h3, h4, h5⟩
      · exact absurd hb (h2 b b0 (by omega))
      · have := h4 b b0 (by omega) hb
        have := hl h1
        omega
  · rcases h with ⟨h1, h2⟩ | ⟨h1, h2, h3, h4, h5⟩
    · exact absurd hb (h2 b b0 (by omega))
    · have := h4 b b0 (by omega) hb
      have := hl h1
      omega
theorem AM.keep {ok : Int → Prop} {f : Int → Int} {n r : Int} (h : AM ok f n r) (hr : 0 ≤ r) (hl : f r ≤ f n) : AM ok f (n + 1) r := by
  rcases h with ⟨h1, h2⟩ | ⟨h1, h2, h3, h4, h5⟩
  · omega
  · refine Or.inr ⟨h1, by omega, h3, fun b b0 bn hb => ?_, h5⟩
    by_cases q : b = n
    · rw [q]; exact hl
    · exact h4 b b0 (by omega) hb
theorem AM.uniq {ok : Int → Prop} {f : Int → Int} {n r r' : Int} (h : AM ok f n r) (h' : AM ok f n r') : r = r' := by
  rcases h with ⟨h1, h2⟩ | ⟨h1, h2, h3, h4, h5⟩ <;> rcases h' with ⟨g1, g2⟩ | ⟨g1, g2, g3, g4, g5⟩
  · omega
  · exact absurd g3 (h2 r' g1 g2)
  · exact absurd h3 (g2 r h1 h2)
  · have a := h4 r' g1 g2 g3
    have b := g4 r h1 h2 h3
    by_cases q : r < r'
    · have := g5 r h1 q h3; omega
    · by_cases p : r' < r
      · have := h5 r' g1 p g3; omega
      · omega
theorem AM.r9 {ok : Int → Prop} {f : Int → Int} {n r : Int} (h : AM ok f n r) : r = -9 ∨ (0 ≤ r ∧ r < n) := by
  rcases h with ⟨h1, -⟩ | ⟨h1, h2, -⟩
  · exact Or.inl h1
  · exact Or.inr ⟨h1, h2⟩
theorem AM.ok {ok : Int → Prop} {f : Int → Int} {n r : Int} (h : AM ok f n r) (hr : 0 ≤ r) : ok r := by
  rcases h with ⟨h1, -⟩ | ⟨-, -, h3, -⟩
  · omega
  · exact h3
theorem zup_su {σ : Hp} {k : Nat} {v : Int} : (zup σ 36 0 k v) 36 0 = su (σ 36 0) k v := by
  funext j
  unfold zup su
  by_cases h : j = k
  · simp [h]
  · simp [h]
theorem su_su {s : Nat → Int} {k : Nat} {v w : Int} : su (su s k v) k w = su s k w := by
  funext j
  unfold su
  split <;> rfl
theorem su_id {s : Nat → Int} {k : Nat} : su s k (s k) = s := by
  funext j
  unfold su
  split
  · rename_i q; rw [q]
  · rfl
/-! musts -/
def musts (s : Nat → Int) (b : Int) : Prop := ∀ t : Int, 0 ≤ t → t < s 1 → sg s t 4 = 2 ∨ bitz b t = sg s t 4
theorem qX11_keepsMusts {σ : Hp} {K : Int → Hp → Prop} (hw : WF (σ 36 0)) {b : Int} (h1 : musts (σ 36 0) b → K 1 σ) (h0 : ¬ musts (σ 36 0) b → K 0 σ) : Runs 1 mX11_keepsMusts 0 [zR 34 0, zI b, zU] [] σ (rI K) := by
  have w1 := hw.2.1
  have loop : ∀ (n : Nat) (t : Int), (σ 36 0 1 - t).toNat ≤ n → 0 ≤ t → t ≤ σ 36 0 1 → (∀ t' : Int, 0 ≤ t' → t' < t → sg (σ 36 0) t' 4 = 2 ∨ bitz b t' = sg (σ 36 0) t' 4) → Runs 1 mX11_keepsMusts 2 [zR 34 0, zI b, zI t] [] σ (rI K) := by
    intro n
    have fin : ∀ t : Int, t = σ 36 0 1 → (∀ t' : Int, 0 ≤ t' → t' < t → sg (σ 36 0) t' 4 = 2 ∨ bitz b t' = sg (σ 36 0) t' 4) → Runs 1 mX11_keepsMusts 2 [zR 34 0, zI b, zI t] [] σ (rI K) := fun t ht hI => by
      subst ht
      exact gX11_keepsMusts_2 b _ σ ⟨fun _ => h1 hI, fun q => absurd (Int.le_refl _) q⟩
    induction n with
    | zero => intro t hn h0' hl hI; exact fin t (by omega) hI
    | succ n ih =>
      intro t hn h0' hl hI
      by_cases q : t = σ 36 0 1
      · exact fin t q hI
      · have st := hw.2.2.2.2.2.2.2.2.2.2.2.1 t h0' (by omega)
        unfold stOK at st
        have step : (sg (σ 36 0) t 4 = 2 ∨ bitz b t = sg (σ 36 0) t 4) → Runs 1 mX11_keepsMusts 2 [zR 34 0, zI b, zI (t + 1)] [] σ (rI K) := fun hs => ih (t + 1) (by omega) (by omega) (by omega) (fun t' a0 a1 => by
          by_cases p : t' = t
          · rw [p]; exact hs
          · exact hI t' a0 (by omega))
        refine gX11_keepsMusts_2 b t σ ⟨fun z => absurd z (by omega), fun _ => ⟨by omega, fun c => ⟨by omega, step (Or.inl (by omega))⟩, fun c => ⟨by omega, fun c2 => ⟨by omega, step (Or.inr c2)⟩, fun c2 => h0 (fun hall => ?_)⟩⟩⟩
        rcases hall t h0' (by omega) with z | z
        · omega
        · exact c2 z
  exact gX11_keepsMusts_0 b σ (loop (σ 36 0 1).toNat 0 (by omega) (by omega) w1.1 (fun t' a0 a1 => by omega))
/-- the class's first must that is not kept; -1 none -/
theorem qX6_firstMustUnkept {σ : Hp} {K : Int → Hp → Prop} {s : Nat → Int} (hw : WF s) (e1 : σ 1 0 1 = s 1) (e5 : ∀ t : Int, 0 ≤ t → t < s 1 → σ 5 0 t.toNat = sg s t 4) {b : Int} (h1 : musts s b → K (-1) σ) (h0 : ∀ t : Int, 0 ≤ t → t < s 1 → ¬ (sg s t 4 = 2 ∨ bitz b t = sg s t 4) → (∀ t' : Int, 0 ≤ t' → t' < t → sg s t' 4 = 2 ∨ bitz b t' = sg s t' 4) → K t σ) : Runs 1 mX6_firstMustUnkept 0 [zR 1 0, zI b, zU] [] σ (rI K) := by
  have w1 := hw.2.1
  have loop : ∀ (n : Nat) (t : Int), (s 1 - t).toNat ≤ n → 0 ≤ t → t ≤ s 1 → (∀ t' : Int, 0 ≤ t' → t' < t → sg s t' 4 = 2 ∨ bitz b t' = sg s t' 4) → Runs 1 mX6_firstMustUnkept 2 [zR 1 0, zI b, zI t] [] σ (rI K) := by
    intro n
    have fin : ∀ t : Int, t = s 1 → (∀ t' : Int, 0 ≤ t' → t' < t → sg s t' 4 = 2 ∨ bitz b t' = sg s t' 4) → Runs 1 mX6_firstMustUnkept 2 [zR 1 0, zI b, zI t] [] σ (rI K) := fun t ht hI => by
      subst ht
      exact gX6_firstMustUnkept_2 b _ 0 σ ⟨fun _ => h1 hI, fun q => absurd (show σ 1 0 1 ≤ s 1 by omega) q⟩
    induction n with
    | zero => intro t hn h0' hl hI; exact fin t (by omega) hI
    | succ n ih =>
      intro t hn h0' hl hI
      by_cases q : t = s 1
      · exact fin t q hI
      · have e := e5 t h0' (by omega)
        refine gX6_firstMustUnkept_2 b t 0 σ ⟨fun z => absurd z (by omega), fun _ => ⟨by omega, fun c => ⟨by omega, ?_⟩, fun c => ?_⟩⟩
        · rw [e] at c
          refine ih (t + 1) (by omega) (by omega) (by omega) (fun t' a0 a1 => ?_)
          by_cases p : t' = t
          · rw [p]; exact c.imp id Eq.symm
          · exact hI t' a0 (by omega)
        · rw [e] at c
          exact h0 t h0' (by omega) (fun z => c (z.imp id Eq.symm)) hI
  exact gX6_firstMustUnkept_0 b 0 σ (loop (s 1).toNat 0 (by omega) (by omega) w1.1 (fun t' a0 a1 => by omega))
theorem shl_b {n : Int} (h : 0 ≤ n ∧ n ≤ 14) : 1 ≤ zshl 1 n ∧ zshl 1 n ≤ 16384 := by
  have : ∀ k : Fin 15, 1 ≤ zshl 1 (k.val : Int) ∧ zshl 1 (k.val : Int) ≤ 16384 := by decide +kernel
  have h1 := this ⟨n.toNat, by omega⟩
  have h2 : ((n.toNat : Nat) : Int) = n := by omega
  simp only [h2] at h1
  exact h1
theorem musts_su {s : Nat → Int} {k : Nat} {v b : Int} (hk : 1 < k ∧ k < 11) : musts (su s k v) b ↔ musts s b := by
  unfold musts
  rw [su_ne (show 1 ≠ k by omega)]
  constructor
  · intro h t h0 h1
    have := h t h0 h1
    rw [sg_su hk.2 h0 (by omega)] at this
    exact this
  · intro h t h0 h1
    rw [sg_su hk.2 h0 (by omega)]
    exact h t h0 h1
/-- the reference's scan over pointings -/
theorem qX11_bestOf {σ : Hp} {K : Int → Hp → Prop} {G : List Nat} (hG : 36 ∉ G) {s : Nat → Int} (hs : σ 36 0 = s) (hw : WF s) {a0 : Int} {F : Int → Int}
    (hF : ∀ (b : Int) (σ1 : Hp) (K1 : Int → Hp → Prop), 0 ≤ b → b < 16384 → σ1 36 0 = su s 3 b → (∀ σ', Off G σ1 σ' → K1 (F b) σ') → (a0 = 0 → Runs 5 mX11_costOf 0 [zR 34 0, zU, zU, zU] [] σ1 (rI K1)) ∧ (¬ a0 = 0 → Runs 5 mX11_longestAt 0 [zR 34 0, zI 0, zU, zU, zU] [] σ1 (rI K1)))
    (h : ∀ σ' r, Off (36 :: G) σ σ' → (∀ j, σ' 36 0 j = s j) → AM (fun b => musts s b ∧ 0 ≤ F b) F (zshl 1 (s 1)) r → K r σ') : Runs 6 mX11_bestOf 0 [zR 34 0, zI a0, zU, zU, zU, zU, zU] [] σ (rI K) := by
  have w1 := hw.2.1
  have nb := shl_b w1
  have sub : ∀ {a b : Hp}, Off G a b → Off (36 :: G) a b := fun h => h.mono (fun g hg => List.mem_cons_of_mem _ hg)
  have loop : ∀ (n : Nat) (b r l : Int) (σ1 : Hp) (p : Int), (zshl 1 (s 1) - b).toNat ≤ n → 0 ≤ b → b ≤ zshl 1 (s 1) → Off (36 :: G) σ σ1 → (0 ≤ p ∧ p < 16384) → σ1 36 0 = su s 3 p → AM (fun b => musts s b ∧ 0 ≤ F b) F b r → (0 ≤ r → l = F r) → Runs 6 mX11_bestOf 16 [zR 34 0, zI a0, zI (s 3), zI r, zI l, zI b, zU] [] σ1 (rI K) := by
    intro n
    have fin : ∀ (b r l : Int) (σ1 : Hp) (p : Int), b = zshl 1 (s 1) → Off (36 :: G) σ σ1 → σ1 36 0 = su s 3 p → AM (fun b => musts s b ∧ 0 ≤ F b) F b r → Runs 6 mX11_bestOf 16 [zR 34 0, zI a0, zI (s 3), zI r, zI l, zI b, zU] [] σ1 (rI K) := fun b r l σ1 p hb ho hp ha => by
      subst hb
      have e1 : σ1 36 0 1 = s 1 := by rw [hp, su_ne (by omega)]
      refine gX11_bestOf_16 a0 (s 3) r l _ σ1 ⟨fun _ => ?_, fun q => absurd (by rw [e1]; exact Int.le_refl _) q⟩
      refine h _ r (ho.up List.mem_cons_self) (fun j => ?_) ha
      rw [zup_su, hp, su_su, su_id]
    induction n with
    | zero => intro b r l σ1 p hn h0 hl ho hp0 hp ha hlr; exact fin b r l σ1 p (by omega) ho hp ha
    | succ n ih =>
      intro b r l σ1 p hn h0 hl ho hp0 hp ha hlr
      by_cases q : b = zshl 1 (s 1)
      · exact fin b r l σ1 p q ho hp ha
      · have e1 : σ1 36 0 1 = s 1 := by rw [hp, su_ne (by omega)]
        have hw1 : WF (σ1 36 0) := by rw [hp]; exact WF_su hw (Or.inl ⟨Or.inl rfl, hp0⟩)
        have hr9 := ha.r9
        refine gX11_bestOf_16 a0 (s 3) r l b σ1 ⟨fun z => absurd z (by rw [e1]; omega), fun _ => ?_⟩
        refine qX11_keepsMusts hw1 (fun hm => ⟨fun _ => ?_, fun z => absurd z (by omega)⟩) (fun hm => ⟨fun z => absurd rfl z, fun _ => ?_⟩)
        · rw [hp, musts_su (by omega)] at hm
          have hs2 : (zup σ1 36 0 3 b) 36 0 = su s 3 b := by rw [zup_su, hp, su_su]
          have ho2 : Off (36 :: G) σ (zup σ1 36 0 3 b) := ho.up List.mem_cons_self
          have after : ∀ σ3, Off G (zup σ1 36 0 3 b) σ3 → ((F b < 0 → (-2147483648 ≤ b + 1 ∧ b + 1 ≤ 2147483647) ∧ Runs 6 mX11_bestOf 16 [zR 34 0, zI a0, zI (s 3), zI r, zI l, zI (b + 1), zU] [] σ3 (rI K)) ∧ (¬ F b < 0 → ((r < 0 → (-2147483648 ≤ b + 1 ∧ b + 1 ≤ 2147483647) ∧ Runs 6 mX11_bestOf 16 [zR 34 0, zI a0, zI (s 3), zI b, zI (F b), zI (b + 1), zU] [] σ3 (rI K)) ∧ (¬ r < 0 → ((F b < l → (-2147483648 ≤ b + 1 ∧ b + 1 ≤ 2147483647) ∧ Runs 6 mX11_bestOf 16 [zR 34 0, zI a0, zI (s 3), zI b, zI (F b), zI (b + 1), zU] [] σ3 (rI K)) ∧ (¬ F b < l → (-2147483648 ≤ b + 1 ∧ b + 1 ≤ 2147483647) ∧ Runs 6 mX11_bestOf 16 [zR 34 0, zI a0, zI (s 3), zI r, zI l, zI (b + 1), zU] [] σ3 (rI K))))))) := fun σ3 o3 => by
            have hs3 : σ3 36 0 = su s 3 b := by rw [o3 36 hG]; exact hs2
            have ho3 := ho2.tr (sub o3)
            have go : ∀ r' l', AM (fun b => musts s b ∧ 0 ≤ F b) F (b + 1) r' → (0 ≤ r' → l' = F r') → Runs 6 mX11_bestOf 16 [zR 34 0, zI a0, zI (s 3), zI r', zI l', zI (b + 1), zU] [] σ3 (rI K) := fun r' l' ha' hl' => ih (b + 1) r' l' σ3 b (by omega) (by omega) (by omega) ho3 (by omega) hs3 ha' hl'
            refine ⟨fun c => ⟨by omega, go r l (ha.skip (by omega) (fun b' x y z => ?_)) hlr⟩, fun c => ⟨fun c2 => ⟨by omega, go b (F b) (ha.less h0 ⟨hm, by omega⟩ (fun z => by omega)) (fun _ => rfl)⟩, fun c2 => ⟨fun c3 => ⟨by omega, go b (F b) (ha.less h0 ⟨hm, by omega⟩ (fun z => by rw [← hlr z]; exact c3)) (fun _ => rfl)⟩, fun c3 => ⟨by omega, go r l (ha.keep (by omega) (by rw [← hlr (by omega)]; omega)) hlr⟩⟩⟩⟩
            have : b' = b := by omega
            rw [this] at z
            exact absurd z.2 (by omega)
          refine ⟨fun c => And.left (hF b (zup σ1 36 0 3 b) _ h0 (by omega) hs2 ?_) c, fun c => And.right (hF b (zup σ1 36 0 3 b) _ h0 (by omega) hs2 ?_) c⟩
          · exact after
          · exact after
        · rw [hp, musts_su (by omega)] at hm
          refine ⟨by omega, ih (b + 1) r l σ1 p (by omega) (by omega) (by omega) ho hp0 hp (ha.skip (by omega) (fun b' x y z => ?_)) hlr⟩
          have : b' = b := by omega
          rw [this] at z
          exact hm z.1
  have h3 := hw.2.2.2.1
  have := loop (zshl 1 (s 1)).toNat 0 (-9) 0 σ (s 3) (by omega) (by omega) (by omega) Off.rf h3 (by rw [su_id]; exact hs) AM.zero (fun z => by omega)
  refine gX11_bestOf_0 a0 σ ?_
  rw [hs]
  exact this
end
section
/-! the class's scans -/
theorem kept_TM {σ σ' : Hp} {s : Nat → Int} (h : Off [16, 17, 18] σ σ') (hm : TMs σ s) (he : TMe σ s) : TMs σ' s ∧ TMe σ' s := ⟨hm.keep h (by decide) (by decide) (by decide) (by decide), he.keep h (by decide) (by decide) (by decide) (by decide) (by decide)⟩
theorem qX9_cheapestPointing {σ : Hp} {K : Int → Hp → Prop} {s : Nat → Int} (hw : WF s) (ht : TRc σ s) (hm : TMs σ s) (he : TMe σ s) (h10 : σ 11 0 3 = s 10) (e5 : ∀ t : Int, 0 ≤ t → t < s 1 → σ 5 0 t.toNat = sg s t 4)
    (h : ∀ σ' r, Off [16, 17, 18] σ σ' → AM (fun b => musts s b ∧ 0 ≤ costM (su s 3 b)) (fun b => costM (su s 3 b)) (zshl 1 (s 1)) r → K r σ') : Runs 6 mX9_cheapestPointing 0 [zR 26 0, zU, zU, zU, zU] [] σ (rI K) := by
  have w1 := hw.2.1
  have nb := shl_b w1
  have loop : ∀ (n : Nat) (b r l : Int) (σ1 : Hp) (p : Int), (zshl 1 (s 1) - b).toNat ≤ n → 0 ≤ b → b ≤ zshl 1 (s 1) → Off [16, 17, 18] σ σ1 → (0 ≤ p ∧ p < 16384) → TRc σ1 (su s 3 p) → AM (fun b => musts s b ∧ 0 ≤ costM (su s 3 b)) (fun b => costM (su s 3 b)) b r → (0 ≤ r → l = costM (su s 3 r)) → (r < 0 → l = 1000000) → Runs 6 mX9_cheapestPointing 8 [zR 26 0, zI r, zI l, zI b, zU] [] σ1 (rI K) := by
    intro n
    have fin : ∀ (b r l : Int) (σ1 : Hp), b = zshl 1 (s 1) → Off [16, 17, 18] σ σ1 → AM (fun b => musts s b ∧ 0 ≤ costM (su s 3 b)) (fun b => costM (su s 3 b)) b r → Runs 6 mX9_cheapestPointing 8 [zR 26 0, zI r, zI l, zI b, zU] [] σ1 (rI K) := fun b r l σ1 hb ho ha => by
      subst hb
      have e1 : σ1 1 0 1 = s 1 := by rw [ho 1 (by decide)]; exact hm.2.1
      exact gX9_cheapestPointing_8 r l _ σ1 ⟨fun _ => h σ1 r ho ha, fun q => absurd (by rw [e1]; exact Int.le_refl _) q⟩
    induction n with
    | zero => intro b r l σ1 p hn h0 hl ho hp0 htp ha hlr hl9; exact fin b r l σ1 (by omega) ho ha
    | succ n ih =>
      intro b r l σ1 p hn h0 hl ho hp0 htp ha hlr hl9
      by_cases q : b = zshl 1 (s 1)
      · exact fin b r l σ1 q ho ha
      · have e1 : σ1 1 0 1 = s 1 := by rw [ho 1 (by decide)]; exact hm.2.1
        have hr9 := ha.r9
        refine gX9_cheapestPointing_8 r l b σ1 ⟨fun z => absurd z (by rw [e1]; omega), fun _ => ?_⟩
        refine qX6_firstMustUnkept (s := s) hw e1 (fun t a0 a1 => by rw [ho 5 (by decide)]; exact e5 t a0 a1) (fun hmu => ⟨fun _ σ3 e3 => ?_, fun z => absurd rfl z⟩) (fun t t0 t1 hbad _ => ⟨fun z => absurd z (by omega), fun _ => ⟨by omega, ?_⟩⟩)
        · subst e3
          have hb : 0 ≤ b ∧ b < 16384 := by omega
          have hwp := WF_su hw (k := 3) (v := p) (Or.inl ⟨Or.inl rfl, hp0⟩)
          have ht3 : TRc (zup σ1 16 0 4 (tBits σ1 b)) (su s 3 b) := by
            have := TRc_point hwp htp (by rw [ho 11 (by decide), su_ne (by omega)]; exact h10) hb
            rw [su_su] at this
            exact this
          have hwb := WF_su hw (k := 3) (v := b) (Or.inl ⟨Or.inl rfl, hb⟩)
          have o3 : Off [16, 17, 18] σ (zup σ1 16 0 4 (tBits σ1 b)) := ho.up (by decide)
          obtain ⟨m3, n3⟩ := kept_TM o3 hm he
          have cb := costM_b hwb
          refine qX1_totalUpTo hwb ht3 (TMs_su (by omega) m3) (TMe_su (by omega) n3) (fun σ4 z k4 z0 zl z1 z2 => ⟨fun c => ⟨by omega, ?_⟩, fun c => ⟨by omega, ?_⟩⟩)
          · have hF : l ≤ costM (su s 3 b) := by
              by_cases y : costM (su s 3 b) < l
              · have := z1 y; omega
              · omega
            have hr0 : 0 ≤ r := by
              by_cases y : r < 0
              · have := hl9 y; omega
              · omega
            exact ih (b + 1) r l σ4 b (by omega) (by omega) (by omega) (o3.tr k4.1) hb (k4.T ht3 (TMs_su (by omega) m3)).1 (ha.keep hr0 (by rw [← hlr hr0]; exact hF)) hlr hl9
          · have hF : costM (su s 3 b) < l := by
              by_cases y : l ≤ costM (su s 3 b)
              · have := z2 y; omega
              · omega
            have hz := z1 hF
            exact ih (b + 1) b z σ4 b (by omega) (by omega) (by omega) (o3.tr k4.1) hb (k4.T ht3 (TMs_su (by omega) m3)).1 (ha.less h0 ⟨hmu, cb.1⟩ (fun y => by rw [← hlr y]; exact hF)) (fun _ => hz) (fun y => by omega)
        · refine ih (b + 1) r l σ1 p (by omega) (by omega) (by omega) ho hp0 htp (ha.skip (by omega) (fun b' x y z => ?_)) hlr hl9
          have : b' = b := by omega
          rw [this] at z
          exact hbad (z.1 t t0 t1)
  exact gX9_cheapestPointing_0 σ (loop (zshl 1 (s 1)).toNat 0 (-9) 1000000 σ (s 3) (by omega) (by omega) (by omega) Off.rf hw.2.2.2.1 (by rw [su_id]; exact ht) AM.zero (fun z => by omega) (fun _ => rfl))
/-- noons: 0, 60 .. 1380 -/
def okNoon (b : Int) : Prop := b % 60 = 0
theorem qX11_bestNoon {σ : Hp} {K : Int → Hp → Prop} {s : Nat → Int} (hs : σ 36 0 = s) (hw : WF s) (h : ∀ σ' r, Off [36, 41, 42] σ σ' → (∀ j, σ' 36 0 j = s j) → AM okNoon (fun b => costM (su s 7 b)) 1440 r → K r σ') : Runs 6 mX11_bestNoon 0 [zR 34 0, zU, zU, zU, zU, zU] [] σ (rI K) := by
  have loop : ∀ (n k : Nat) (r l : Int) (σ1 : Hp) (p : Int), k + n = 24 → Off [36, 41, 42] σ σ1 → σ1 36 0 = su s 7 p → AM okNoon (fun b => costM (su s 7 b)) (60 * k) r → (0 ≤ r → l = costM (su s 7 r)) → Runs 6 mX11_bestNoon 16 [zR 34 0, zI (s 7), zI r, zI l, zI (60 * (k : Int)), zU] [] σ1 (rI K) := by
    intro n
    induction n with
    | zero =>
      intro k r l σ1 p hk ho hp ha hlr
      refine gX11_bestNoon_16 (s 7) r l _ σ1 ⟨fun _ => ?_, fun q => absurd (show (1380 : Int) < 60 * k by omega) q⟩
      refine h _ r (ho.up (by decide)) (fun j => by rw [zup_su, hp, su_su, su_id]) ?_
      rw [show (60 * (k : Int)) = 1440 by omega] at ha
      exact ha
    | succ n ih =>
      intro k r l σ1 p hk ho hp ha hlr
      have hr9 := ha.r9
      have hs2 : (zup σ1 36 0 7 (60 * (k : Int))) 36 0 = su s 7 (60 * (k : Int)) := by rw [zup_su, hp, su_su]
      have hw2 : WF (su s 7 (60 * (k : Int))) := WF_su hw (Or.inr ⟨rfl, by omega, by omega⟩)
      have okk : okNoon (60 * (k : Int)) := by unfold okNoon; omega
      have skip : ∀ {r'}, AM okNoon (fun b => costM (su s 7 b)) (60 * (k : Int) + 1) r' → AM okNoon (fun b => costM (su s 7 b)) (60 * ((k + 1 : Nat) : Int)) r' := fun h' => h'.skip (by omega) (fun b x y z => by unfold okNoon at z; omega)
      refine gX11_bestNoon_16 (s 7) r l _ σ1 ⟨fun z => absurd z (by omega), fun _ => ?_⟩
      refine qX11_costOf (by rw [hs2]; exact hw2) (fun σ3 o3 => ?_)
      have hs3 : σ3 36 0 = su s 7 (60 * (k : Int)) := by rw [o3 36 (by decide)]; exact hs2
      have ho3 : Off [36, 41, 42] σ σ3 := (ho.up (by decide)).tr (o3.mono (by decide))
      have nx : (60 * (k : Int)) + 60 = 60 * ((k + 1 : Nat) : Int) := by omega
      rw [hs2, nx]
      refine ⟨fun c => ⟨by omega, ih (k + 1) _ _ σ3 _ (by omega) ho3 hs3 (skip (ha.less (by omega) okk (fun z => by omega))) (fun _ => rfl)⟩, fun c => ⟨fun c2 => ⟨by omega, ih (k + 1) _ _ σ3 _ (by omega) ho3 hs3 (skip (ha.less (by omega) okk (fun z => by rw [← hlr z]; exact c2))) (fun _ => rfl)⟩, fun c2 => ⟨by omega, ih (k + 1) _ _ σ3 _ (by omega) ho3 hs3 (skip (ha.keep (by omega) (by rw [← hlr (by omega)]; omega))) hlr⟩⟩⟩
  have := loop 24 0 (-9) 0 σ (s 7) rfl Off.rf (by rw [su_id]; exact hs) AM.zero (fun z => by omega)
  refine gX11_bestNoon_0 σ ?_
  rw [hs]
  exact this
theorem qX9_cheapestNoon {σ : Hp} {K : Int → Hp → Prop} {s : Nat → Int} (hw : WF s) (ht : TRc σ s) (hm : TMs σ s) (he : TMe σ s) (h : ∀ σ' r, Off [16, 17, 18] σ σ' → AM okNoon (fun b => costM (su s 7 b)) 1440 r → K r σ') : Runs 6 mX9_cheapestNoon 0 [zR 26 0, zU, zU, zU, zU] [] σ (rI K) := by
  have loop : ∀ (n k : Nat) (r r0 l : Int) (σ1 : Hp) (p : Int), k + n = 24 → Off [16, 17, 18] σ σ1 → (0 ≤ p ∧ p ≤ 1439) → TRc σ1 (su s 7 p) → AM okNoon (fun b => costM (su s 7 b)) (60 * k) r0 → (0 ≤ r0 → l = costM (su s 7 r0) ∧ r = r0) → (r0 < 0 → l = 1000000 ∧ k = 0) → Runs 6 mX9_cheapestNoon 7 [zR 26 0, zI r, zI l, zI (60 * (k : Int)), zU] [] σ1 (rI K) := by
    intro n
    induction n with
    | zero =>
      intro k r r0 l σ1 p hk ho hp0 htp ha hlr hl9
      have hr9 := ha.r9
      refine gX9_cheapestNoon_7 r l _ σ1 ⟨fun _ => ?_, fun q => absurd (show (1440 : Int) ≤ 60 * k by omega) q⟩
      have h0 : 0 ≤ r0 := by
        by_cases y : r0 < 0
        · have := (hl9 y).2; omega
        · omega
      rw [show (60 * (k : Int)) = 1440 by omega] at ha
      rw [(hlr h0).2]
      exact h σ1 r0 ho ha
    | succ n ih =>
      intro k r r0 l σ1 p hk ho hp0 htp ha hlr hl9
      have hr9 := ha.r9
      have okk : okNoon (60 * (k : Int)) := by unfold okNoon; omega
      have skip : ∀ {r'}, AM okNoon (fun b => costM (su s 7 b)) (60 * (k : Int) + 1) r' → AM okNoon (fun b => costM (su s 7 b)) (60 * ((k + 1 : Nat) : Int)) r' := fun h' => h'.skip (by omega) (fun b x y z => by unfold okNoon at z; omega)
      have nx : (60 * (k : Int)) + 60 = 60 * ((k + 1 : Nat) : Int) := by omega
      refine gX9_cheapestNoon_7 r l _ σ1 ⟨fun z => absurd z (by omega), fun _ σ3 e3 => ?_⟩
      subst e3
      have hb : 0 ≤ 60 * (k : Int) ∧ 60 * (k : Int) ≤ 1439 := by omega
      have ht3 : TRc (zup σ1 16 0 2 (60 * (k : Int))) (su s 7 (60 * (k : Int))) := by
        have := TRc_noon htp (n := 60 * (k : Int))
        rw [su_su] at this
        exact this
      have hwb := WF_su hw (k := 7) (v := 60 * (k : Int)) (Or.inr ⟨rfl, hb.1, hb.2⟩)
      have o3 : Off [16, 17, 18] σ (zup σ1 16 0 2 (60 * (k : Int))) := ho.up (by decide)
      obtain ⟨m3, n3⟩ := kept_TM o3 hm he
      have cb := costM_b hwb
      rw [nx]
      refine qX1_totalUpTo hwb ht3 (TMs_su (by omega) m3) (TMe_su (by omega) n3) (fun σ4 z k4 z0 zl z1 z2 => ⟨fun c => ⟨by omega, ?_⟩, fun c => ⟨by omega, ?_⟩⟩)
      · have hF : l ≤ costM (su s 7 (60 * (k : Int))) := by
          by_cases y : costM (su s 7 (60 * (k : Int))) < l
          · have := z1 y; omega
          · omega
        have hr0 : 0 ≤ r0 := by
          by_cases y : r0 < 0
          · have := (hl9 y).1; omega
          · omega
        exact ih (k + 1) r r0 l σ4 _ (by omega) (o3.tr k4.1) hb (k4.T ht3 (TMs_su (by omega) m3)).1 (skip (ha.keep hr0 (by rw [← (hlr hr0).1]; exact hF))) hlr (fun y => by omega)
      · have hF : costM (su s 7 (60 * (k : Int))) < l := by
          by_cases y : l ≤ costM (su s 7 (60 * (k : Int)))
          · have := z2 y; omega
          · omega
        have hz := z1 hF
        exact ih (k + 1) (60 * (k : Int)) (60 * (k : Int)) z σ4 _ (by omega) (o3.tr k4.1) hb (k4.T ht3 (TMs_su (by omega) m3)).1 (skip (ha.less (by omega) okk (fun y => by rw [← (hlr y).1]; exact hF))) (fun _ => ⟨hz, rfl⟩) (fun y => by omega)
  exact gX9_cheapestNoon_0 σ (loop 24 0 0 (-9) 1000000 σ (s 7) rfl Off.rf hw.2.2.2.2.2.2.2.1 (by rw [su_id]; exact ht) AM.zero (fun z => by omega) (fun _ => ⟨rfl, rfl⟩))
end
section
theorem gX11_turning_0 (σ : Hp) {Q : Option Int → Hp → Prop} (h : Runs 5 mX11_costOf 0 [zR 34 0, zU, zU, zU] [] σ (rI (fun z2 σ1 => Runs 6 mX11_turning 17 [zR 34 0, zI (σ 36 0 3), zI z2, zI 1, zI 0, zU, zU, zU] [] σ1 Q))) : Runs 6 mX11_turning 0 [zR 34 0, zU, zU, zU, zU, zU, zU, zU] [] σ Q := by
  refine r_blk [qO (.aload_n 0), qF (.getfield 13) 11 1, qO (.iconst 3), qO .iaload, qO (.istore_n 1), qO (.aload_n 0)] (pc' := 8) (L' := [zR 34 0, zI (σ 36 0 3), zU, zU, zU, zU, zU, zU]) (S' := [zR 34 0]) (σ' := σ) (Ps := [0 ≤ 3 ∧ 3 < 123]) (by decide +kernel) rfl ⟨(by decide), trivial⟩ ?_
  refine r_callVI (As := []) (S := []) (Lc := [zR 34 0, zU, zU, zU]) (d' := 5) (n := 0) (g := 34) (x := 0) (ci := 11) kX11_costOf vX11_costOf lkX11_187 (by decide +kernel) (by decide) rfl rfl (by decide) rfl rfl (Nat.le_of_ble_eq_true rfl) rfl rfl (Nat.le_of_ble_eq_true rfl) (h.monoI (fun z2 σ1 h => ?_))
  refine r_blk [qO (.istore_n 2), qO (.iconst 1), qO (.istore_n 3), qO (.iconst 0), qO (.istore 4)] (pc' := 17) (L' := [zR 34 0, zI (σ 36 0 3), zI z2, zI 1, zI 0, zU, zU, zU]) (S' := []) (σ' := σ1) (Ps := []) (by decide +kernel) rfl trivial ?_
  exact Runs.fg (fgE (fgE (fgE (fgE (fgE (fgU (fgU (fgU fg0)))))))) h
theorem gX11_turning_17 (l1 : Int) (l2 : Int) (l3 : Int) (l4 : Int) (σ : Hp) {Q : Option Int → Hp → Prop} (h : ((20 ≤ l4 → Q (some (σ 36 0 3)) (zup σ 36 0 3 l1)) ∧ (¬ 20 ≤ l4 → ((l3 = 0 → Q (some (σ 36 0 3)) (zup σ 36 0 3 l1)) ∧ (¬ l3 = 0 → Runs 6 mX11_turning 33 [zR 34 0, zI l1, zI l2, zI 0, zI l4, zI 0, zU, zU] [] σ Q))))) : Runs 6 mX11_turning 17 [zR 34 0, zI l1, zI l2, zI l3, zI l4, zU, zU, zU] [] σ Q := by
  refine r_blk [qO (.iload 4), qO (.bipush 20)] (pc' := 21) (L' := [zR 34 0, zI l1, zI l2, zI l3, zI l4, zU, zU, zU]) (S' := [zI 20, zI l4]) (σ' := σ) (Ps := []) (by decide +kernel) rfl trivial ?_
  refine r_icmp_ge (off := 122) (tgt := 143) (by decide +kernel) (by decide) (fun c => ?_) (fun c => ?_)
  · replace h := h.1 c
    refine r_blk [qO (.aload_n 0), qF (.getfield 13) 11 1, qO (.iconst 3), qO .iaload, qO (.istore 4), qO (.aload_n 0), qF (.getfield 13) 11 1, qO (.iconst 3), qO (.iload_n 1), qO .iastore, qO (.iload 4)] (pc' := 160) (L' := [zR 34 0, zI l1, zI l2, zI l3, zI (σ 36 0 3), zU, zU, zU]) (S' := [zI (σ 36 0 3)]) (σ' := (zup σ 36 0 3 l1)) (Ps := [0 ≤ 3 ∧ 3 < 123, 0 ≤ 3 ∧ 3 < 123]) (by decide +kernel) rfl ⟨(by decide), (by decide), trivial⟩ ?_
    exact r_ret (by decide +kernel) rfl (fun _ => h)
  · replace h := h.2 c
    refine r_blk [qO (.iload_n 3)] (pc' := 25) (L' := [zR 34 0, zI l1, zI l2, zI l3, zI l4, zU, zU, zU]) (S' := [zI l3]) (σ' := σ) (Ps := []) (by decide +kernel) rfl trivial ?_
    refine r_if_eq (off := 118) (tgt := 143) (by decide +kernel) (by decide) (fun c => ?_) (fun c => ?_)
    · replace h := h.1 c
      refine r_blk [qO (.aload_n 0), qF (.getfield 13) 11 1, qO (.iconst 3), qO .iaload, qO (.istore 4), qO (.aload_n 0), qF (.getfield 13) 11 1, qO (.iconst 3), qO (.iload_n 1), qO .iastore, qO (.iload 4)] (pc' := 160) (L' := [zR 34 0, zI l1, zI l2, zI l3, zI (σ 36 0 3), zU, zU, zU]) (S' := [zI (σ 36 0 3)]) (σ' := (zup σ 36 0 3 l1)) (Ps := [0 ≤ 3 ∧ 3 < 123, 0 ≤ 3 ∧ 3 < 123]) (by decide +kernel) rfl ⟨(by decide), (by decide), trivial⟩ ?_
      exact r_ret (by decide +kernel) rfl (fun _ => h)
    · replace h := h.2 c
      refine r_blk [qO (.iconst 0), qO (.istore_n 3), qO (.iconst 0), qO (.istore 5)] (pc' := 33) (L' := [zR 34 0, zI l1, zI l2, zI 0, zI l4, zI 0, zU, zU]) (S' := []) (σ' := σ) (Ps := []) (by decide +kernel) rfl trivial ?_
      exact Runs.fg (fgE (fgE (fgE (fgE (fgE (fgE (fgU (fgU fg0)))))))) h
theorem gX11_turning_33 (l1 : Int) (l2 : Int) (l3 : Int) (l4 : Int) (l5 : Int) (σ : Hp) {Q : Option Int → Hp → Prop} (h : ((σ 36 0 1 ≤ l5 → (-2147483648 ≤ l4 + 1 ∧ l4 + 1 ≤ 2147483647) ∧ Runs 6 mX11_turning 17 [zR 34 0, zI l1, zI l2, zI l3, zI (l4 + 1), zU, zU, zU] [] σ Q) ∧ (¬ σ 36 0 1 ≤ l5 → (-2147483648 ≤ 1 - (bitz (σ 36 0 3) l5) ∧ 1 - (bitz (σ 36 0 3) l5) ≤ 2147483647) ∧ (0 ≤ l5 ∧ l5 < 14) ∧ ((2 ≤ sg (σ 36 0) l5 4 → Runs 6 mX11_turning 85 [zR 34 0, zI l1, zI l2, zI l3, zI l4, zI l5, zU, zU] [] σ Q) ∧ (¬ 2 ≤ sg (σ 36 0) l5 4 → (0 ≤ l5 ∧ l5 < 14) ∧ ((sg (σ 36 0) l5 4 = 1 - (bitz (σ 36 0 3) l5) → Runs 6 mX11_turning 85 [zR 34 0, zI l1, zI l2, zI l3, zI l4, zI l5, zU, zU] [] σ Q) ∧ (¬ sg (σ 36 0) l5 4 = 1 - (bitz (σ 36 0 3) l5) → (-2147483648 ≤ l5 + 1 ∧ l5 + 1 ≤ 2147483647) ∧ Runs 6 mX11_turning 33 [zR 34 0, zI l1, zI l2, zI l3, zI l4, zI (l5 + 1), zU, zU] [] σ Q))))))) : Runs 6 mX11_turning 33 [zR 34 0, zI l1, zI l2, zI l3, zI l4, zI l5, zU, zU] [] σ Q := by
  refine r_blk [qO (.iload 5), qO (.aload_n 0), qF (.getfield 13) 11 1, qO (.iconst 1), qO .iaload] (pc' := 41) (L' := [zR 34 0, zI l1, zI l2, zI l3, zI l4, zI l5, zU, zU]) (S' := [zI (σ 36 0 1), zI l5]) (σ' := σ) (Ps := [0 ≤ 1 ∧ 1 < 123]) (by decide +kernel) rfl ⟨(by decide), trivial⟩ ?_
  refine r_icmp_ge (off := 96) (tgt := 137) (by decide +kernel) (by decide) (fun c => ?_) (fun c => ?_)
  · replace h := h.1 c
    refine r_blk [qO (.iinc 4 1), qO (.goto (-123))] (pc' := 17) (L' := [zR 34 0, zI l1, zI l2, zI l3, zI (l4 + 1), zI l5, zU, zU]) (S' := []) (σ' := σ) (Ps := [-2147483648 ≤ l4 + 1 ∧ l4 + 1 ≤ 2147483647]) (by decide +kernel) rfl ⟨h.1, trivial⟩ ?_
    replace h := h.2
    exact Runs.fg (fgE (fgE (fgE (fgE (fgE (fgU (fgU (fgU fg0)))))))) h
  · replace h := h.2 c
    refine r_blk [qO (.iconst 1), qO (.aload_n 0), qF (.getfield 13) 11 1, qO (.iconst 3), qO .iaload, qO (.iload 5), qO .ishr, qO (.iconst 1), qO .iand, qO .isub, qO (.istore 6), qO (.aload_n 0), qO (.iload 5), qO (.iconst 4)] (pc' := 63) (L' := [zR 34 0, zI l1, zI l2, zI l3, zI l4, zI l5, zI (1 - (bitz (σ 36 0 3) l5)), zU]) (S' := [zI 4, zI l5, zR 34 0]) (σ' := σ) (Ps := [0 ≤ 3 ∧ 3 < 123, -2147483648 ≤ 1 - (bitz (σ 36 0 3) l5) ∧ 1 - (bitz (σ 36 0 3) l5) ≤ 2147483647]) (by decide +kernel) rfl ⟨(by decide), h.1, trivial⟩ ?_
    replace h := h.2
    refine r_callVI (As := [zI l5, zI 4]) (S := []) (Lc := [zR 34 0, zI l5, zI 4]) (d' := 0) (n := 2) (g := 34) (x := 0) (ci := 11) kX11_get vX11_get lkX11_106 (by decide +kernel) (by decide) rfl rfl (by decide) rfl rfl (Nat.le_of_ble_eq_true rfl) rfl rfl (Nat.le_of_ble_eq_true rfl) (pX11_get h.1 (by decide) ?_)
    replace h := h.2
    refine r_blk [qO (.iconst 2)] (pc' := 67) (L' := [zR 34 0, zI l1, zI l2, zI l3, zI l4, zI l5, zI (1 - (bitz (σ 36 0 3) l5)), zU]) (S' := [zI 2, zI (sg (σ 36 0) l5 4)]) (σ' := σ) (Ps := []) (by decide +kernel) rfl trivial ?_
    refine r_icmp_ge (off := 18) (tgt := 85) (by decide +kernel) (by decide) (fun c => ?_) (fun c => ?_)
    · replace h := h.1 c
      exact Runs.fg (fgE (fgE (fgE (fgE (fgE (fgE (fgU (fgU fg0)))))))) h
    · replace h := h.2 c
      refine r_blk [qO (.aload_n 0), qO (.iload 5), qO (.iconst 4)] (pc' := 74) (L' := [zR 34 0, zI l1, zI l2, zI l3, zI l4, zI l5, zI (1 - (bitz (σ 36 0 3) l5)), zU]) (S' := [zI 4, zI l5, zR 34 0]) (σ' := σ) (Ps := []) (by decide +kernel) rfl trivial ?_
      refine r_callVI (As := [zI l5, zI 4]) (S := []) (Lc := [zR 34 0, zI l5, zI 4]) (d' := 0) (n := 2) (g := 34) (x := 0) (ci := 11) kX11_get vX11_get lkX11_106 (by decide +kernel) (by decide) rfl rfl (by decide) rfl rfl (Nat.le_of_ble_eq_true rfl) rfl rfl (Nat.le_of_ble_eq_true rfl) (pX11_get h.1 (by decide) ?_)
      replace h := h.2
      refine r_blk [qO (.iload 6)] (pc' := 79) (L' := [zR 34 0, zI l1, zI l2, zI l3, zI l4, zI l5, zI (1 - (bitz (σ 36 0 3) l5)), zU]) (S' := [zI (1 - (bitz (σ 36 0 3) l5)), zI (sg (σ 36 0) l5 4)]) (σ' := σ) (Ps := []) (by decide +kernel) rfl trivial ?_
      refine r_icmp_eq (off := 6) (tgt := 85) (by decide +kernel) (by decide) (fun c => ?_) (fun c => ?_)
      · replace h := h.1 c
        exact Runs.fg (fgE (fgE (fgE (fgE (fgE (fgE (fgU (fgU fg0)))))))) h
      · replace h := h.2 c
        refine r_blk [qO (.goto 49), qO (.iinc 5 1), qO (.goto (-101))] (pc' := 33) (L' := [zR 34 0, zI l1, zI l2, zI l3, zI l4, zI (l5 + 1), zI (1 - (bitz (σ 36 0 3) l5)), zU]) (S' := []) (σ' := σ) (Ps := [-2147483648 ≤ l5 + 1 ∧ l5 + 1 ≤ 2147483647]) (by decide +kernel) rfl ⟨h.1, trivial⟩ ?_
        replace h := h.2
        exact Runs.fg (fgE (fgE (fgE (fgE (fgE (fgE (fgU (fgU fg0)))))))) h
theorem gX11_turning_85 (l1 : Int) (l2 : Int) (l3 : Int) (l4 : Int) (l5 : Int) (σ : Hp) {Q : Option Int → Hp → Prop} (h : Runs 5 mX11_costOf 0 [zR 34 0, zU, zU, zU] [] (zup σ 36 0 3 (zxor (σ 36 0 3) (zshl 1 l5))) (rI (fun z2 σ1 => ((l2 ≤ z2 → (-2147483648 ≤ l5 + 1 ∧ l5 + 1 ≤ 2147483647) ∧ Runs 6 mX11_turning 33 [zR 34 0, zI l1, zI l2, zI l3, zI l4, zI (l5 + 1), zU, zU] [] (zup σ1 36 0 3 (zxor (σ1 36 0 3) (zshl 1 l5))) Q) ∧ (¬ l2 ≤ z2 → (-2147483648 ≤ l5 + 1 ∧ l5 + 1 ≤ 2147483647) ∧ Runs 6 mX11_turning 33 [zR 34 0, zI l1, zI z2, zI 1, zI l4, zI (l5 + 1), zU, zU] [] σ1 Q))))) : Runs 6 mX11_turning 85 [zR 34 0, zI l1, zI l2, zI l3, zI l4, zI l5, zU, zU] [] σ Q := by
  refine r_blk [qO (.aload_n 0), qF (.getfield 13) 11 1, qO (.iconst 3), qO .dup2, qO .iaload, qO (.iconst 1), qO (.iload 5), qO .ishl, qO .ixor, qO .iastore, qO (.aload_n 0)] (pc' := 99) (L' := [zR 34 0, zI l1, zI l2, zI l3, zI l4, zI l5, zU, zU]) (S' := [zR 34 0]) (σ' := (zup σ 36 0 3 (zxor (σ 36 0 3) (zshl 1 l5)))) (Ps := [0 ≤ 3 ∧ 3 < 123, 0 ≤ 3 ∧ 3 < 123]) (by decide +kernel) rfl ⟨(by decide), (by decide), trivial⟩ ?_
  refine r_callVI (As := []) (S := []) (Lc := [zR 34 0, zU, zU, zU]) (d' := 5) (n := 0) (g := 34) (x := 0) (ci := 11) kX11_costOf vX11_costOf lkX11_187 (by decide +kernel) (by decide) rfl rfl (by decide) rfl rfl (Nat.le_of_ble_eq_true rfl) rfl rfl (Nat.le_of_ble_eq_true rfl) (h.monoI (fun z2 σ1 h => ?_))
  refine r_blk [qO (.istore 7), qO (.iload 7), qO (.iload_n 2)] (pc' := 107) (L' := [zR 34 0, zI l1, zI l2, zI l3, zI l4, zI l5, zU, zI z2]) (S' := [zI l2, zI z2]) (σ' := σ1) (Ps := []) (by decide +kernel) rfl trivial ?_
  refine r_icmp_ge (off := 11) (tgt := 118) (by decide +kernel) (by decide) (fun c => ?_) (fun c => ?_)
  · replace h := h.1 c
    refine r_blk [qO (.aload_n 0), qF (.getfield 13) 11 1, qO (.iconst 3), qO .dup2, qO .iaload, qO (.iconst 1), qO (.iload 5), qO .ishl, qO .ixor, qO .iastore, qO (.iinc 5 1), qO (.goto (-101))] (pc' := 33) (L' := [zR 34 0, zI l1, zI l2, zI l3, zI l4, zI (l5 + 1), zU, zI z2]) (S' := []) (σ' := (zup σ1 36 0 3 (zxor (σ1 36 0 3) (zshl 1 l5)))) (Ps := [0 ≤ 3 ∧ 3 < 123, 0 ≤ 3 ∧ 3 < 123, -2147483648 ≤ l5 + 1 ∧ l5 + 1 ≤ 2147483647]) (by decide +kernel) rfl ⟨(by decide), (by decide), h.1, trivial⟩ ?_
    replace h := h.2
    exact Runs.fg (fgE (fgE (fgE (fgE (fgE (fgE (fgU (fgU fg0)))))))) h
  · replace h := h.2 c
    refine r_blk [qO (.iload 7), qO (.istore_n 2), qO (.iconst 1), qO (.istore_n 3), qO (.goto 16), qO (.iinc 5 1), qO (.goto (-101))] (pc' := 33) (L' := [zR 34 0, zI l1, zI z2, zI 1, zI l4, zI (l5 + 1), zU, zI z2]) (S' := []) (σ' := σ1) (Ps := [-2147483648 ≤ l5 + 1 ∧ l5 + 1 ≤ 2147483647]) (by decide +kernel) rfl ⟨h.1, trivial⟩ ?_
    replace h := h.2
    exact Runs.fg (fgE (fgE (fgE (fgE (fgE (fgE (fgU (fgU fg0)))))))) h
theorem gX9_turnedPointing_0 (σ : Hp) {Q : Option Int → Hp → Prop} (h : Runs 5 mX1_totalUpTo 0 [zR 25 0, zI 1000000, zU, zU] [] σ (rI (fun z2 σ1 => Runs 6 mX9_turnedPointing 23 [zR 26 0, zI (σ 1 0 6), zI z2, zI 1, zI 0, zU, zU, zU] [] σ1 Q))) : Runs 6 mX9_turnedPointing 0 [zR 26 0, zU, zU, zU, zU, zU, zU, zU] [] σ Q := by
  refine r_blk [qO (.aload_n 0), qF (.getfield 9) 9 0, qF (.getfield 65) 6 6, qO (.istore_n 1), qO (.aload_n 0), qF (.getfield 27) 9 4, qC (.ldc 31) 1000000] (pc' := 14) (L' := [zR 26 0, zI (σ 1 0 6), zU, zU, zU, zU, zU, zU]) (S' := [zI 1000000, zR 25 0]) (σ' := σ) (Ps := []) (by decide +kernel) rfl trivial ?_
  refine r_callVI (As := [zI 1000000]) (S := []) (Lc := [zR 25 0, zI 1000000, zU, zU]) (d' := 5) (n := 1) (g := 25) (x := 0) (ci := 1) kX1_totalUpTo vX1_totalUpTo lkX9_48 (by decide +kernel) (by decide) rfl rfl (by decide) rfl rfl (Nat.le_of_ble_eq_true rfl) rfl rfl (Nat.le_of_ble_eq_true rfl) (h.monoI (fun z2 σ1 h => ?_))
  refine r_blk [qO (.istore_n 2), qO (.iconst 1), qO (.istore_n 3), qO (.iconst 0), qO (.istore 4)] (pc' := 23) (L' := [zR 26 0, zI (σ 1 0 6), zI z2, zI 1, zI 0, zU, zU, zU]) (S' := []) (σ' := σ1) (Ps := []) (by decide +kernel) rfl trivial ?_
  exact Runs.fg (fgE (fgE (fgE (fgE (fgE (fgU (fgU (fgU fg0)))))))) h
theorem gX9_turnedPointing_23 (l1 : Int) (l2 : Int) (l3 : Int) (l4 : Int) (σ : Hp) {Q : Option Int → Hp → Prop} (h : ((20 ≤ l4 → Q (some l1) σ) ∧ (¬ 20 ≤ l4 → ((l3 = 0 → Q (some l1) σ) ∧ (¬ l3 = 0 → Runs 6 mX9_turnedPointing 39 [zR 26 0, zI l1, zI l2, zI 0, zI l4, zI 0, zU, zU] [] σ Q))))) : Runs 6 mX9_turnedPointing 23 [zR 26 0, zI l1, zI l2, zI l3, zI l4, zU, zU, zU] [] σ Q := by
  refine r_blk [qO (.iload 4), qO (.bipush 20)] (pc' := 27) (L' := [zR 26 0, zI l1, zI l2, zI l3, zI l4, zU, zU, zU]) (S' := [zI 20, zI l4]) (σ' := σ) (Ps := []) (by decide +kernel) rfl trivial ?_
  refine r_icmp_ge (off := 99) (tgt := 126) (by decide +kernel) (by decide) (fun c => ?_) (fun c => ?_)
  · replace h := h.1 c
    refine r_blk [qO (.iload_n 1)] (pc' := 127) (L' := [zR 26 0, zI l1, zI l2, zI l3, zI l4, zU, zU, zU]) (S' := [zI l1]) (σ' := σ) (Ps := []) (by decide +kernel) rfl trivial ?_
    exact r_ret (by decide +kernel) rfl (fun _ => h)
  · replace h := h.2 c
    refine r_blk [qO (.iload_n 3)] (pc' := 31) (L' := [zR 26 0, zI l1, zI l2, zI l3, zI l4, zU, zU, zU]) (S' := [zI l3]) (σ' := σ) (Ps := []) (by decide +kernel) rfl trivial ?_
    refine r_if_eq (off := 95) (tgt := 126) (by decide +kernel) (by decide) (fun c => ?_) (fun c => ?_)
    · replace h := h.1 c
      refine r_blk [qO (.iload_n 1)] (pc' := 127) (L' := [zR 26 0, zI l1, zI l2, zI l3, zI l4, zU, zU, zU]) (S' := [zI l1]) (σ' := σ) (Ps := []) (by decide +kernel) rfl trivial ?_
      exact r_ret (by decide +kernel) rfl (fun _ => h)
    · replace h := h.2 c
      refine r_blk [qO (.iconst 0), qO (.istore_n 3), qO (.iconst 0), qO (.istore 5)] (pc' := 39) (L' := [zR 26 0, zI l1, zI l2, zI 0, zI l4, zI 0, zU, zU]) (S' := []) (σ' := σ) (Ps := []) (by decide +kernel) rfl trivial ?_
      exact Runs.fg (fgE (fgE (fgE (fgE (fgE (fgE (fgU (fgU fg0)))))))) h
theorem gX9_turnedPointing_39 (l1 : Int) (l2 : Int) (l3 : Int) (l4 : Int) (l5 : Int) (σ : Hp) {Q : Option Int → Hp → Prop} (h : ((σ 1 0 1 ≤ l5 → (-2147483648 ≤ l4 + 1 ∧ l4 + 1 ≤ 2147483647) ∧ Runs 6 mX9_turnedPointing 23 [zR 26 0, zI l1, zI l2, zI l3, zI (l4 + 1), zU, zU, zU] [] σ Q) ∧ (¬ σ 1 0 1 ≤ l5 → (0 ≤ l5 ∧ l5 < 14) ∧ ((σ 5 0 (l5).toNat = 2 ∨ σ 5 0 (l5).toNat = (bitz (zxor l1 (zshl 1 l5)) l5) → ∀ σ1 : Hp, σ1 = zup σ 16 0 4 (tBits σ (zxor l1 (zshl 1 l5))) → Runs 5 mX1_totalUpTo 0 [zR 25 0, zI l2, zU, zU] [] σ1 (rI (fun z3 σ2 => ((l2 ≤ z3 → (-2147483648 ≤ l5 + 1 ∧ l5 + 1 ≤ 2147483647) ∧ Runs 6 mX9_turnedPointing 39 [zR 26 0, zI l1, zI l2, zI l3, zI l4, zI (l5 + 1), zU, zU] [] σ2 Q) ∧ (¬ l2 ≤ z3 → (-2147483648 ≤ l5 + 1 ∧ l5 + 1 ≤ 2147483647) ∧ Runs 6 mX9_turnedPointing 39 [zR 26 0, zI (zxor l1 (zshl 1 l5)), zI z3, zI 1, zI l4, zI (l5 + 1), zU, zU] [] σ2 Q))))) ∧ (¬ (σ 5 0 (l5).toNat = 2 ∨ σ 5 0 (l5).toNat = (bitz (zxor l1 (zshl 1 l5)) l5)) → (-2147483648 ≤ l5 + 1 ∧ l5 + 1 ≤ 2147483647) ∧ Runs 6 mX9_turnedPointing 39 [zR 26 0, zI l1, zI l2, zI l3, zI l4, zI (l5 + 1), zU, zU] [] σ Q))))) : Runs 6 mX9_turnedPointing 39 [zR 26 0, zI l1, zI l2, zI l3, zI l4, zI l5, zU, zU] [] σ Q := by
  refine r_blk [qO (.iload 5), qO (.aload_n 0), qF (.getfield 9) 9 0, qF (.getfield 32) 6 1] (pc' := 48) (L' := [zR 26 0, zI l1, zI l2, zI l3, zI l4, zI l5, zU, zU]) (S' := [zI (σ 1 0 1), zI l5]) (σ' := σ) (Ps := []) (by decide +kernel) rfl trivial ?_
  refine r_icmp_ge (off := 72) (tgt := 120) (by decide +kernel) (by decide) (fun c => ?_) (fun c => ?_)
  · replace h := h.1 c
    refine r_blk [qO (.iinc 4 1), qO (.goto (-100))] (pc' := 23) (L' := [zR 26 0, zI l1, zI l2, zI l3, zI (l4 + 1), zI l5, zU, zU]) (S' := []) (σ' := σ) (Ps := [-2147483648 ≤ l4 + 1 ∧ l4 + 1 ≤ 2147483647]) (by decide +kernel) rfl ⟨h.1, trivial⟩ ?_
    replace h := h.2
    exact Runs.fg (fgE (fgE (fgE (fgE (fgE (fgU (fgU (fgU fg0)))))))) h
  · replace h := h.2 c
    refine r_blk [qO (.iload_n 1), qO (.iconst 1), qO (.iload 5), qO .ishl, qO .ixor, qO (.istore 6), qO (.aload_n 0), qF (.getfield 9) 9 0, qO (.iload 5), qO (.iload 6), qO (.iload 5)] (pc' := 69) (L' := [zR 26 0, zI l1, zI l2, zI l3, zI l4, zI l5, zI (zxor l1 (zshl 1 l5)), zU]) (S' := [zI l5, zI (zxor l1 (zshl 1 l5)), zI l5, zR 1 0]) (σ' := σ) (Ps := []) (by decide +kernel) rfl trivial ?_
    refine r_callNI (As := [zI (zxor l1 (zshl 1 l5)), zI l5]) (S := [zI l5, zR 1 0]) (Lc := [zI (zxor l1 (zshl 1 l5)), zI l5]) (d' := 0) (n := 2) kX10_bitOf vX10_bitOf lkX9_68 (by decide +kernel) (by decide) rfl rfl (Nat.le_of_ble_eq_true rfl) rfl rfl (Nat.le_of_ble_eq_true rfl) (pX10_bitOf  ?_)
    refine r_callVI (As := [zI l5, zI (bitz (zxor l1 (zshl 1 l5)) l5)]) (S := []) (Lc := [zR 1 0, zI l5, zI (bitz (zxor l1 (zshl 1 l5)) l5)]) (d' := 0) (n := 2) (g := 1) (x := 0) (ci := 6) kX6_mustLets vX6_mustLets lkX9_72 (by decide +kernel) (by decide) rfl rfl (by decide) rfl rfl (Nat.le_of_ble_eq_true rfl) rfl rfl (Nat.le_of_ble_eq_true rfl) (pX6_mustLets h.1 (fun c => ?_) (fun c => ?_))
    all_goals replace h := h.2
    · replace h := h.1 c
      refine r_if_ne (off := 6) (tgt := 81) (by decide +kernel) (by decide) (fun c => ?_) (fun c => ?_)
      · refine r_blk [qO (.aload_n 0), qF (.getfield 15) 9 1, qO (.iload 6)] (pc' := 87) (L' := [zR 26 0, zI l1, zI l2, zI l3, zI l4, zI l5, zI (zxor l1 (zshl 1 l5)), zU]) (S' := [zI (zxor l1 (zshl 1 l5)), zR 16 0]) (σ' := σ) (Ps := []) (by decide +kernel) rfl trivial ?_
        refine r_callVV (As := [zI (zxor l1 (zshl 1 l5))]) (S := []) (Lc := [zR 16 0, zI (zxor l1 (zshl 1 l5)), zU]) (d' := 0) (n := 1) (g := 16) (x := 0) (ci := 7) kX7_pointAs vX7_pointAs lkX9_42 (by decide +kernel) (by decide) rfl rfl (by decide) rfl rfl (Nat.le_of_ble_eq_true rfl) rfl rfl (Nat.le_of_ble_eq_true rfl) (pX7_pointAs  ?_)
        generalize hσ1 : zup σ 16 0 4 (tBits σ (zxor l1 (zshl 1 l5))) = σ1
        replace h := h σ1 hσ1.symm
        refine r_blk [qO (.aload_n 0), qF (.getfield 27) 9 4, qO (.iload_n 2)] (pc' := 95) (L' := [zR 26 0, zI l1, zI l2, zI l3, zI l4, zI l5, zI (zxor l1 (zshl 1 l5)), zU]) (S' := [zI l2, zR 25 0]) (σ' := σ1) (Ps := []) (by decide +kernel) rfl trivial ?_
        refine r_callVI (As := [zI l2]) (S := []) (Lc := [zR 25 0, zI l2, zU, zU]) (d' := 5) (n := 1) (g := 25) (x := 0) (ci := 1) kX1_totalUpTo vX1_totalUpTo lkX9_48 (by decide +kernel) (by decide) rfl rfl (by decide) rfl rfl (Nat.le_of_ble_eq_true rfl) rfl rfl (Nat.le_of_ble_eq_true rfl) (h.monoI (fun z3 σ2 h => ?_))
        refine r_blk [qO (.istore 7), qO (.iload 7), qO (.iload_n 2)] (pc' := 103) (L' := [zR 26 0, zI l1, zI l2, zI l3, zI l4, zI l5, zI (zxor l1 (zshl 1 l5)), zI z3]) (S' := [zI l2, zI z3]) (σ' := σ2) (Ps := []) (by decide +kernel) rfl trivial ?_
        refine r_icmp_ge (off := 11) (tgt := 114) (by decide +kernel) (by decide) (fun c => ?_) (fun c => ?_)
        · replace h := h.1 c
          refine r_blk [qO (.iinc 5 1), qO (.goto (-78))] (pc' := 39) (L' := [zR 26 0, zI l1, zI l2, zI l3, zI l4, zI (l5 + 1), zI (zxor l1 (zshl 1 l5)), zI z3]) (S' := []) (σ' := σ2) (Ps := [-2147483648 ≤ l5 + 1 ∧ l5 + 1 ≤ 2147483647]) (by decide +kernel) rfl ⟨h.1, trivial⟩ ?_
          replace h := h.2
          exact Runs.fg (fgE (fgE (fgE (fgE (fgE (fgE (fgU (fgU fg0)))))))) h
        · replace h := h.2 c
          refine r_blk [qO (.iload 7), qO (.istore_n 2), qO (.iload 6), qO (.istore_n 1), qO (.iconst 1), qO (.istore_n 3), qO (.iinc 5 1), qO (.goto (-78))] (pc' := 39) (L' := [zR 26 0, zI (zxor l1 (zshl 1 l5)), zI z3, zI 1, zI l4, zI (l5 + 1), zI (zxor l1 (zshl 1 l5)), zI z3]) (S' := []) (σ' := σ2) (Ps := [-2147483648 ≤ l5 + 1 ∧ l5 + 1 ≤ 2147483647]) (by decide +kernel) rfl ⟨h.1, trivial⟩ ?_
          replace h := h.2
          exact Runs.fg (fgE (fgE (fgE (fgE (fgE (fgE (fgU (fgU fg0)))))))) h
      · exact absurd c (by decide)
    · replace h := h.2 c
      refine r_if_ne (off := 6) (tgt := 81) (by decide +kernel) (by decide) (fun c => ?_) (fun c => ?_)
      · exact absurd c (by decide)
      · refine r_blk [qO (.goto 36), qO (.iinc 5 1), qO (.goto (-78))] (pc' := 39) (L' := [zR 26 0, zI l1, zI l2, zI l3, zI l4, zI (l5 + 1), zI (zxor l1 (zshl 1 l5)), zU]) (S' := []) (σ' := σ) (Ps := [-2147483648 ≤ l5 + 1 ∧ l5 + 1 ≤ 2147483647]) (by decide +kernel) rfl ⟨h.1, trivial⟩ ?_
        replace h := h.2
        exact Runs.fg (fgE (fgE (fgE (fgE (fgE (fgE (fgU (fgU fg0)))))))) h
theorem gX11_lives_0 (σ : Hp) {Q : Option Int → Hp → Prop} (h : Runs 6 mX11_lives 2 [zR 34 0, zI 0, zU, zU, zU] [] σ Q) : Runs 6 mX11_lives 0 [zR 34 0, zU, zU, zU, zU] [] σ Q := by
  refine r_blk [qO (.iconst 0), qO (.istore_n 1)] (pc' := 2) (L' := [zR 34 0, zI 0, zU, zU, zU]) (S' := []) (σ' := σ) (Ps := []) (by decide +kernel) rfl trivial ?_
  exact Runs.fg (fgE (fgE (fgU (fgU (fgU fg0))))) h
theorem gX11_lives_2 (l1 : Int) (σ : Hp) {Q : Option Int → Hp → Prop} (h : ((8 ≤ l1 → Runs 6 mX11_lives 33 [zR 34 0, zI (-9), zI 0, zI 0, zU] [] σ Q) ∧ (¬ 8 ≤ l1 → (0 ≤ l1 ∧ l1 < 8) ∧ (0 ≤ l1 ∧ l1 < 8) ∧ (-2147483648 ≤ l1 + 1 ∧ l1 + 1 ≤ 2147483647) ∧ Runs 6 mX11_lives 2 [zR 34 0, zI (l1 + 1), zU, zU, zU] [] (zup σ 47 0 l1.toNat (se (σ 36 0) l1 0)) Q))) : Runs 6 mX11_lives 2 [zR 34 0, zI l1, zU, zU, zU] [] σ Q := by
  refine r_blk [qO (.iload_n 1), qO (.bipush 8)] (pc' := 5) (L' := [zR 34 0, zI l1, zU, zU, zU]) (S' := [zI 8, zI l1]) (σ' := σ) (Ps := []) (by decide +kernel) rfl trivial ?_
  refine r_icmp_ge (off := 21) (tgt := 26) (by decide +kernel) (by decide) (fun c => ?_) (fun c => ?_)
  · replace h := h.1 c
    refine r_blk [qO (.bipush (-9)), qO (.istore_n 1), qO (.iconst 0), qO (.istore_n 2), qO (.iconst 0), qO (.istore_n 3)] (pc' := 33) (L' := [zR 34 0, zI (-9), zI 0, zI 0, zU]) (S' := []) (σ' := σ) (Ps := []) (by decide +kernel) rfl trivial ?_
    exact Runs.fg (fgE (fgE (fgE (fgE (fgU fg0))))) h
  · replace h := h.2 c
    refine r_blk [qO (.aload_n 0), qF (.getfield 47) 11 20, qO (.iload_n 1), qO (.aload_n 0), qO (.iload_n 1), qO (.iconst 0)] (pc' := 16) (L' := [zR 34 0, zI l1, zU, zU, zU]) (S' := [zI 0, zI l1, zR 34 0, zI l1, zR 47 0]) (σ' := σ) (Ps := []) (by decide +kernel) rfl trivial ?_
    refine r_callVI (As := [zI l1, zI 0]) (S := [zI l1, zR 47 0]) (Lc := [zR 34 0, zI l1, zI 0]) (d' := 0) (n := 2) (g := 34) (x := 0) (ci := 11) kX11_of vX11_of lkX11_113 (by decide +kernel) (by decide) rfl rfl (by decide) rfl rfl (Nat.le_of_ble_eq_true rfl) rfl rfl (Nat.le_of_ble_eq_true rfl) (pX11_of h.1 (by decide) ?_)
    replace h := h.2
    refine r_blk [qO .iastore, qO (.iinc 1 1), qO (.goto (-21))] (pc' := 2) (L' := [zR 34 0, zI (l1 + 1), zU, zU, zU]) (S' := []) (σ' := (zup σ 47 0 l1.toNat (se (σ 36 0) l1 0))) (Ps := [0 ≤ l1 ∧ l1 < 8, -2147483648 ≤ l1 + 1 ∧ l1 + 1 ≤ 2147483647]) (by decide +kernel) rfl ⟨h.1, h.2.1, trivial⟩ ?_
    replace h := h.2.2
    exact Runs.fg (fgE (fgE (fgU (fgU (fgU fg0))))) h
theorem gX11_lives_33 (l1 : Int) (l2 : Int) (l3 : Int) (σ : Hp) {Q : Option Int → Hp → Prop} (h : ((σ 36 0 0 ≤ l3 → Runs 6 mX11_lives 110 [zR 34 0, zI l1, zU, zI 0, zU] [] σ Q) ∧ (¬ σ 36 0 0 ≤ l3 → Runs 6 mX11_lives 46 [zR 34 0, zI l1, zI l2, zI l3, zI 0] [] σ Q))) : Runs 6 mX11_lives 33 [zR 34 0, zI l1, zI l2, zI l3, zU] [] σ Q := by
  refine r_blk [qO (.iload_n 3), qO (.aload_n 0), qF (.getfield 13) 11 1, qO (.iconst 0), qO .iaload] (pc' := 40) (L' := [zR 34 0, zI l1, zI l2, zI l3, zU]) (S' := [zI (σ 36 0 0), zI l3]) (σ' := σ) (Ps := [0 ≤ 0 ∧ 0 < 123]) (by decide +kernel) rfl ⟨(by decide), trivial⟩ ?_
  refine r_icmp_ge (off := 68) (tgt := 108) (by decide +kernel) (by decide) (fun c => ?_) (fun c => ?_)
  · replace h := h.1 c
    refine r_blk [qO (.iconst 0), qO (.istore_n 3)] (pc' := 110) (L' := [zR 34 0, zI l1, zI l2, zI 0, zU]) (S' := []) (σ' := σ) (Ps := []) (by decide +kernel) rfl trivial ?_
    exact Runs.fg (fgE (fgE (fgU (fgE (fgU fg0))))) h
  · replace h := h.2 c
    refine r_blk [qO (.iconst 0), qO (.istore 4)] (pc' := 46) (L' := [zR 34 0, zI l1, zI l2, zI l3, zI 0]) (S' := []) (σ' := σ) (Ps := []) (by decide +kernel) rfl trivial ?_
    exact Runs.fg (fgE (fgE (fgE (fgE (fgE fg0))))) h
theorem gX11_lives_46 (l1 : Int) (l2 : Int) (l3 : Int) (l4 : Int) (σ : Hp) {Q : Option Int → Hp → Prop} (h : ((σ 36 0 2 ≤ l4 → Runs 5 mX11_costOf 0 [zR 34 0, zU, zU, zU] [] σ (rI (fun z2 σ1 => ((l1 < 0 → (-2147483648 ≤ l3 + 1 ∧ l3 + 1 ≤ 2147483647) ∧ Runs 6 mX11_lives 33 [zR 34 0, zI l3, zI z2, zI (l3 + 1), zU] [] σ1 Q) ∧ (¬ l1 < 0 → ((z2 < l2 → (-2147483648 ≤ l3 + 1 ∧ l3 + 1 ≤ 2147483647) ∧ Runs 6 mX11_lives 33 [zR 34 0, zI l3, zI z2, zI (l3 + 1), zU] [] σ1 Q) ∧ (¬ z2 < l2 → (-2147483648 ≤ l3 + 1 ∧ l3 + 1 ≤ 2147483647) ∧ Runs 6 mX11_lives 33 [zR 34 0, zI l1, zI l2, zI (l3 + 1), zU] [] σ1 Q))))))) ∧ (¬ σ 36 0 2 ≤ l4 → (-2147483648 ≤ 4 * l4 ∧ 4 * l4 ≤ 2147483647) ∧ (-2147483648 ≤ 81 + (4 * l4) ∧ 81 + (4 * l4) ≤ 2147483647) ∧ (-2147483648 ≤ (81 + (4 * l4)) + 0 ∧ (81 + (4 * l4)) + 0 ≤ 2147483647) ∧ (0 ≤ (81 + (4 * l4)) + 0 ∧ (81 + (4 * l4)) + 0 < 123) ∧ (-2147483648 ≤ l4 + 1 ∧ l4 + 1 ≤ 2147483647) ∧ Runs 6 mX11_lives 46 [zR 34 0, zI l1, zI l2, zI l3, zI (l4 + 1)] [] (zup σ 36 0 (((81 + (4 * l4)) + 0).toNat) l3) Q))) : Runs 6 mX11_lives 46 [zR 34 0, zI l1, zI l2, zI l3, zI l4] [] σ Q := by
  refine r_blk [qO (.iload 4), qO (.aload_n 0), qF (.getfield 13) 11 1, qO (.iconst 2), qO .iaload] (pc' := 54) (L' := [zR 34 0, zI l1, zI l2, zI l3, zI l4]) (S' := [zI (σ 36 0 2), zI l4]) (σ' := σ) (Ps := [0 ≤ 2 ∧ 2 < 123]) (by decide +kernel) rfl ⟨(by decide), trivial⟩ ?_
  refine r_icmp_ge (off := 24) (tgt := 78) (by decide +kernel) (by decide) (fun c => ?_) (fun c => ?_)
  · replace h := h.1 c
    refine r_blk [qO (.aload_n 0)] (pc' := 79) (L' := [zR 34 0, zI l1, zI l2, zI l3, zI l4]) (S' := [zR 34 0]) (σ' := σ) (Ps := []) (by decide +kernel) rfl trivial ?_
    refine r_callVI (As := []) (S := []) (Lc := [zR 34 0, zU, zU, zU]) (d' := 5) (n := 0) (g := 34) (x := 0) (ci := 11) kX11_costOf vX11_costOf lkX11_187 (by decide +kernel) (by decide) rfl rfl (by decide) rfl rfl (Nat.le_of_ble_eq_true rfl) rfl rfl (Nat.le_of_ble_eq_true rfl) (h.monoI (fun z2 σ1 h => ?_))
    refine r_blk [qO (.istore 4), qO (.iload_n 1)] (pc' := 85) (L' := [zR 34 0, zI l1, zI l2, zI l3, zI z2]) (S' := [zI l1]) (σ' := σ1) (Ps := []) (by decide +kernel) rfl trivial ?_
    refine r_if_lt (off := 12) (tgt := 97) (by decide +kernel) (by decide) (fun c => ?_) (fun c => ?_)
    · replace h := h.1 c
      refine r_blk [qO (.iload_n 3), qO (.istore_n 1), qO (.iload 4), qO (.istore_n 2), qO (.iinc 3 1), qO (.goto (-72))] (pc' := 33) (L' := [zR 34 0, zI l3, zI z2, zI (l3 + 1), zI z2]) (S' := []) (σ' := σ1) (Ps := [-2147483648 ≤ l3 + 1 ∧ l3 + 1 ≤ 2147483647]) (by decide +kernel) rfl ⟨h.1, trivial⟩ ?_
      replace h := h.2
      exact Runs.fg (fgE (fgE (fgE (fgE (fgU fg0))))) h
    · replace h := h.2 c
      refine r_blk [qO (.iload 4), qO (.iload_n 2)] (pc' := 91) (L' := [zR 34 0, zI l1, zI l2, zI l3, zI z2]) (S' := [zI l2, zI z2]) (σ' := σ1) (Ps := []) (by decide +kernel) rfl trivial ?_
      refine r_icmp_lt (off := 6) (tgt := 97) (by decide +kernel) (by decide) (fun c => ?_) (fun c => ?_)
      · replace h := h.1 c
        refine r_blk [qO (.iload_n 3), qO (.istore_n 1), qO (.iload 4), qO (.istore_n 2), qO (.iinc 3 1), qO (.goto (-72))] (pc' := 33) (L' := [zR 34 0, zI l3, zI z2, zI (l3 + 1), zI z2]) (S' := []) (σ' := σ1) (Ps := [-2147483648 ≤ l3 + 1 ∧ l3 + 1 ≤ 2147483647]) (by decide +kernel) rfl ⟨h.1, trivial⟩ ?_
        replace h := h.2
        exact Runs.fg (fgE (fgE (fgE (fgE (fgU fg0))))) h
      · replace h := h.2 c
        refine r_blk [qO (.goto 8), qO (.iinc 3 1), qO (.goto (-72))] (pc' := 33) (L' := [zR 34 0, zI l1, zI l2, zI (l3 + 1), zI z2]) (S' := []) (σ' := σ1) (Ps := [-2147483648 ≤ l3 + 1 ∧ l3 + 1 ≤ 2147483647]) (by decide +kernel) rfl ⟨h.1, trivial⟩ ?_
        replace h := h.2
        exact Runs.fg (fgE (fgE (fgE (fgE (fgU fg0))))) h
  · replace h := h.2 c
    refine r_blk [qO (.aload_n 0), qF (.getfield 13) 11 1, qO (.bipush 81), qO (.iconst 4), qO (.iload 4), qO .imul, qO .iadd, qO (.iconst 0), qO .iadd, qO (.iload_n 3), qO .iastore, qO (.iinc 4 1), qO (.goto (-29))] (pc' := 46) (L' := [zR 34 0, zI l1, zI l2, zI l3, zI (l4 + 1)]) (S' := []) (σ' := (zup σ 36 0 (((81 + (4 * l4)) + 0).toNat) l3)) (Ps := [-2147483648 ≤ 4 * l4 ∧ 4 * l4 ≤ 2147483647, -2147483648 ≤ 81 + (4 * l4) ∧ 81 + (4 * l4) ≤ 2147483647, -2147483648 ≤ (81 + (4 * l4)) + 0 ∧ (81 + (4 * l4)) + 0 ≤ 2147483647, 0 ≤ (81 + (4 * l4)) + 0 ∧ (81 + (4 * l4)) + 0 < 123, -2147483648 ≤ l4 + 1 ∧ l4 + 1 ≤ 2147483647]) (by decide +kernel) rfl ⟨h.1, h.2.1, h.2.2.1, h.2.2.2.1, h.2.2.2.2.1, trivial⟩ ?_
    replace h := h.2.2.2.2.2
    exact Runs.fg (fgE (fgE (fgE (fgE (fgE fg0))))) h
theorem gX11_lives_110 (l1 : Int) (l3 : Int) (σ : Hp) {Q : Option Int → Hp → Prop} (h : ((8 ≤ l3 → Q (some l1) σ) ∧ (¬ 8 ≤ l3 → (-2147483648 ≤ 4 * l3 ∧ 4 * l3 ≤ 2147483647) ∧ (-2147483648 ≤ 81 + (4 * l3) ∧ 81 + (4 * l3) ≤ 2147483647) ∧ (-2147483648 ≤ (81 + (4 * l3)) + 0 ∧ (81 + (4 * l3)) + 0 ≤ 2147483647) ∧ (0 ≤ l3 ∧ l3 < 8) ∧ (0 ≤ (81 + (4 * l3)) + 0 ∧ (81 + (4 * l3)) + 0 < 123) ∧ (-2147483648 ≤ l3 + 1 ∧ l3 + 1 ≤ 2147483647) ∧ Runs 6 mX11_lives 110 [zR 34 0, zI l1, zU, zI (l3 + 1), zU] [] (zup σ 36 0 (((81 + (4 * l3)) + 0).toNat) (σ 47 0 l3.toNat)) Q))) : Runs 6 mX11_lives 110 [zR 34 0, zI l1, zU, zI l3, zU] [] σ Q := by
  refine r_blk [qO (.iload_n 3), qO (.bipush 8)] (pc' := 113) (L' := [zR 34 0, zI l1, zU, zI l3, zU]) (S' := [zI 8, zI l3]) (σ' := σ) (Ps := []) (by decide +kernel) rfl trivial ?_
  refine r_icmp_ge (off := 28) (tgt := 141) (by decide +kernel) (by decide) (fun c => ?_) (fun c => ?_)
  · replace h := h.1 c
    refine r_blk [qO (.iload_n 1)] (pc' := 142) (L' := [zR 34 0, zI l1, zU, zI l3, zU]) (S' := [zI l1]) (σ' := σ) (Ps := []) (by decide +kernel) rfl trivial ?_
    exact r_ret (by decide +kernel) rfl (fun _ => h)
  · replace h := h.2 c
    refine r_blk [qO (.aload_n 0), qF (.getfield 13) 11 1, qO (.bipush 81), qO (.iconst 4), qO (.iload_n 3), qO .imul, qO .iadd, qO (.iconst 0), qO .iadd, qO (.aload_n 0), qF (.getfield 47) 11 20, qO (.iload_n 3), qO .iaload, qO .iastore, qO (.iinc 3 1), qO (.goto (-28))] (pc' := 110) (L' := [zR 34 0, zI l1, zU, zI (l3 + 1), zU]) (S' := []) (σ' := (zup σ 36 0 (((81 + (4 * l3)) + 0).toNat) (σ 47 0 l3.toNat))) (Ps := [-2147483648 ≤ 4 * l3 ∧ 4 * l3 ≤ 2147483647, -2147483648 ≤ 81 + (4 * l3) ∧ 81 + (4 * l3) ≤ 2147483647, -2147483648 ≤ (81 + (4 * l3)) + 0 ∧ (81 + (4 * l3)) + 0 ≤ 2147483647, 0 ≤ l3 ∧ l3 < 8, 0 ≤ (81 + (4 * l3)) + 0 ∧ (81 + (4 * l3)) + 0 < 123, -2147483648 ≤ l3 + 1 ∧ l3 + 1 ≤ 2147483647]) (by decide +kernel) rfl ⟨h.1, h.2.1, h.2.2.1, h.2.2.2.1, h.2.2.2.2.1, h.2.2.2.2.2.1, trivial⟩ ?_
    replace h := h.2.2.2.2.2.2
    exact Runs.fg (fgE (fgE (fgU (fgE (fgU fg0))))) h
theorem gX1_cheapestHome_0 (σ : Hp) {Q : Option Int → Hp → Prop} (h : Runs 5 mX1_cheapestHome 7 [zR 25 0, zI 0, zI 1000000, zI 0, zU, zU] [] σ Q) : Runs 5 mX1_cheapestHome 0 [zR 25 0, zU, zU, zU, zU, zU] [] σ Q := by
  refine r_blk [qO (.iconst 0), qO (.istore_n 1), qC (.ldc 19) 1000000, qO (.istore_n 2), qO (.iconst 0), qO (.istore_n 3)] (pc' := 7) (L' := [zR 25 0, zI 0, zI 1000000, zI 0, zU, zU]) (S' := []) (σ' := σ) (Ps := []) (by decide +kernel) rfl trivial ?_
  exact Runs.fg (fgE (fgE (fgE (fgE (fgU (fgU fg0)))))) h
theorem gX1_cheapestHome_7 (l1 : Int) (l2 : Int) (l3 : Int) (σ : Hp) {Q : Option Int → Hp → Prop} (h : ((σ 1 0 0 ≤ l3 → Q (some l1) σ) ∧ (¬ σ 1 0 0 ≤ l3 → Runs 5 mX1_cheapestHome 24 [zR 25 0, zI l1, zI l2, zI l3, zI 0, zI 0] [] σ Q))) : Runs 5 mX1_cheapestHome 7 [zR 25 0, zI l1, zI l2, zI l3, zU, zU] [] σ Q := by
  refine r_blk [qO (.iload_n 3), qO (.aload_n 0), qF (.getfield 9) 1 0, qF (.getfield 56) 6 0] (pc' := 15) (L' := [zR 25 0, zI l1, zI l2, zI l3, zU, zU]) (S' := [zI (σ 1 0 0), zI l3]) (σ' := σ) (Ps := []) (by decide +kernel) rfl trivial ?_
  refine r_icmp_ge (off := 91) (tgt := 106) (by decide +kernel) (by decide) (fun c => ?_) (fun c => ?_)
  · replace h := h.1 c
    refine r_blk [qO (.iload_n 1)] (pc' := 107) (L' := [zR 25 0, zI l1, zI l2, zI l3, zU, zU]) (S' := [zI l1]) (σ' := σ) (Ps := []) (by decide +kernel) rfl trivial ?_
    exact r_ret (by decide +kernel) rfl (fun _ => h)
  · replace h := h.2 c
    refine r_blk [qO (.iconst 0), qO (.istore 4), qO (.iconst 0), qO (.istore 5)] (pc' := 24) (L' := [zR 25 0, zI l1, zI l2, zI l3, zI 0, zI 0]) (S' := []) (σ' := σ) (Ps := []) (by decide +kernel) rfl trivial ?_
    exact Runs.fg (fgE (fgE (fgE (fgE (fgE (fgE fg0)))))) h
theorem gX1_cheapestHome_24 (l1 : Int) (l2 : Int) (l3 : Int) (l4 : Int) (l5 : Int) (σ : Hp) {Q : Option Int → Hp → Prop} (h : ((σ 1 0 2 ≤ l5 → ((l2 ≤ l4 → (-2147483648 ≤ l3 + 1 ∧ l3 + 1 ≤ 2147483647) ∧ Runs 5 mX1_cheapestHome 7 [zR 25 0, zI l1, zI l2, zI (l3 + 1), zU, zU] [] σ Q) ∧ (¬ l2 ≤ l4 → (-2147483648 ≤ l3 + 1 ∧ l3 + 1 ≤ 2147483647) ∧ Runs 5 mX1_cheapestHome 7 [zR 25 0, zI l3, zI l4, zI (l3 + 1), zU, zU] [] σ Q))) ∧ (¬ σ 1 0 2 ≤ l5 → ((l2 ≤ l4 → ((l2 ≤ l4 → (-2147483648 ≤ l3 + 1 ∧ l3 + 1 ≤ 2147483647) ∧ Runs 5 mX1_cheapestHome 7 [zR 25 0, zI l1, zI l2, zI (l3 + 1), zU, zU] [] σ Q) ∧ (¬ l2 ≤ l4 → (-2147483648 ≤ l3 + 1 ∧ l3 + 1 ≤ 2147483647) ∧ Runs 5 mX1_cheapestHome 7 [zR 25 0, zI l3, zI l4, zI (l3 + 1), zU, zU] [] σ Q))) ∧ (¬ l2 ≤ l4 → (0 ≤ l5 ∧ l5 < 8) ∧ (0 ≤ l5 ∧ l5 < 8) ∧ (0 ≤ l5 ∧ l5 < 8) ∧ Runs 4 mX1_minutesOf 0 [zR 25 0, zI l3, zI (σ 7 0 l5.toNat), zI (σ 8 0 l5.toNat), zU] [] σ (rI (fun z2 σ1 => (-2147483648 ≤ (σ 9 0 l5.toNat) * z2 ∧ (σ 9 0 l5.toNat) * z2 ≤ 2147483647) ∧ (-2147483648 ≤ l4 + ((σ 9 0 l5.toNat) * z2) ∧ l4 + ((σ 9 0 l5.toNat) * z2) ≤ 2147483647) ∧ (-2147483648 ≤ l5 + 1 ∧ l5 + 1 ≤ 2147483647) ∧ Runs 5 mX1_cheapestHome 24 [zR 25 0, zI l1, zI l2, zI l3, zI (l4 + ((σ 9 0 l5.toNat) * z2)), zI (l5 + 1)] [] σ1 Q))))))) : Runs 5 mX1_cheapestHome 24 [zR 25 0, zI l1, zI l2, zI l3, zI l4, zI l5] [] σ Q := by
  refine r_blk [qO (.iload 5), qO (.aload_n 0), qF (.getfield 9) 1 0, qF (.getfield 24) 6 2] (pc' := 33) (L' := [zR 25 0, zI l1, zI l2, zI l3, zI l4, zI l5]) (S' := [zI (σ 1 0 2), zI l5]) (σ' := σ) (Ps := []) (by decide +kernel) rfl trivial ?_
  refine r_icmp_ge (off := 56) (tgt := 89) (by decide +kernel) (by decide) (fun c => ?_) (fun c => ?_)
  · replace h := h.1 c
    refine r_blk [qO (.iload 4), qO (.iload_n 2)] (pc' := 92) (L' := [zR 25 0, zI l1, zI l2, zI l3, zI l4, zI l5]) (S' := [zI l2, zI l4]) (σ' := σ) (Ps := []) (by decide +kernel) rfl trivial ?_
    refine r_icmp_ge (off := 8) (tgt := 100) (by decide +kernel) (by decide) (fun c => ?_) (fun c => ?_)
    · replace h := h.1 c
      refine r_blk [qO (.iinc 3 1), qO (.goto (-96))] (pc' := 7) (L' := [zR 25 0, zI l1, zI l2, zI (l3 + 1), zI l4, zI l5]) (S' := []) (σ' := σ) (Ps := [-2147483648 ≤ l3 + 1 ∧ l3 + 1 ≤ 2147483647]) (by decide +kernel) rfl ⟨h.1, trivial⟩ ?_
      replace h := h.2
      exact Runs.fg (fgE (fgE (fgE (fgE (fgU (fgU fg0)))))) h
    · replace h := h.2 c
      refine r_blk [qO (.iload 4), qO (.istore_n 2), qO (.iload_n 3), qO (.istore_n 1), qO (.iinc 3 1), qO (.goto (-96))] (pc' := 7) (L' := [zR 25 0, zI l3, zI l4, zI (l3 + 1), zI l4, zI l5]) (S' := []) (σ' := σ) (Ps := [-2147483648 ≤ l3 + 1 ∧ l3 + 1 ≤ 2147483647]) (by decide +kernel) rfl ⟨h.1, trivial⟩ ?_
      replace h := h.2
      exact Runs.fg (fgE (fgE (fgE (fgE (fgU (fgU fg0)))))) h
  · replace h := h.2 c
    refine r_blk [qO (.iload 4), qO (.iload_n 2)] (pc' := 39) (L' := [zR 25 0, zI l1, zI l2, zI l3, zI l4, zI l5]) (S' := [zI l2, zI l4]) (σ' := σ) (Ps := []) (by decide +kernel) rfl trivial ?_
    refine r_icmp_ge (off := 50) (tgt := 89) (by decide +kernel) (by decide) (fun c => ?_) (fun c => ?_)
    · replace h := h.1 c
      refine r_blk [qO (.iload 4), qO (.iload_n 2)] (pc' := 92) (L' := [zR 25 0, zI l1, zI l2, zI l3, zI l4, zI l5]) (S' := [zI l2, zI l4]) (σ' := σ) (Ps := []) (by decide +kernel) rfl trivial ?_
      refine r_icmp_ge (off := 8) (tgt := 100) (by decide +kernel) (by decide) (fun c => ?_) (fun c => ?_)
      · replace h := h.1 c
        refine r_blk [qO (.iinc 3 1), qO (.goto (-96))] (pc' := 7) (L' := [zR 25 0, zI l1, zI l2, zI (l3 + 1), zI l4, zI l5]) (S' := []) (σ' := σ) (Ps := [-2147483648 ≤ l3 + 1 ∧ l3 + 1 ≤ 2147483647]) (by decide +kernel) rfl ⟨h.1, trivial⟩ ?_
        replace h := h.2
        exact Runs.fg (fgE (fgE (fgE (fgE (fgU (fgU fg0)))))) h
      · replace h := h.2 c
        refine r_blk [qO (.iload 4), qO (.istore_n 2), qO (.iload_n 3), qO (.istore_n 1), qO (.iinc 3 1), qO (.goto (-96))] (pc' := 7) (L' := [zR 25 0, zI l3, zI l4, zI (l3 + 1), zI l4, zI l5]) (S' := []) (σ' := σ) (Ps := [-2147483648 ≤ l3 + 1 ∧ l3 + 1 ≤ 2147483647]) (by decide +kernel) rfl ⟨h.1, trivial⟩ ?_
        replace h := h.2
        exact Runs.fg (fgE (fgE (fgE (fgE (fgU (fgU fg0)))))) h
    · replace h := h.2 c
      refine r_blk [qO (.iload 4), qO (.aload_n 0), qF (.getfield 9) 1 0, qF (.getfield 30) 6 14, qO (.iload 5), qO .iaload, qO (.aload_n 0), qO (.iload_n 3), qO (.aload_n 0), qF (.getfield 9) 1 0, qF (.getfield 37) 6 12, qO (.iload 5), qO .iaload, qO (.aload_n 0), qF (.getfield 9) 1 0, qF (.getfield 40) 6 13, qO (.iload 5), qO .iaload] (pc' := 76) (L' := [zR 25 0, zI l1, zI l2, zI l3, zI l4, zI l5]) (S' := [zI (σ 8 0 l5.toNat), zI (σ 7 0 l5.toNat), zI l3, zR 25 0, zI (σ 9 0 l5.toNat), zI l4]) (σ' := σ) (Ps := [0 ≤ l5 ∧ l5 < 8, 0 ≤ l5 ∧ l5 < 8, 0 ≤ l5 ∧ l5 < 8]) (by decide +kernel) rfl ⟨h.1, h.2.1, h.2.2.1, trivial⟩ ?_
      replace h := h.2.2.2
      refine r_callVI (As := [zI l3, zI (σ 7 0 l5.toNat), zI (σ 8 0 l5.toNat)]) (S := [zI (σ 9 0 l5.toNat), zI l4]) (Lc := [zR 25 0, zI l3, zI (σ 7 0 l5.toNat), zI (σ 8 0 l5.toNat), zU]) (d' := 4) (n := 3) (g := 25) (x := 0) (ci := 1) kX1_minutesOf vX1_minutesOf lkX1_43 (by decide +kernel) (by decide) rfl rfl (by decide) rfl rfl (Nat.le_of_ble_eq_true rfl) rfl rfl (Nat.le_of_ble_eq_true rfl) (h.monoI (fun z2 σ1 h => ?_))
      refine r_blk [qO .imul, qO .iadd, qO (.istore 4), qO (.iinc 5 1), qO (.goto (-62))] (pc' := 24) (L' := [zR 25 0, zI l1, zI l2, zI l3, zI (l4 + ((σ 9 0 l5.toNat) * z2)), zI (l5 + 1)]) (S' := []) (σ' := σ1) (Ps := [-2147483648 ≤ (σ 9 0 l5.toNat) * z2 ∧ (σ 9 0 l5.toNat) * z2 ≤ 2147483647, -2147483648 ≤ l4 + ((σ 9 0 l5.toNat) * z2) ∧ l4 + ((σ 9 0 l5.toNat) * z2) ≤ 2147483647, -2147483648 ≤ l5 + 1 ∧ l5 + 1 ≤ 2147483647]) (by decide +kernel) rfl ⟨h.1, h.2.1, h.2.2.1, trivial⟩ ?_
      replace h := h.2.2.2
      exact Runs.fg (fgE (fgE (fgE (fgE (fgE (fgE fg0)))))) h
theorem gX1_totalOfDays_0 (a0 : Int) (a1 : Int) (σ : Hp) {Q : Option Int → Hp → Prop} (h : Runs 5 mX1_totalOfDays 10 [zR 25 0, zI a0, zU, zI 0, zI 0, zU] [] (zup σ 25 0 2 a1) Q) : Runs 5 mX1_totalOfDays 0 [zR 25 0, zI a0, zI a1, zU, zU, zU] [] σ Q := by
  refine r_blk [qO (.aload_n 0), qO (.iload_n 2), qF (.putfield 59) 1 2, qO (.iconst 0), qO (.istore_n 3), qO (.iconst 0), qO (.istore 4)] (pc' := 10) (L' := [zR 25 0, zI a0, zI a1, zI 0, zI 0, zU]) (S' := []) (σ' := (zup σ 25 0 2 a1)) (Ps := []) (by decide +kernel) rfl trivial ?_
  exact Runs.fg (fgE (fgE (fgU (fgE (fgE (fgU fg0)))))) h
theorem gX1_totalOfDays_10 (l1 : Int) (l3 : Int) (l4 : Int) (σ : Hp) {Q : Option Int → Hp → Prop} (h : ((l1 ≤ l4 → Q (some l3) σ) ∧ (¬ l1 ≤ l4 → Runs 5 mX1_totalOfDays 19 [zR 25 0, zI l1, zU, zI l3, zI l4, zI 0] [] σ Q))) : Runs 5 mX1_totalOfDays 10 [zR 25 0, zI l1, zU, zI l3, zI l4, zU] [] σ Q := by
  refine r_blk [qO (.iload 4), qO (.iload_n 1)] (pc' := 13) (L' := [zR 25 0, zI l1, zU, zI l3, zI l4, zU]) (S' := [zI l1, zI l4]) (σ' := σ) (Ps := []) (by decide +kernel) rfl trivial ?_
  refine r_icmp_ge (off := 75) (tgt := 88) (by decide +kernel) (by decide) (fun c => ?_) (fun c => ?_)
  · replace h := h.1 c
    refine r_blk [qO (.iload_n 3)] (pc' := 89) (L' := [zR 25 0, zI l1, zU, zI l3, zI l4, zU]) (S' := [zI l3]) (σ' := σ) (Ps := []) (by decide +kernel) rfl trivial ?_
    exact r_ret (by decide +kernel) rfl (fun _ => h)
  · replace h := h.2 c
    refine r_blk [qO (.iconst 0), qO (.istore 5)] (pc' := 19) (L' := [zR 25 0, zI l1, zU, zI l3, zI l4, zI 0]) (S' := []) (σ' := σ) (Ps := []) (by decide +kernel) rfl trivial ?_
    exact Runs.fg (fgE (fgE (fgU (fgE (fgE (fgE fg0)))))) h
theorem gX1_totalOfDays_19 (l1 : Int) (l3 : Int) (l4 : Int) (l5 : Int) (σ : Hp) {Q : Option Int → Hp → Prop} (h : ((σ 1 0 2 ≤ l5 → (-2147483648 ≤ l4 + 1 ∧ l4 + 1 ≤ 2147483647) ∧ Runs 5 mX1_totalOfDays 10 [zR 25 0, zI l1, zU, zI l3, zI (l4 + 1), zU] [] σ Q) ∧ (¬ σ 1 0 2 ≤ l5 → (0 ≤ l5 ∧ l5 < 8) ∧ (0 ≤ l5 ∧ l5 < 8) ∧ (0 ≤ l5 ∧ l5 < 8) ∧ ∀ σ1 : Hp, σ1 = zup σ 25 0 2 (zlcg (σ 25 0 2)) → Runs 4 mX1_minutesOf 0 [zR 25 0, zI (σ 6 0 l5.toNat), zI (σ 7 0 l5.toNat), zI (zdraw (σ 25 0 2)), zU] [] σ1 (rI (fun z3 σ2 => (-2147483648 ≤ (σ 9 0 l5.toNat) * z3 ∧ (σ 9 0 l5.toNat) * z3 ≤ 2147483647) ∧ (-2147483648 ≤ l3 + ((σ 9 0 l5.toNat) * z3) ∧ l3 + ((σ 9 0 l5.toNat) * z3) ≤ 2147483647) ∧ (-2147483648 ≤ l5 + 1 ∧ l5 + 1 ≤ 2147483647) ∧ Runs 5 mX1_totalOfDays 19 [zR 25 0, zI l1, zU, zI (l3 + ((σ 9 0 l5.toNat) * z3)), zI l4, zI (l5 + 1)] [] σ2 Q))))) : Runs 5 mX1_totalOfDays 19 [zR 25 0, zI l1, zU, zI l3, zI l4, zI l5] [] σ Q := by
  refine r_blk [qO (.iload 5), qO (.aload_n 0), qF (.getfield 9) 1 0, qF (.getfield 24) 6 2] (pc' := 28) (L' := [zR 25 0, zI l1, zU, zI l3, zI l4, zI l5]) (S' := [zI (σ 1 0 2), zI l5]) (σ' := σ) (Ps := []) (by decide +kernel) rfl trivial ?_
  refine r_icmp_ge (off := 54) (tgt := 82) (by decide +kernel) (by decide) (fun c => ?_) (fun c => ?_)
  · replace h := h.1 c
    refine r_blk [qO (.iinc 4 1), qO (.goto (-75))] (pc' := 10) (L' := [zR 25 0, zI l1, zU, zI l3, zI (l4 + 1), zI l5]) (S' := []) (σ' := σ) (Ps := [-2147483648 ≤ l4 + 1 ∧ l4 + 1 ≤ 2147483647]) (by decide +kernel) rfl ⟨h.1, trivial⟩ ?_
    replace h := h.2
    exact Runs.fg (fgE (fgE (fgU (fgE (fgE (fgU fg0)))))) h
  · replace h := h.2 c
    refine r_blk [qO (.iload_n 3), qO (.aload_n 0), qF (.getfield 9) 1 0, qF (.getfield 30) 6 14, qO (.iload 5), qO .iaload, qO (.aload_n 0), qO (.aload_n 0), qF (.getfield 9) 1 0, qF (.getfield 34) 6 11, qO (.iload 5), qO .iaload, qO (.aload_n 0), qF (.getfield 9) 1 0, qF (.getfield 37) 6 12, qO (.iload 5), qO .iaload, qO (.aload_n 0), qO (.sipush 1440)] (pc' := 67) (L' := [zR 25 0, zI l1, zU, zI l3, zI l4, zI l5]) (S' := [zI 1440, zR 25 0, zI (σ 7 0 l5.toNat), zI (σ 6 0 l5.toNat), zR 25 0, zI (σ 9 0 l5.toNat), zI l3]) (σ' := σ) (Ps := [0 ≤ l5 ∧ l5 < 8, 0 ≤ l5 ∧ l5 < 8, 0 ≤ l5 ∧ l5 < 8]) (by decide +kernel) rfl ⟨h.1, h.2.1, h.2.2.1, trivial⟩ ?_
    replace h := h.2.2.2
    refine r_callVI (As := [zI 1440]) (S := [zI (σ 7 0 l5.toNat), zI (σ 6 0 l5.toNat), zR 25 0, zI (σ 9 0 l5.toNat), zI l3]) (Lc := [zR 25 0, zI 1440]) (d' := 0) (n := 1) (g := 25) (x := 0) (ci := 1) kX1_drawBelow vX1_drawBelow lkX1_62 (by decide +kernel) (by decide) rfl rfl (by decide) rfl rfl (Nat.le_of_ble_eq_true rfl) rfl rfl (Nat.le_of_ble_eq_true rfl) (pX1_drawBelow  ?_)
    generalize hσ1 : zup σ 25 0 2 (zlcg (σ 25 0 2)) = σ1
    replace h := h σ1 hσ1.symm
    refine r_callVI (As := [zI (σ 6 0 l5.toNat), zI (σ 7 0 l5.toNat), zI (zdraw (σ 25 0 2))]) (S := [zI (σ 9 0 l5.toNat), zI l3]) (Lc := [zR 25 0, zI (σ 6 0 l5.toNat), zI (σ 7 0 l5.toNat), zI (zdraw (σ 25 0 2)), zU]) (d' := 4) (n := 3) (g := 25) (x := 0) (ci := 1) kX1_minutesOf vX1_minutesOf lkX1_43 (by decide +kernel) (by decide) rfl rfl (by decide) rfl rfl (Nat.le_of_ble_eq_true rfl) rfl rfl (Nat.le_of_ble_eq_true rfl) (h.monoI (fun z3 σ2 h => ?_))
    refine r_blk [qO .imul, qO .iadd, qO (.istore_n 3), qO (.iinc 5 1), qO (.goto (-60))] (pc' := 19) (L' := [zR 25 0, zI l1, zU, zI (l3 + ((σ 9 0 l5.toNat) * z3)), zI l4, zI (l5 + 1)]) (S' := []) (σ' := σ2) (Ps := [-2147483648 ≤ (σ 9 0 l5.toNat) * z3 ∧ (σ 9 0 l5.toNat) * z3 ≤ 2147483647, -2147483648 ≤ l3 + ((σ 9 0 l5.toNat) * z3) ∧ l3 + ((σ 9 0 l5.toNat) * z3) ≤ 2147483647, -2147483648 ≤ l5 + 1 ∧ l5 + 1 ≤ 2147483647]) (by decide +kernel) rfl ⟨h.1, h.2.1, h.2.2.1, trivial⟩ ?_
    replace h := h.2.2.2
    exact Runs.fg (fgE (fgE (fgU (fgE (fgE (fgE fg0)))))) h
end
section
/-! turning streets one by one -/
def xb (p t : Int) : Int := zxor p (zshl 1 t)
theorem xb_nat {p : Int} (hp : 0 ≤ p ∧ p < 16384) {t : Int} (ht : 0 ≤ t ∧ t < 14) : xb p t = ((p.toNat ^^^ 2 ^ t.toNat : Nat) : Int) ∧ p.toNat ^^^ 2 ^ t.toNat < 16384 := by
  obtain ⟨q, hq, hlt, hs⟩ := pow14 (b := t.toNat) (by omega)
  rw [show ((t.toNat : Nat) : Int) = t by omega] at hs
  unfold xb
  have hx : p.toNat ^^^ q < 2 ^ 14 := Nat.xor_lt_two_pow (by omega) (by omega)
  rw [hs, hq, zxor_nat (by omega) (by omega)]
  exact ⟨rfl, hx⟩
theorem xb_lt {p : Int} (hp : 0 ≤ p ∧ p < 16384) {t : Int} (ht : 0 ≤ t ∧ t < 14) : 0 ≤ xb p t ∧ xb p t < 16384 := by
  obtain ⟨h1, h2⟩ := xb_nat hp ht
  omega
theorem xb_xb {p : Int} (hp : 0 ≤ p ∧ p < 16384) {t : Int} (ht : 0 ≤ t ∧ t < 14) : xb (xb p t) t = p := by
  have h1 := (xb_nat hp ht).1
  have h2 := (xb_nat (xb_lt hp ht) ht).1
  rw [h2, h1, show ((p.toNat ^^^ 2 ^ t.toNat : Nat) : Int).toNat = p.toNat ^^^ 2 ^ t.toNat from rfl, Nat.xor_assoc, Nat.xor_self, Nat.xor_zero]
  omega
theorem xb_bit {p : Int} (hp : 0 ≤ p ∧ p < 16384) {t : Int} (ht : 0 ≤ t ∧ t < 14) : bitz (xb p t) t = 1 - bitz p t := by
  obtain ⟨h1, h2⟩ := xb_nat hp ht
  have h3 := xb_lt hp ht
  rw [bitz_tb (by omega) (by omega), bitz_tb (by omega) (by omega), h1, show ((p.toNat ^^^ 2 ^ t.toNat : Nat) : Int).toNat = p.toNat ^^^ 2 ^ t.toNat from rfl, Nat.testBit_xor, Nat.testBit_two_pow]
  cases p.toNat.testBit t.toNat <;> simp
noncomputable def turnGo (s : Nat → Int) : Nat → Int → Int → Int → Int → Int × Int × Int
  | 0, _, p, l, fl => (p, l, fl)
  | n + 1, t, p, l, fl => if sg s t 4 = 2 ∨ sg s t 4 = 1 - bitz p t then (if costM (su s 3 (xb p t)) < l then turnGo s n (t + 1) (xb p t) (costM (su s 3 (xb p t))) 1 else turnGo s n (t + 1) p l fl) else turnGo s n (t + 1) p l fl
noncomputable def turnR (s : Nat → Int) : Nat → Int → Int → Int → Int
  | 0, p, _, _ => p
  | k + 1, p, l, fl => if fl = 0 then p else turnR s k (turnGo s (s 1).toNat 0 p l 0).1 (turnGo s (s 1).toNat 0 p l 0).2.1 (turnGo s (s 1).toNat 0 p l 0).2.2
noncomputable def turnM (s : Nat → Int) : Int := turnR s 20 (s 3) (costM s) 1
theorem qX11_turning {σ : Hp} {K : Int → Hp → Prop} {s : Nat → Int} (hs : σ 36 0 = s) (hw : WF s) (h : ∀ σ', Off [36, 41, 42] σ σ' → (∀ j, σ' 36 0 j = s j) → K (turnM s) σ') : Runs 6 mX11_turning 0 [zR 34 0, zU, zU, zU, zU, zU, zU, zU] [] σ (rI K) := by
  have w1 := hw.2.1
  have inner : ∀ (n : Nat) (t p l fl r : Int) (σ1 : Hp), t + n = s 1 → 0 ≤ t → (0 ≤ p ∧ p < 16384) → Off [36, 41, 42] σ σ1 → σ1 36 0 = su s 3 p → (-1000 ≤ r ∧ r ≤ 1000) →
      (∀ p' l' fl' σ', (0 ≤ p' ∧ p' < 16384) → Off [36, 41, 42] σ σ' → σ' 36 0 = su s 3 p' → (p', l', fl') = turnGo s n t p l fl → Runs 6 mX11_turning 17 [zR 34 0, zI (s 3), zI l', zI fl', zI (r + 1), zU, zU, zU] [] σ' (rI K)) →
      Runs 6 mX11_turning 33 [zR 34 0, zI (s 3), zI l, zI fl, zI r, zI t, zU, zU] [] σ1 (rI K) := by
    intro n
    induction n with
    | zero =>
      intro t p l fl r σ1 htn h0 hp ho hp1 hr cont
      have e1 : σ1 36 0 1 = s 1 := by rw [hp1, su_ne (by omega)]
      exact gX11_turning_33 (s 3) l fl r t σ1 ⟨fun _ => ⟨by omega, cont p l fl σ1 hp ho hp1 rfl⟩, fun q => absurd (show σ1 36 0 1 ≤ t by omega) q⟩
    | succ n ih =>
      intro t p l fl r σ1 htn h0 hp ho hp1 hr cont
      have e1 : σ1 36 0 1 = s 1 := by rw [hp1, su_ne (by omega)]
      have e3 : σ1 36 0 3 = p := by rw [hp1, su_eq]
      have e4 : sg (σ1 36 0) t 4 = sg s t 4 := by rw [hp1]; exact sg_su (by omega) h0 (by omega)
      have st := hw.2.2.2.2.2.2.2.2.2.2.2.1 t h0 (by omega)
      unfold stOK at st
      have b01 := bitz_01 p t
      have ht14 : 0 ≤ t ∧ t < 14 := by omega
      have try_ : (sg s t 4 = 2 ∨ sg s t 4 = 1 - bitz p t) → Runs 6 mX11_turning 85 [zR 34 0, zI (s 3), zI l, zI fl, zI r, zI t, zU, zU] [] σ1 (rI K) := fun hok => by
        have hx := xb_lt hp ht14
        have hs2 : (zup σ1 36 0 3 (xb p t)) 36 0 = su s 3 (xb p t) := by rw [zup_su, hp1, su_su]
        have hw2 := WF_su hw (k := 3) (v := xb p t) (Or.inl ⟨Or.inl rfl, hx⟩)
        refine gX11_turning_85 (s 3) l fl r t σ1 ?_
        rw [e3]
        refine qX11_costOf (σ := zup σ1 36 0 3 (xb p t)) (by rw [hs2]; exact hw2) (fun σ3 o3 => ?_)
        have hs3 : σ3 36 0 = su s 3 (xb p t) := by rw [o3 36 (by decide)]; exact hs2
        have ho3 : Off [36, 41, 42] σ σ3 := (ho.up (by decide)).tr (o3.mono (by decide))
        rw [hs2]
        refine ⟨fun c => ⟨by omega, ?_⟩, fun c => ⟨by omega, ?_⟩⟩
        · have e33 : σ3 36 0 3 = xb p t := by rw [hs3, su_eq]
          rw [e33]
          have hb : zxor (xb p t) (zshl 1 t) = p := xb_xb hp ht14
          rw [hb]
          refine ih (t + 1) p l fl r _ (by omega) (by omega) hp (ho3.up (by decide)) (by rw [zup_su, hs3, su_su]) hr (fun p' l' fl' σ' a1 a2 a3 a4 => cont p' l' fl' σ' a1 a2 a3 ?_)
          unfold turnGo
          rw [if_pos hok, if_neg (by omega)]
          exact a4
        · refine ih (t + 1) (xb p t) _ 1 r σ3 (by omega) (by omega) hx ho3 hs3 hr (fun p' l' fl' σ' a1 a2 a3 a4 => cont p' l' fl' σ' a1 a2 a3 ?_)
          unfold turnGo
          rw [if_pos hok, if_pos (by omega)]
          exact a4
      refine gX11_turning_33 (s 3) l fl r t σ1 ⟨fun q => absurd q (by omega), fun _ => ?_⟩
      rw [e3, e4]
      refine ⟨by omega, by omega, fun c => try_ (Or.inl (by omega)), fun c => ⟨by omega, fun c2 => try_ (Or.inr c2), fun c2 => ⟨by omega, ?_⟩⟩⟩
      refine ih (t + 1) p l fl r σ1 (by omega) (by omega) hp ho hp1 hr (fun p' l' fl' σ' a1 a2 a3 a4 => cont p' l' fl' σ' a1 a2 a3 ?_)
      unfold turnGo
      rw [if_neg (fun z => z.elim (fun y => by omega) c2)]
      exact a4
  have outer : ∀ (k r : Nat) (p l fl : Int) (σ1 : Hp), r + k = 20 → (0 ≤ p ∧ p < 16384) → Off [36, 41, 42] σ σ1 → σ1 36 0 = su s 3 p → turnR s k p l fl = turnM s → Runs 6 mX11_turning 17 [zR 34 0, zI (s 3), zI l, zI fl, zI (r : Int), zU, zU, zU] [] σ1 (rI K) := by
    intro k
    have fin : ∀ (p : Int) (σ1 : Hp), Off [36, 41, 42] σ σ1 → σ1 36 0 = su s 3 p → p = turnM s → K (σ1 36 0 3) (zup σ1 36 0 3 (s 3)) := fun p σ1 ho hp1 hpm => by
      rw [hp1, su_eq, hpm]
      exact h _ (ho.up (by decide)) (fun j => by rw [zup_su, hp1, su_su, su_id])
    induction k with
    | zero =>
      intro r p l fl σ1 hr hp ho hp1 hm
      exact gX11_turning_17 (s 3) l fl (r : Int) σ1 ⟨fun _ => fin p σ1 ho hp1 hm, fun q => absurd (show (20 : Int) ≤ r by omega) q⟩
    | succ k ih =>
      intro r p l fl σ1 hr hp ho hp1 hm
      refine gX11_turning_17 (s 3) l fl (r : Int) σ1 ⟨fun q => absurd q (by omega), fun _ => ⟨fun c => fin p σ1 ho hp1 (by unfold turnR at hm; rw [if_pos c] at hm; exact hm), fun c => ?_⟩⟩
      refine inner (s 1).toNat 0 p l 0 (r : Int) σ1 (by omega) (by omega) hp ho hp1 (by omega) (fun p' l' fl' σ' a1 a2 a3 a4 => ?_)
      refine ih (r + 1) p' l' fl' σ' (by omega) a1 a2 a3 ?_
      unfold turnR at hm
      rw [if_neg c, ← a4] at hm
      exact hm
  refine gX11_turning_0 σ (qX11_costOf (by rw [hs]; exact hw) (fun σ1 o1 => ?_))
  rw [hs]
  exact outer 20 0 (s 3) (costM s) 1 σ1 rfl hw.2.2.2.1 (o1.mono (by decide)) (by rw [o1 36 (by decide), hs, su_id]) rfl
theorem qX9_turnedPointing {σ : Hp} {K : Int → Hp → Prop} {s : Nat → Int} (hw : WF s) (ht : TRc σ s) (hm : TMs σ s) (he : TMe σ s) (h10 : σ 11 0 3 = s 10) (e6 : σ 1 0 6 = s 3) (e5 : ∀ t : Int, 0 ≤ t → t < s 1 → σ 5 0 t.toNat = sg s t 4)
    (h : ∀ σ', Off [16, 17, 18] σ σ' → K (turnM s) σ') : Runs 6 mX9_turnedPointing 0 [zR 26 0, zU, zU, zU, zU, zU, zU, zU] [] σ (rI K) := by
  have w1 := hw.2.1
  have inner : ∀ (n : Nat) (t p l fl r : Int) (σ1 : Hp) (q : Int), t + n = s 1 → 0 ≤ t → (0 ≤ p ∧ p < 16384) → Off [16, 17, 18] σ σ1 → (0 ≤ q ∧ q < 16384) → TRc σ1 (su s 3 q) → (-1000 ≤ r ∧ r ≤ 1000) →
      (∀ p' l' fl' σ' q', (0 ≤ p' ∧ p' < 16384) → Off [16, 17, 18] σ σ' → (0 ≤ q' ∧ q' < 16384) → TRc σ' (su s 3 q') → (p', l', fl') = turnGo s n t p l fl → Runs 6 mX9_turnedPointing 23 [zR 26 0, zI p', zI l', zI fl', zI (r + 1), zU, zU, zU] [] σ' (rI K)) →
      Runs 6 mX9_turnedPointing 39 [zR 26 0, zI p, zI l, zI fl, zI r, zI t, zU, zU] [] σ1 (rI K) := by
    intro n
    induction n with
    | zero =>
      intro t p l fl r σ1 q htn h0 hp ho hq htq hr cont
      have e1 : σ1 1 0 1 = s 1 := by rw [ho 1 (by decide)]; exact hm.2.1
      exact gX9_turnedPointing_39 p l fl r t σ1 ⟨fun _ => ⟨by omega, cont p l fl σ1 q hp ho hq htq rfl⟩, fun z => absurd (show σ1 1 0 1 ≤ t by omega) z⟩
    | succ n ih =>
      intro t p l fl r σ1 q htn h0 hp ho hq htq hr cont
      have e1 : σ1 1 0 1 = s 1 := by rw [ho 1 (by decide)]; exact hm.2.1
      have e5' : σ1 5 0 t.toNat = sg s t 4 := by rw [ho 5 (by decide)]; exact e5 t h0 (by omega)
      have ht14 : 0 ≤ t ∧ t < 14 := by omega
      have hx := xb_lt hp ht14
      have hxb := xb_bit hp ht14
      refine gX9_turnedPointing_39 p l fl r t σ1 ⟨fun z => absurd z (by omega), fun _ => ⟨by omega, fun c σ3 e3 => ?_, fun c => ⟨by omega, ?_⟩⟩⟩
      · have hok : sg s t 4 = 2 ∨ sg s t 4 = 1 - bitz p t := by
          rw [e5'] at c
          rcases c with c | c
          · exact Or.inl c
          · exact Or.inr (c.trans hxb)
        replace e3 : σ3 = zup σ1 16 0 4 (tBits σ1 (xb p t)) := e3
        subst e3
        have hwp := WF_su hw (k := 3) (v := q) (Or.inl ⟨Or.inl rfl, hq⟩)
        have ht3 : TRc (zup σ1 16 0 4 (tBits σ1 (xb p t))) (su s 3 (xb p t)) := by
          have := TRc_point hwp htq (by rw [ho 11 (by decide), su_ne (by omega)]; exact h10) hx
          rw [su_su] at this
          exact this
        have hwb := WF_su hw (k := 3) (v := xb p t) (Or.inl ⟨Or.inl rfl, hx⟩)
        have o3 : Off [16, 17, 18] σ (zup σ1 16 0 4 (tBits σ1 (xb p t))) := ho.up (by decide)
        obtain ⟨m3, n3⟩ := kept_TM o3 hm he
        refine qX1_totalUpTo hwb ht3 (TMs_su (by omega) m3) (TMe_su (by omega) n3) (fun σ4 z k4 z0 zl z1 z2 => ⟨fun c2 => ⟨by omega, ?_⟩, fun c2 => ⟨by omega, ?_⟩⟩)
        · have hF : ¬ costM (su s 3 (xb p t)) < l := fun y => by have := z1 y; omega
          refine ih (t + 1) p l fl r σ4 (xb p t) (by omega) (by omega) hp (o3.tr k4.1) hx (k4.T ht3 (TMs_su (by omega) m3)).1 hr (fun p' l' fl' σ' q' a1 a2 a3 a4 a5 => cont p' l' fl' σ' q' a1 a2 a3 a4 ?_)
          unfold turnGo
          rw [if_pos hok, if_neg hF]
          exact a5
        · have hF : costM (su s 3 (xb p t)) < l := by
            by_cases y : l ≤ costM (su s 3 (xb p t))
            · have := z2 y; omega
            · omega
          have hz := z1 hF
          refine ih (t + 1) (xb p t) z 1 r σ4 (xb p t) (by omega) (by omega) hx (o3.tr k4.1) hx (k4.T ht3 (TMs_su (by omega) m3)).1 hr (fun p' l' fl' σ' q' a1 a2 a3 a4 a5 => cont p' l' fl' σ' q' a1 a2 a3 a4 ?_)
          unfold turnGo
          rw [if_pos hok, if_pos hF, ← hz]
          exact a5
      · have hno : ¬ (sg s t 4 = 2 ∨ sg s t 4 = 1 - bitz p t) := by
          rw [e5'] at c
          exact fun z => c (z.imp id (fun y => y.trans hxb.symm))
        refine ih (t + 1) p l fl r σ1 q (by omega) (by omega) hp ho hq htq hr (fun p' l' fl' σ' q' a1 a2 a3 a4 a5 => cont p' l' fl' σ' q' a1 a2 a3 a4 ?_)
        unfold turnGo
        rw [if_neg hno]
        exact a5
  have outer : ∀ (k r : Nat) (p l fl : Int) (σ1 : Hp) (q : Int), r + k = 20 → (0 ≤ p ∧ p < 16384) → Off [16, 17, 18] σ σ1 → (0 ≤ q ∧ q < 16384) → TRc σ1 (su s 3 q) → turnR s k p l fl = turnM s → Runs 6 mX9_turnedPointing 23 [zR 26 0, zI p, zI l, zI fl, zI (r : Int), zU, zU, zU] [] σ1 (rI K) := by
    intro k
    induction k with
    | zero =>
      intro r p l fl σ1 q hr hp ho hq htq hmm
      refine gX9_turnedPointing_23 p l fl (r : Int) σ1 ⟨fun _ => ?_, fun z => absurd (show (20 : Int) ≤ r by omega) z⟩
      have := h σ1 ho
      rw [← hmm] at this
      exact this
    | succ k ih =>
      intro r p l fl σ1 q hr hp ho hq htq hmm
      refine gX9_turnedPointing_23 p l fl (r : Int) σ1 ⟨fun z => absurd z (by omega), fun _ => ⟨fun c => ?_, fun c => ?_⟩⟩
      · unfold turnR at hmm
        rw [if_pos c] at hmm
        have := h σ1 ho
        rw [← hmm] at this
        exact this
      · refine inner (s 1).toNat 0 p l 0 (r : Int) σ1 q (by omega) (by omega) hp ho hq htq (by omega) (fun p' l' fl' σ' q' a1 a2 a3 a4 a5 => ?_)
        refine ih (r + 1) p' l' fl' σ' q' (by omega) a1 a2 a3 a4 ?_
        unfold turnR at hmm
        rw [if_neg c, ← a5] at hmm
        exact hmm
  have cb := costM_b hw
  refine gX9_turnedPointing_0 σ (qX1_totalUpTo hw ht hm he (fun σ1 z k1 z0 zl z1 z2 => ?_))
  rw [e6, z1 (by omega)]
  exact outer 20 0 (s 3) (costM s) 1 σ1 (s 3) rfl hw.2.2.2.1 k1.1 hw.2.2.2.1 (by rw [su_id]; exact (k1.T ht hm).1) rfl
end
section
/-! costs with other beginnings -/
noncomputable def costG (s : Nat → Int) (F A : Nat → Int) : Nat → Int
  | 0 => 0
  | n + 1 => costG s F A n + se s n 3 * mins s (F n).toNat (se s n 1).toNat (A n)
theorem entS_congr {s s' : Nat → Int} (hw : s 1 ≤ 14) (h : ∀ j, j < 81 → s' j = s j) {t e m : Int} (ht : 0 ≤ t ∧ t < s 1) : entS s' t e m = entS s t e m := by
  have g3 : sg s' t 3 = sg s t 3 := h _ (by omega)
  unfold entS wayS ebit turnsS nextS turnS
  rw [g3, h 3 (by omega), h 4 (by omega), h 5 (by omega), h 7 (by omega), h 8 (by omega), h 9 (by omega), h 10 (by omega)]
theorem Soon_congr {s s' : Nat → Int} (hw : s 1 ≤ 14) (h : ∀ j, j < 81 → s' j = s j) {f : Nat} {m : Int} {D : Nat → Int} (hs : Soon s f m D) : Soon s' f m D := by
  have h1 : s' 1 = s 1 := h 1 (by omega)
  have gg : ∀ t k, 0 ≤ t → t < s 1 → 0 ≤ k → k < 5 → sg s' t k = sg s t k := fun t k a b c d => h _ (by omega)
  have ee : ∀ t e, 0 ≤ t → t < s 1 → (e = 0 ∨ e = 1) → ea s' t e = ea s t e ∧ ea s' t (1 - e) = ea s t (1 - e) := fun t e a b c => by
    unfold ea
    rw [gg t e a b (by omega) (by omega), gg t (1 - e) a b (by omega) (by omega)]
    exact ⟨rfl, rfl⟩
  obtain ⟨a0, a1, a2, a3, a4, a5⟩ := hs
  refine ⟨a0, a1, a2, a3, fun c hc hl hcf => ?_, fun t e hv hz hn => ?_⟩
  · obtain ⟨t, e, hv, b1, b2, b3, b4, b5⟩ := a4 c hc hl hcf
    obtain ⟨x1, x2⟩ := ee t e hv.1 hv.2.1 hv.2.2
    refine ⟨t, e, ⟨hv.1, by rw [h1]; exact hv.2.1, hv.2.2⟩, by rw [x2]; exact b1, by rw [x1]; exact b2, by rw [x1]; exact b3, ?_, ?_⟩
    · rw [x1, entS_congr hw h ⟨hv.1, hv.2.1⟩]; exact b4
    · rw [x1, entS_congr hw h ⟨hv.1, hv.2.1⟩, gg t 2 hv.1 hv.2.1 (by omega) (by omega)]; exact b5
  · have hv2 : t < s 1 := by rw [← h1]; exact hv.2.1
    obtain ⟨x1, x2⟩ := ee t e hv.1 hv2 hv.2.2
    rw [x1] at hz hn
    rw [entS_congr hw h ⟨hv.1, hv2⟩] at hn
    rw [x1, x2, entS_congr hw h ⟨hv.1, hv2⟩, gg t 2 hv.1 hv2 (by omega) (by omega)]
    exact a5 t e ⟨hv.1, hv2, hv.2.2⟩ hz hn
theorem dist_congr {s s' : Nat → Int} (hw : s 1 ≤ 14) (h : ∀ j, j < 81 → s' j = s j) {f : Nat} {m : Int} : dist s' f m = dist s f m := by
  unfold dist
  have h1 : s' 1 = s 1 := h 1 (by omega)
  congr 1
  funext D
  apply propext
  exact ⟨Soon_congr (by omega) (fun j hj => (h j hj).symm), Soon_congr hw h⟩
theorem mins_congr {s s' : Nat → Int} (hw : s 1 ≤ 14) (h : ∀ j, j < 81 → s' j = s j) {f t : Nat} {a : Int} : mins s' f t a = mins s f t a := by
  unfold mins
  rw [dist_congr hw h]
theorem costG_of {s s' : Nat → Int} (hw : s 1 ≤ 14) (h : ∀ j, j < 81 → s' j = s j) {F A : Nat → Int} : ∀ n : Nat, (∀ e : Nat, e < n → se s' e 0 = F e ∧ se s' e 1 = se s e 1 ∧ se s' e 2 = A e ∧ se s' e 3 = se s e 3) → costN s' n = costG s F A n
  | 0, _ => rfl
  | n + 1, hx => by
    have ih := costG_of hw h n (fun e he => hx e (by omega))
    obtain ⟨x0, x1, x2, x3⟩ := hx n (by omega)
    unfold costN costG
    rw [ih, x0, x1, x2, x3, mins_congr hw h]
theorem costG_self {s : Nat → Int} (hw : s 1 ≤ 14) : costM s = costG s (fun e => se s e 0) (fun e => se s e 2) (s 2).toNat := costG_of hw (fun _ _ => rfl) _ (fun _ _ => ⟨rfl, rfl, rfl, rfl⟩)
theorem costG_b {s : Nat → Int} (hw : WF s) {F A : Nat → Int} : ∀ n : Nat, (n : Int) ≤ s 2 → (∀ e : Nat, e < n → (0 ≤ F e ∧ F e < s 0) ∧ (0 ≤ A e ∧ A e ≤ 2879)) → 0 ≤ costG s F A n ∧ costG s F A n ≤ 27000 * n
  | 0, _, _ => by unfold costG; omega
  | n + 1, hn, hx => by
    have w0 := hw.1
    have ih := costG_b hw n (by omega) (fun e he => hx e (by omega))
    obtain ⟨e0, e1, e2, e3⟩ := er_of hw (e := (n : Int)) (by omega)
    have x := hx n (by omega)
    have b := mul_b (w := se s n 3) (m := mins s (F n).toNat (se s n 1).toNat (A n)) (by omega) (mins_b hw (by omega) (by omega) (by omega))
    unfold costG
    omega
theorem costG_step {s : Nat → Int} (hw : WF s) {F A : Nat → Int} {n : Nat} (hn : (n : Int) < s 2) (hx : (0 ≤ F n ∧ F n < s 0) ∧ (0 ≤ A n ∧ A n ≤ 2879)) : 0 ≤ se s n 3 * mins s (F n).toNat (se s n 1).toNat (A n) ∧ se s n 3 * mins s (F n).toNat (se s n 1).toNat (A n) ≤ 27000 := by
  have w0 := hw.1
  obtain ⟨e0, e1, e2, e3⟩ := er_of hw (e := (n : Int)) (by omega)
  exact mul_b (w := se s n 3) (m := mins s (F n).toNat (se s n 1).toNat (A n)) (by omega) (mins_b hw (by omega) (by omega) (by omega))
theorem costG_mono {s : Nat → Int} (hw : WF s) {F A : Nat → Int} (hx : ∀ e : Nat, (e : Int) < s 2 → (0 ≤ F e ∧ F e < s 0) ∧ (0 ≤ A e ∧ A e ≤ 2879)) {n : Nat} : ∀ k : Nat, ((n + k : Nat) : Int) ≤ s 2 → costG s F A n ≤ costG s F A (n + k)
  | 0, _ => Int.le_refl _
  | k + 1, h => by
    have ih := costG_mono hw hx (n := n) k (by omega)
    have b := costG_step hw (F := F) (A := A) (n := n + k) (by omega) (hx (n + k) (by omega))
    have e : costG s F A (n + (k + 1)) = costG s F A (n + k) + se s ((n + k : Nat) : Int) 3 * mins s (F (n + k)).toNat (se s ((n + k : Nat) : Int) 1).toNat (A (n + k)) := rfl
    rw [e]
    omega
/-- what all would cost from corner c -/
noncomputable def homeM (s : Nat → Int) (c : Int) : Int := costG s (fun _ => c) (fun e => se s e 2) (s 2).toNat
theorem home_hx {s : Nat → Int} (hw : WF s) {c : Int} (hc : 0 ≤ c ∧ c < s 0) : ∀ e : Nat, (e : Int) < s 2 → (0 ≤ (fun _ : Nat => c) e ∧ (fun _ : Nat => c) e < s 0) ∧ (0 ≤ (fun e : Nat => se s e 2) e ∧ (fun e : Nat => se s e 2) e ≤ 2879) := fun e he => by
  obtain ⟨e0, e1, e2, e3⟩ := er_of hw (e := (e : Int)) (by omega)
  exact ⟨hc, by show 0 ≤ se s e 2; omega, by show se s e 2 ≤ 2879; omega⟩
theorem homeM_b {s : Nat → Int} (hw : WF s) {c : Int} (hc : 0 ≤ c ∧ c < s 0) : 0 ≤ homeM s c ∧ homeM s c ≤ 216000 := by
  have w2 := hw.2.2.1
  have := costG_b hw (F := fun _ => c) (A := fun e => se s e 2) (s 2).toNat (by omega) (fun e he => home_hx hw hc e (by omega))
  unfold homeM
  omega
theorem qX1_cheapestHome {σ : Hp} {K : Int → Hp → Prop} {s : Nat → Int} (hw : WF s) (ht : TRc σ s) (hm : TMs σ s) (he : TMe σ s) (h : ∀ σ' r, Kept σ σ' → AM (fun _ => True) (homeM s) (s 0) r → K r σ') : Runs 5 mX1_cheapestHome 0 [zR 25 0, zU, zU, zU, zU, zU] [] σ (rI K) := by
  have w0 := hw.1
  have w2 := hw.2.2.1
  have inner : ∀ (n e : Nat) (c : Nat) (r l : Int) (σ1 : Hp), (s 2 - e).toNat ≤ n → (e : Int) ≤ s 2 → (c : Int) < s 0 → Kept σ σ1 →
      (∀ σ' z, Kept σ σ' → (homeM s c < l → z = homeM s c) → (l ≤ homeM s c → l ≤ z) → ((l ≤ z → Runs 5 mX1_cheapestHome 7 [zR 25 0, zI r, zI l, zI ((c : Int) + 1), zU, zU] [] σ' (rI K)) ∧ (¬ l ≤ z → Runs 5 mX1_cheapestHome 7 [zR 25 0, zI (c : Int), zI z, zI ((c : Int) + 1), zU, zU] [] σ' (rI K)))) →
      Runs 5 mX1_cheapestHome 24 [zR 25 0, zI r, zI l, zI (c : Int), zI (costG s (fun _ => (c : Int)) (fun e => se s e 2) e), zI (e : Int)] [] σ1 (rI K) := by
    intro n
    have fin : ∀ (e : Nat) (c : Nat) (r l : Int) (σ1 : Hp), (e : Int) = s 2 → (c : Int) < s 0 → Kept σ σ1 →
      (∀ σ' z, Kept σ σ' → (homeM s c < l → z = homeM s c) → (l ≤ homeM s c → l ≤ z) → ((l ≤ z → Runs 5 mX1_cheapestHome 7 [zR 25 0, zI r, zI l, zI ((c : Int) + 1), zU, zU] [] σ' (rI K)) ∧ (¬ l ≤ z → Runs 5 mX1_cheapestHome 7 [zR 25 0, zI (c : Int), zI z, zI ((c : Int) + 1), zU, zU] [] σ' (rI K)))) →
      Runs 5 mX1_cheapestHome 24 [zR 25 0, zI r, zI l, zI (c : Int), zI (costG s (fun _ => (c : Int)) (fun e => se s e 2) e), zI (e : Int)] [] σ1 (rI K) := fun e c r l σ1 hes hc hk cont => by
      have e1 : σ1 1 0 2 = s 2 := by rw [hk.1 1 (by decide)]; exact he.1
      have eh : costG s (fun _ => (c : Int)) (fun e => se s e 2) e = homeM s c := by unfold homeM; rw [show (s 2).toNat = e by omega]
      rw [eh]
      obtain ⟨g1, g2⟩ := cont σ1 (homeM s c) hk (fun _ => rfl) (fun q => q)
      exact gX1_cheapestHome_24 r l (c : Int) _ (e : Int) σ1 ⟨fun _ => ⟨fun q => ⟨by omega, g1 q⟩, fun q => ⟨by omega, g2 q⟩⟩, fun q => absurd (show σ1 1 0 2 ≤ (e : Int) by omega) q⟩
    induction n with
    | zero => intro e c r l σ1 hn hes hc hk cont; exact fin e c r l σ1 (by omega) hc hk cont
    | succ n ih =>
      intro e c r l σ1 hn hes hc hk cont
      by_cases hq : (e : Int) = s 2
      · exact fin e c r l σ1 hq hc hk cont
      · have e1 : σ1 1 0 2 = s 2 := by rw [hk.1 1 (by decide)]; exact he.1
        have hx := home_hx hw (c := (c : Int)) (by omega)
        have cb := costG_b hw (F := fun _ => (c : Int)) (A := fun e => se s e 2) e hes (fun e' he' => hx e' (by omega))
        have mono := costG_mono hw hx (n := e) ((s 2).toNat - e) (by omega)
        rw [show e + ((s 2).toNat - e) = (s 2).toNat by omega] at mono
        have sb := costG_step hw (F := fun _ => (c : Int)) (A := fun e => se s e 2) (n := e) (by omega) (hx e (by omega))
        obtain ⟨a0, a1, a2, a3⟩ := er_of hw (e := (e : Int)) (by omega)
        obtain ⟨t6, t7, t8, t9⟩ := he.2 (e : Int) (by omega) (by omega)
        rw [← show σ1 7 = σ 7 from hk.1 7 (by decide)] at t7
        rw [← show σ1 8 = σ 8 from hk.1 8 (by decide)] at t8
        rw [← show σ1 9 = σ 9 from hk.1 9 (by decide)] at t9
        obtain ⟨ht1, hm1⟩ := hk.T ht hm
        refine gX1_cheapestHome_24 r l (c : Int) _ (e : Int) σ1 ⟨fun q => absurd q (by omega), fun _ => ⟨fun q => ?_, fun q => ⟨by omega, by omega, by omega, ?_⟩⟩⟩
        · have : l ≤ homeM s c := by unfold homeM; omega
          obtain ⟨g1, g2⟩ := cont σ1 (costG s (fun _ => (c : Int)) (fun e => se s e 2) e) hk (fun z => by omega) (fun _ => q)
          exact ⟨fun q => ⟨by omega, g1 q⟩, fun q => ⟨by omega, g2 q⟩⟩
        · rw [t7, t8, t9]
          refine qX1_minutesOf hw ht1 hm1 (f := (c : Int)) (by omega) a1 (by omega) (fun σ2 k2 => ?_)
          have next : costG s (fun _ => (c : Int)) (fun e => se s e 2) (e + 1) = costG s (fun _ => (c : Int)) (fun e => se s e 2) e + se s e 3 * mins s ((c : Int)).toNat (se s e 1).toNat (se s e 2) := rfl
          have sb' : 0 ≤ se s e 3 * mins s ((c : Int)).toNat (se s e 1).toNat (se s e 2) ∧ se s e 3 * mins s ((c : Int)).toNat (se s e 1).toNat (se s e 2) ≤ 27000 := sb
          refine ⟨by omega, by omega, by omega, ?_⟩
          rw [← next]
          exact ih (e + 1) c r l σ2 (by omega) (by omega) hc (hk.tr k2) cont
  have outer : ∀ (n c : Nat) (r r0 l : Int) (σ1 : Hp), (s 0 - c).toNat ≤ n → (c : Int) ≤ s 0 → Kept σ σ1 → AM (fun _ => True) (homeM s) c r0 → (0 ≤ r0 → l = homeM s r0 ∧ r = r0) → (r0 < 0 → l = 1000000 ∧ c = 0) → Runs 5 mX1_cheapestHome 7 [zR 25 0, zI r, zI l, zI (c : Int), zU, zU] [] σ1 (rI K) := by
    intro n
    have fin : ∀ (c : Nat) (r r0 l : Int) (σ1 : Hp), (c : Int) = s 0 → Kept σ σ1 → AM (fun _ => True) (homeM s) c r0 → (0 ≤ r0 → l = homeM s r0 ∧ r = r0) → (r0 < 0 → l = 1000000 ∧ c = 0) → Runs 5 mX1_cheapestHome 7 [zR 25 0, zI r, zI l, zI (c : Int), zU, zU] [] σ1 (rI K) := fun c r r0 l σ1 hc hk ha hlr hl9 => by
      have e1 : σ1 1 0 0 = s 0 := by rw [hk.1 1 (by decide)]; exact hm.1
      have h0 : 0 ≤ r0 := by
        by_cases y : r0 < 0
        · have := (hl9 y).2; omega
        · omega
      rw [hc] at ha
      rw [(hlr h0).2]
      exact gX1_cheapestHome_7 r0 l (c : Int) σ1 ⟨fun _ => h σ1 r0 hk ha, fun q => absurd (show σ1 1 0 0 ≤ (c : Int) by omega) q⟩
    induction n with
    | zero => intro c r r0 l σ1 hn hc hk ha hlr hl9; exact fin c r r0 l σ1 (by omega) hk ha hlr hl9
    | succ n ih =>
      intro c r r0 l σ1 hn hc hk ha hlr hl9
      by_cases hcs : (c : Int) = s 0
      · exact fin c r r0 l σ1 hcs hk ha hlr hl9
      · have e1 : σ1 1 0 0 = s 0 := by rw [hk.1 1 (by decide)]; exact hm.1
        have hr9 := ha.r9
        have hb := homeM_b hw (c := (c : Int)) (by omega)
        refine gX1_cheapestHome_7 r l (c : Int) σ1 ⟨fun q => absurd q (by omega), fun _ => ?_⟩
        refine inner (s 2).toNat 0 c r l σ1 (by omega) (by omega) (by omega) hk (fun σ' z hk' z1 z2 => ⟨fun q => ?_, fun q => ?_⟩)
        · have hF : l ≤ homeM s c := by
            by_cases y : homeM s c < l
            · have := z1 y; omega
            · omega
          have hr0 : 0 ≤ r0 := by
            by_cases y : r0 < 0
            · have := (hl9 y).1; omega
            · omega
          exact ih (c + 1) r r0 l σ' (by omega) (by omega) hk' (ha.keep hr0 (by rw [← (hlr hr0).1]; exact hF)) hlr (fun y => by omega)
        · have hF : homeM s c < l := by
            by_cases y : l ≤ homeM s c
            · have := z2 y; omega
            · omega
          have hz := z1 hF
          exact ih (c + 1) (c : Int) (c : Int) z σ' (by omega) (by omega) hk' (ha.less (by omega) trivial (fun y => by rw [← (hlr y).1]; exact hF)) (fun _ => ⟨hz, rfl⟩) (fun y => by omega)
  exact gX1_cheapestHome_0 σ (outer (s 0).toNat 0 0 (-9) 1000000 σ (by omega) (by omega) Kept.rf AM.zero (fun z => by omega) (fun _ => ⟨rfl, rfl⟩))
end
section
/-! the reference's lives -/
def AgF (s s1 : Nat → Int) : Prop := ∀ j, (∀ e : Nat, e < 8 → j ≠ 81 + 4 * e) → s1 j = s j
theorem AgF.up {s : Nat → Int} {σ1 : Hp} {e : Nat} {v : Int} (h : AgF s (σ1 36 0)) (he : e < 8) : AgF s ((zup σ1 36 0 (81 + 4 * e) v) 36 0) := fun j hj => by
  rw [zup_su, su_ne (hj e he)]
  exact h j hj
theorem AgF.wf {s s1 : Nat → Int} (hw : WF s) (h : AgF s s1) {c : Int} (hc : 0 ≤ c ∧ c < s 0) (hf : ∀ e : Nat, (e : Int) < s 2 → s1 (81 + 4 * e) = c) : WF s1 := by
  obtain ⟨w0, w1, w2, w3, w4, w5, w6, w7, w8, w9, w10, wst, wer, wrow⟩ := hw
  have lo : ∀ j, j < 81 → s1 j = s j := fun j hj => h j (fun e he => by omega)
  have gg : ∀ t k, 0 ≤ t → t < s 1 → 0 ≤ k → k < 5 → sg s1 t k = sg s t k := fun t k a b c d => lo _ (by omega)
  refine ⟨by rw [lo 0 (by omega)]; exact w0, by rw [lo 1 (by omega)]; exact w1, by rw [lo 2 (by omega)]; exact w2, by rw [lo 3 (by omega)]; exact w3, by rw [lo 4 (by omega)]; exact w4, by rw [lo 5 (by omega)]; exact w5, by rw [lo 6 (by omega)]; exact w6, by rw [lo 7 (by omega)]; exact w7, by rw [lo 8 (by omega)]; exact w8, by rw [lo 9 (by omega)]; exact w9, by rw [lo 10 (by omega)]; exact w10, fun t h0 h1 => ?_, fun e h0 h1 => ?_, fun i hi => ?_⟩
  · rw [lo 1 (by omega)] at h1
    have := wst t h0 h1
    unfold stOK at *
    rw [gg t 0 h0 h1 (by omega) (by omega), gg t 1 h0 h1 (by omega) (by omega), gg t 2 h0 h1 (by omega) (by omega), gg t 3 h0 h1 (by omega) (by omega), gg t 4 h0 h1 (by omega) (by omega), lo 0 (by omega)]
    exact this
  · rw [lo 2 (by omega)] at h1
    have := wer e h0 h1
    unfold erOK at *
    have e0 : se s1 e 0 = c := by
      have := hf e.toNat (by omega)
      unfold se
      rw [show (81 + 4 * e + 0).toNat = 81 + 4 * e.toNat by omega]
      exact this
    have e1 : se s1 e 1 = se s e 1 := h _ (fun e' he' => by omega)
    have e2 : se s1 e 2 = se s e 2 := h _ (fun e' he' => by omega)
    have e3 : se s1 e 3 = se s e 3 := h _ (fun e' he' => by omega)
    rw [e0, e1, e2, e3, lo 0 (by omega)]
    exact ⟨hc, this.2⟩
  · rw [lo 6 (by omega)] at hi
    rw [h _ (fun e he => by omega)]
    exact wrow i hi
theorem AgF.cost {s s1 : Nat → Int} (hw : WF s) (h : AgF s s1) {c : Int} (hf : ∀ e : Nat, (e : Int) < s 2 → s1 (81 + 4 * e) = c) : costM s1 = homeM s c := by
  have w1 := hw.2.1
  have w2 := hw.2.2.1
  have lo : ∀ j, j < 81 → s1 j = s j := fun j hj => h j (fun e he => by omega)
  unfold costM homeM
  rw [lo 2 (by omega)]
  refine costG_of (by omega) lo (s 2).toNat (fun e he => ⟨?_, ?_, ?_, ?_⟩)
  · unfold se
    rw [show (81 + 4 * (e : Int) + 0).toNat = 81 + 4 * e by omega]
    exact hf e (by omega)
  · exact h _ (fun e' he' => by omega)
  · exact h _ (fun e' he' => by omega)
  · exact h _ (fun e' he' => by omega)
theorem qX11_lives {σ : Hp} {K : Int → Hp → Prop} {s : Nat → Int} (hs : σ 36 0 = s) (hw : WF s) (h : ∀ σ' r, Off [36, 41, 42, 47] σ σ' → (∀ j, σ' 36 0 j = s j) → AM (fun _ => True) (homeM s) (s 0) r → K r σ') : Runs 6 mX11_lives 0 [zR 34 0, zU, zU, zU, zU] [] σ (rI K) := by
  have w0 := hw.1
  have w2 := hw.2.2.1
  -- the end: what was kept comes back
  have back : ∀ (n e : Nat) (r : Int) (σ1 : Hp), e + n = 8 → Off [36, 41, 42, 47] σ σ1 → (∀ e' : Nat, e' < 8 → σ1 47 0 e' = s (81 + 4 * e')) → AgF s (σ1 36 0) → (∀ e' : Nat, e' < e → σ1 36 0 (81 + 4 * e') = s (81 + 4 * e')) → AM (fun _ => True) (homeM s) (s 0) r → Runs 6 mX11_lives 110 [zR 34 0, zI r, zU, zI (e : Int), zU] [] σ1 (rI K) := by
    intro n
    induction n with
    | zero =>
      intro e r σ1 he ho hk ha hb hA
      refine gX11_lives_110 r (e : Int) σ1 ⟨fun _ => h σ1 r ho (fun j => ?_) hA, fun q => absurd (show (8 : Int) ≤ e by omega) q⟩
      by_cases q : ∃ e' : Nat, e' < 8 ∧ j = 81 + 4 * e'
      · obtain ⟨e', h1, h2⟩ := q
        rw [h2]
        exact hb e' (by omega)
      · exact ha j (fun e' h1 h2 => q ⟨e', h1, h2⟩)
    | succ n ih =>
      intro e r σ1 he ho hk ha hb hA
      have ix : (81 + 4 * (e : Int) + 0).toNat = 81 + 4 * e := by omega
      refine gX11_lives_110 r (e : Int) σ1 ⟨fun q => absurd q (by omega), fun _ => ?_⟩
      rw [ix]
      simp only [Int.toNat_natCast]
      refine ⟨by omega, by omega, by omega, by omega, by omega, by omega, ?_⟩
      refine ih (e + 1) r _ (by omega) (ho.up (by decide)) (fun e' he' => ?_) (ha.up (by omega)) (fun e' he' => ?_) hA
      · rw [show (zup σ1 36 0 (81 + 4 * e) (σ1 47 0 e)) 47 0 = σ1 47 0 from zup_ne (fun z => by cases z)]
        exact hk e' he'
      · rw [zup_su]
        by_cases q : e' = e
        · subst q; rw [su_eq]; exact hk e' (by omega)
        · rw [su_ne (by omega)]; exact hb e' (by omega)
  have outer : ∀ (n c : Nat) (r l : Int) (σ1 : Hp), (s 0 - c).toNat ≤ n → (c : Int) ≤ s 0 → Off [36, 41, 42, 47] σ σ1 → (∀ e' : Nat, e' < 8 → σ1 47 0 e' = s (81 + 4 * e')) → AgF s (σ1 36 0) → AM (fun _ => True) (homeM s) c r → (0 ≤ r → l = homeM s r) → Runs 6 mX11_lives 33 [zR 34 0, zI r, zI l, zI (c : Int), zU] [] σ1 (rI K) := by
    intro n
    have fin : ∀ (c : Nat) (r l : Int) (σ1 : Hp), (c : Int) = s 0 → Off [36, 41, 42, 47] σ σ1 → (∀ e' : Nat, e' < 8 → σ1 47 0 e' = s (81 + 4 * e')) → AgF s (σ1 36 0) → AM (fun _ => True) (homeM s) c r → Runs 6 mX11_lives 33 [zR 34 0, zI r, zI l, zI (c : Int), zU] [] σ1 (rI K) := fun c r l σ1 hc ho hk ha hA => by
      have e0 : σ1 36 0 0 = s 0 := ha 0 (fun e he => by omega)
      rw [hc] at hA
      exact gX11_lives_33 r l (c : Int) σ1 ⟨fun _ => back 8 0 r σ1 rfl ho hk ha (fun e' he' => absurd he' (by omega)) hA, fun q => absurd (show σ1 36 0 0 ≤ (c : Int) by omega) q⟩
    induction n with
    | zero => intro c r l σ1 hn hc ho hk ha hA hlr; exact fin c r l σ1 (by omega) ho hk ha hA
    | succ n ih =>
      intro c r l σ1 hn hc ho hk ha hA hlr
      by_cases hcs : (c : Int) = s 0
      · exact fin c r l σ1 hcs ho hk ha hA
      · have e0 : σ1 36 0 0 = s 0 := ha 0 (fun e he => by omega)
        have hr9 := hA.r9
        refine gX11_lives_33 r l (c : Int) σ1 ⟨fun q => absurd q (by omega), fun _ => ?_⟩
        have inner : ∀ (k e : Nat) (σ2 : Hp), (s 2 - e).toNat ≤ k → (e : Int) ≤ s 2 → Off [36, 41, 42, 47] σ σ2 → (∀ e' : Nat, e' < 8 → σ2 47 0 e' = s (81 + 4 * e')) → AgF s (σ2 36 0) → (∀ e' : Nat, e' < e → σ2 36 0 (81 + 4 * e') = (c : Int)) → Runs 6 mX11_lives 46 [zR 34 0, zI r, zI l, zI (c : Int), zI (e : Int)] [] σ2 (rI K) := by
          intro k
          have fin2 : ∀ (e : Nat) (σ2 : Hp), (e : Int) = s 2 → Off [36, 41, 42, 47] σ σ2 → (∀ e' : Nat, e' < 8 → σ2 47 0 e' = s (81 + 4 * e')) → AgF s (σ2 36 0) → (∀ e' : Nat, e' < e → σ2 36 0 (81 + 4 * e') = (c : Int)) → Runs 6 mX11_lives 46 [zR 34 0, zI r, zI l, zI (c : Int), zI (e : Int)] [] σ2 (rI K) := fun e σ2 hes ho2 hk2 ha2 hb2 => by
            have e2 : σ2 36 0 2 = s 2 := ha2 2 (fun e he => by omega)
            have hf : ∀ e' : Nat, (e' : Int) < s 2 → σ2 36 0 (81 + 4 * e') = (c : Int) := fun e' he' => hb2 e' (by omega)
            refine gX11_lives_46 r l (c : Int) (e : Int) σ2 ⟨fun _ => ?_, fun q => absurd (show σ2 36 0 2 ≤ (e : Int) by omega) q⟩
            refine qX11_costOf (ha2.wf hw (by omega) hf) (fun σ3 o3 => ?_)
            rw [ha2.cost hw hf]
            have ho3 : Off [36, 41, 42, 47] σ σ3 := ho2.tr (o3.mono (by decide))
            have h47 : ∀ e' : Nat, e' < 8 → σ3 47 0 e' = s (81 + 4 * e') := fun e' he' => by rw [o3 47 (by decide)]; exact hk2 e' he'
            have h36 : AgF s (σ3 36 0) := by rw [o3 36 (by decide)]; exact ha2
            refine ⟨fun q => ⟨by omega, ih (c + 1) _ _ σ3 (by omega) (by omega) ho3 h47 h36 (hA.less (by omega) trivial (fun z => by omega)) (fun _ => rfl)⟩, fun q => ⟨fun q2 => ⟨by omega, ih (c + 1) _ _ σ3 (by omega) (by omega) ho3 h47 h36 (hA.less (by omega) trivial (fun z => by rw [← hlr z]; exact q2)) (fun _ => rfl)⟩, fun q2 => ⟨by omega, ih (c + 1) _ _ σ3 (by omega) (by omega) ho3 h47 h36 (hA.keep (by omega) (by rw [← hlr (by omega)]; omega)) hlr⟩⟩⟩
          induction k with
          | zero => intro e σ2 hk' hes ho2 hk2 ha2 hb2; exact fin2 e σ2 (by omega) ho2 hk2 ha2 hb2
          | succ k ih2 =>
            intro e σ2 hk' hes ho2 hk2 ha2 hb2
            by_cases hq : (e : Int) = s 2
            · exact fin2 e σ2 hq ho2 hk2 ha2 hb2
            · have e2 : σ2 36 0 2 = s 2 := ha2 2 (fun e he => by omega)
              have ix : (81 + 4 * (e : Int) + 0).toNat = 81 + 4 * e := by omega
              refine gX11_lives_46 r l (c : Int) (e : Int) σ2 ⟨fun q => absurd q (by omega), fun _ => ?_⟩
              rw [ix]
              refine ⟨by omega, by omega, by omega, by omega, by omega, ?_⟩
              refine ih2 (e + 1) _ (by omega) (by omega) (ho2.up (by decide)) (fun e' he' => ?_) (ha2.up (by omega)) (fun e' he' => ?_)
              · rw [show (zup σ2 36 0 (81 + 4 * e) (c : Int)) 47 0 = σ2 47 0 from zup_ne (fun z => by cases z)]
                exact hk2 e' he'
              · rw [zup_su]
                by_cases q : e' = e
                · subst q; rw [su_eq]
                · rw [su_ne (by omega)]; exact hb2 e' (by omega)
        exact inner (s 2).toNat 0 σ1 (by omega) (by omega) ho hk ha (fun e' he' => absurd he' (by omega))
  have first : ∀ (n e : Nat) (σ1 : Hp), e + n = 8 → Off [47] σ σ1 → (∀ e' : Nat, e' < e → σ1 47 0 e' = s (81 + 4 * e')) → Runs 6 mX11_lives 2 [zR 34 0, zI (e : Int), zU, zU, zU] [] σ1 (rI K) := by
    intro n
    induction n with
    | zero =>
      intro e σ1 he ho hk
      have h36 : σ1 36 0 = s := by rw [ho 36 (by decide)]; exact hs
      refine gX11_lives_2 (e : Int) σ1 ⟨fun _ => outer (s 0).toNat 0 (-9) 0 σ1 (by omega) (by omega) (ho.mono (by decide)) (fun e' he' => hk e' (by omega)) (fun j _ => by rw [h36]) AM.zero (fun z => by omega), fun q => absurd (show (8 : Int) ≤ e by omega) q⟩
    | succ n ih =>
      intro e σ1 he ho hk
      have h36 : σ1 36 0 = s := by rw [ho 36 (by decide)]; exact hs
      refine gX11_lives_2 (e : Int) σ1 ⟨fun q => absurd q (by omega), fun _ => ⟨by omega, by omega, by omega, ?_⟩⟩
      simp only [Int.toNat_natCast]
      refine ih (e + 1) _ (by omega) (ho.up (by decide)) (fun e' he' => ?_)
      by_cases q : e' = e
      · subst q
        rw [h36]
        have : se s (e' : Int) 0 = s (81 + 4 * e') := by unfold se; rw [show (81 + 4 * (e' : Int) + 0).toNat = 81 + 4 * e' by omega]
        simp [zup, this]
      · simp [zup, q]
        exact hk e' (by omega)
  exact gX11_lives_0 σ (first 8 0 σ rfl Off.rf (fun e' he' => absurd he' (by omega)))
end
section
theorem gX11_days_0 (a0 : Int) (a1 : Int) (σ : Hp) {Q : Option Int → Hp → Prop} (h : ((zwithin a0 1 10 = 0 → Runs 6 mX11_days 21 [zR 34 0, zI a0, zI a1, zU, zI 0, zU, zU, zU] [] σ Q) ∧ (¬ zwithin a0 1 10 = 0 → (-6 ≤ (zwithin a0 1 10) ∧ (zwithin a0 1 10) ≤ -1) ∧ (σ 35 0 (-(zwithin a0 1 10)).toNat ≤ 2147483646) ∧ ∀ σ1 : Hp, σ1 = zup σ 35 0 (-(zwithin a0 1 10)).toNat (σ 35 0 (-(zwithin a0 1 10)).toNat + 1) → Q (some (zwithin a0 1 10)) σ1))) : Runs 6 mX11_days 0 [zR 34 0, zI a0, zI a1, zU, zU, zU, zU, zU] [] σ Q := by
  refine r_blk [qO (.iload_n 1), qO (.iconst 1), qO (.bipush 10)] (pc' := 4) (L' := [zR 34 0, zI a0, zI a1, zU, zU, zU, zU, zU]) (S' := [zI 10, zI 1, zI a0]) (σ' := σ) (Ps := []) (by decide +kernel) rfl trivial ?_
  refine r_callSI (As := [zI a0, zI 1, zI 10]) (S := []) (Lc := [zI a0, zI 1, zI 10]) (d' := 0) (n := 3) kX11_within vX11_within lkX11_119 (by decide +kernel) (by decide) rfl rfl (Nat.le_of_ble_eq_true rfl) rfl rfl (Nat.le_of_ble_eq_true rfl) (pX11_within  ?_)
  refine r_blk [qO (.istore_n 3), qO (.iload_n 3)] (pc' := 9) (L' := [zR 34 0, zI a0, zI a1, zI (zwithin a0 1 10), zU, zU, zU, zU]) (S' := [zI (zwithin a0 1 10)]) (σ' := σ) (Ps := []) (by decide +kernel) rfl trivial ?_
  refine r_if_eq (off := 9) (tgt := 18) (by decide +kernel) (by decide) (fun c => ?_) (fun c => ?_)
  · replace h := h.1 c
    refine r_blk [qO (.iconst 0), qO (.istore 4)] (pc' := 21) (L' := [zR 34 0, zI a0, zI a1, zI (zwithin a0 1 10), zI 0, zU, zU, zU]) (S' := []) (σ' := σ) (Ps := []) (by decide +kernel) rfl trivial ?_
    exact Runs.fg (fgE (fgE (fgE (fgU (fgE (fgU (fgU (fgU fg0)))))))) h
  · replace h := h.2 c
    refine r_blk [qO (.aload_n 0), qO (.iload_n 3)] (pc' := 14) (L' := [zR 34 0, zI a0, zI a1, zI (zwithin a0 1 10), zU, zU, zU, zU]) (S' := [zI (zwithin a0 1 10), zR 34 0]) (σ' := σ) (Ps := []) (by decide +kernel) rfl trivial ?_
    refine r_callVI (As := [zI (zwithin a0 1 10)]) (S := []) (Lc := [zR 34 0, zI (zwithin a0 1 10)]) (d' := 0) (n := 1) (g := 34) (x := 0) (ci := 11) kX11_refuse vX11_refuse lkX11_66 (by decide +kernel) (by decide) rfl rfl (by decide) rfl rfl (Nat.le_of_ble_eq_true rfl) rfl rfl (Nat.le_of_ble_eq_true rfl) (pX11_refuse h.1 h.2.1 ?_)
    replace h := h.2.2
    generalize hσ1 : zup σ 35 0 (-(zwithin a0 1 10)).toNat (σ 35 0 (-(zwithin a0 1 10)).toNat + 1) = σ1
    replace h := h σ1 hσ1.symm
    exact r_ret (by decide +kernel) rfl (fun _ => h)
theorem gX11_days_21 (l1 : Int) (l2 : Int) (l4 : Int) (σ : Hp) {Q : Option Int → Hp → Prop} (h : ((8 ≤ l4 → Runs 6 mX11_days 57 [zR 34 0, zI l1, zU, zU, zI l2, zI 0, zI 0, zU] [] σ Q) ∧ (¬ 8 ≤ l4 → (0 ≤ l4 ∧ l4 < 8) ∧ (0 ≤ l4 ∧ l4 < 8) ∧ (-2147483648 ≤ l4 + 1 ∧ l4 + 1 ≤ 2147483647) ∧ Runs 6 mX11_days 21 [zR 34 0, zI l1, zI l2, zU, zI (l4 + 1), zU, zU, zU] [] (zup σ 47 0 l4.toNat (se (σ 36 0) l4 2)) Q))) : Runs 6 mX11_days 21 [zR 34 0, zI l1, zI l2, zU, zI l4, zU, zU, zU] [] σ Q := by
  refine r_blk [qO (.iload 4), qO (.bipush 8)] (pc' := 25) (L' := [zR 34 0, zI l1, zI l2, zU, zI l4, zU, zU, zU]) (S' := [zI 8, zI l4]) (σ' := σ) (Ps := []) (by decide +kernel) rfl trivial ?_
  refine r_icmp_ge (off := 23) (tgt := 48) (by decide +kernel) (by decide) (fun c => ?_) (fun c => ?_)
  · replace h := h.1 c
    refine r_blk [qO (.iload_n 2), qO (.istore 4), qO (.iconst 0), qO (.istore 5), qO (.iconst 0), qO (.istore 6)] (pc' := 57) (L' := [zR 34 0, zI l1, zI l2, zU, zI l2, zI 0, zI 0, zU]) (S' := []) (σ' := σ) (Ps := []) (by decide +kernel) rfl trivial ?_
    exact Runs.fg (fgE (fgE (fgU (fgU (fgE (fgE (fgE (fgU fg0)))))))) h
  · replace h := h.2 c
    refine r_blk [qO (.aload_n 0), qF (.getfield 47) 11 20, qO (.iload 4), qO (.aload_n 0), qO (.iload 4), qO (.iconst 2)] (pc' := 38) (L' := [zR 34 0, zI l1, zI l2, zU, zI l4, zU, zU, zU]) (S' := [zI 2, zI l4, zR 34 0, zI l4, zR 47 0]) (σ' := σ) (Ps := []) (by decide +kernel) rfl trivial ?_
    refine r_callVI (As := [zI l4, zI 2]) (S := [zI l4, zR 47 0]) (Lc := [zR 34 0, zI l4, zI 2]) (d' := 0) (n := 2) (g := 34) (x := 0) (ci := 11) kX11_of vX11_of lkX11_113 (by decide +kernel) (by decide) rfl rfl (by decide) rfl rfl (Nat.le_of_ble_eq_true rfl) rfl rfl (Nat.le_of_ble_eq_true rfl) (pX11_of h.1 (by decide) ?_)
    replace h := h.2
    refine r_blk [qO .iastore, qO (.iinc 4 1), qO (.goto (-24))] (pc' := 21) (L' := [zR 34 0, zI l1, zI l2, zU, zI (l4 + 1), zU, zU, zU]) (S' := []) (σ' := (zup σ 47 0 l4.toNat (se (σ 36 0) l4 2))) (Ps := [0 ≤ l4 ∧ l4 < 8, -2147483648 ≤ l4 + 1 ∧ l4 + 1 ≤ 2147483647]) (by decide +kernel) rfl ⟨h.1, h.2.1, trivial⟩ ?_
    replace h := h.2.2
    exact Runs.fg (fgE (fgE (fgE (fgU (fgE (fgU (fgU (fgU fg0)))))))) h
theorem gX11_days_57 (l1 : Int) (l4 : Int) (l5 : Int) (l6 : Int) (σ : Hp) {Q : Option Int → Hp → Prop} (h : ((l1 ≤ l6 → Runs 6 mX11_days 138 [zR 34 0, zU, zU, zU, zU, zI l5, zI 0, zU] [] σ Q) ∧ (¬ l1 ≤ l6 → Runs 6 mX11_days 66 [zR 34 0, zI l1, zU, zU, zI l4, zI l5, zI l6, zI 0] [] σ Q))) : Runs 6 mX11_days 57 [zR 34 0, zI l1, zU, zU, zI l4, zI l5, zI l6, zU] [] σ Q := by
  refine r_blk [qO (.iload 6), qO (.iload_n 1)] (pc' := 60) (L' := [zR 34 0, zI l1, zU, zU, zI l4, zI l5, zI l6, zU]) (S' := [zI l1, zI l6]) (σ' := σ) (Ps := []) (by decide +kernel) rfl trivial ?_
  refine r_icmp_ge (off := 75) (tgt := 135) (by decide +kernel) (by decide) (fun c => ?_) (fun c => ?_)
  · replace h := h.1 c
    refine r_blk [qO (.iconst 0), qO (.istore 6)] (pc' := 138) (L' := [zR 34 0, zI l1, zU, zU, zI l4, zI l5, zI 0, zU]) (S' := []) (σ' := σ) (Ps := []) (by decide +kernel) rfl trivial ?_
    exact Runs.fg (fgE (fgU (fgU (fgU (fgU (fgE (fgE (fgU fg0)))))))) h
  · replace h := h.2 c
    refine r_blk [qO (.iconst 0), qO (.istore 7)] (pc' := 66) (L' := [zR 34 0, zI l1, zU, zU, zI l4, zI l5, zI l6, zI 0]) (S' := []) (σ' := σ) (Ps := []) (by decide +kernel) rfl trivial ?_
    exact Runs.fg (fgE (fgE (fgU (fgU (fgE (fgE (fgE (fgE fg0)))))))) h
theorem gX11_days_66 (l1 : Int) (l4 : Int) (l5 : Int) (l6 : Int) (l7 : Int) (σ : Hp) {Q : Option Int → Hp → Prop} (h : ((σ 36 0 2 ≤ l7 → Runs 5 mX11_costOf 0 [zR 34 0, zU, zU, zU] [] σ (rI (fun z2 σ1 => (-2147483648 ≤ l5 + z2 ∧ l5 + z2 ≤ 2147483647) ∧ (-2147483648 ≤ l6 + 1 ∧ l6 + 1 ≤ 2147483647) ∧ Runs 6 mX11_days 57 [zR 34 0, zI l1, zU, zU, zI l4, zI (l5 + z2), zI (l6 + 1), zU] [] σ1 Q))) ∧ (¬ σ 36 0 2 ≤ l7 → (-2147483648 ≤ 4 * l7 ∧ 4 * l7 ≤ 2147483647) ∧ (-2147483648 ≤ 81 + (4 * l7) ∧ 81 + (4 * l7) ≤ 2147483647) ∧ (-2147483648 ≤ (81 + (4 * l7)) + 2 ∧ (81 + (4 * l7)) + 2 ≤ 2147483647) ∧ (0 ≤ (81 + (4 * l7)) + 2 ∧ (81 + (4 * l7)) + 2 < 123) ∧ (-2147483648 ≤ l7 + 1 ∧ l7 + 1 ≤ 2147483647) ∧ ∀ σ3 : Hp, σ3 = (zup σ 36 0 (((81 + (4 * l7)) + 2).toNat) (zrem (zdiv (zand (wrap ((wrap (l4 * 1664525)) + 1013904223)) 2147483647) 256) 1440)) → Runs 6 mX11_days 66 [zR 34 0, zI l1, zU, zU, zI (wrap ((wrap (l4 * 1664525)) + 1013904223)), zI l5, zI l6, zI (l7 + 1)] [] σ3 Q))) : Runs 6 mX11_days 66 [zR 34 0, zI l1, zU, zU, zI l4, zI l5, zI l6, zI l7] [] σ Q := by
  refine r_blk [qO (.iload 7), qO (.aload_n 0), qF (.getfield 13) 11 1, qO (.iconst 2), qO .iaload] (pc' := 74) (L' := [zR 34 0, zI l1, zU, zU, zI l4, zI l5, zI l6, zI l7]) (S' := [zI (σ 36 0 2), zI l7]) (σ' := σ) (Ps := [0 ≤ 2 ∧ 2 < 123]) (by decide +kernel) rfl ⟨(by decide), trivial⟩ ?_
  refine r_icmp_ge (off := 46) (tgt := 120) (by decide +kernel) (by decide) (fun c => ?_) (fun c => ?_)
  · replace h := h.1 c
    refine r_blk [qO (.iload 5), qO (.aload_n 0)] (pc' := 123) (L' := [zR 34 0, zI l1, zU, zU, zI l4, zI l5, zI l6, zI l7]) (S' := [zR 34 0, zI l5]) (σ' := σ) (Ps := []) (by decide +kernel) rfl trivial ?_
    refine r_callVI (As := []) (S := [zI l5]) (Lc := [zR 34 0, zU, zU, zU]) (d' := 5) (n := 0) (g := 34) (x := 0) (ci := 11) kX11_costOf vX11_costOf lkX11_187 (by decide +kernel) (by decide) rfl rfl (by decide) rfl rfl (Nat.le_of_ble_eq_true rfl) rfl rfl (Nat.le_of_ble_eq_true rfl) (h.monoI (fun z2 σ1 h => ?_))
    refine r_blk [qO .iadd, qO (.istore 5), qO (.iinc 6 1), qO (.goto (-75))] (pc' := 57) (L' := [zR 34 0, zI l1, zU, zU, zI l4, zI (l5 + z2), zI (l6 + 1), zI l7]) (S' := []) (σ' := σ1) (Ps := [-2147483648 ≤ l5 + z2 ∧ l5 + z2 ≤ 2147483647, -2147483648 ≤ l6 + 1 ∧ l6 + 1 ≤ 2147483647]) (by decide +kernel) rfl ⟨h.1, h.2.1, trivial⟩ ?_
    replace h := h.2.2
    exact Runs.fg (fgE (fgE (fgU (fgU (fgE (fgE (fgE (fgU fg0)))))))) h
  · replace h := h.2 c
    refine r_blk [qO (.iload 4), qC (.ldc 215) 1664525, qC .imul 1, qC (.ldc 216) 1013904223, qC .iadd 1, qO (.istore 4), qO (.aload_n 0), qF (.getfield 13) 11 1, qO (.bipush 81), qO (.iconst 4), qO (.iload 7), qO .imul, qO .iadd, qO (.iconst 2), qO .iadd, qO (.iload 4), qC (.ldc 217) 2147483647, qO .iand, qO (.sipush 256), qO .idiv, qO (.sipush 1440), qO .irem, qO .iastore, qO (.iinc 7 1), qO (.goto (-51))] (pc' := 66) (L' := [zR 34 0, zI l1, zU, zU, zI (wrap ((wrap (l4 * 1664525)) + 1013904223)), zI l5, zI l6, zI (l7 + 1)]) (S' := []) (σ' := (zup σ 36 0 (((81 + (4 * l7)) + 2).toNat) (zrem (zdiv (zand (wrap ((wrap (l4 * 1664525)) + 1013904223)) 2147483647) 256) 1440))) (Ps := [-2147483648 ≤ 4 * l7 ∧ 4 * l7 ≤ 2147483647, -2147483648 ≤ 81 + (4 * l7) ∧ 81 + (4 * l7) ≤ 2147483647, -2147483648 ≤ (81 + (4 * l7)) + 2 ∧ (81 + (4 * l7)) + 2 ≤ 2147483647, 256 ≠ 0, 1440 ≠ 0, 0 ≤ (81 + (4 * l7)) + 2 ∧ (81 + (4 * l7)) + 2 < 123, -2147483648 ≤ l7 + 1 ∧ l7 + 1 ≤ 2147483647]) (by decide +kernel) rfl ⟨h.1, h.2.1, h.2.2.1, (by decide), (by decide), h.2.2.2.1, h.2.2.2.2.1, trivial⟩ ?_
    replace h := h.2.2.2.2.2
    generalize hσ3 : (zup σ 36 0 (((81 + (4 * l7)) + 2).toNat) (zrem (zdiv (zand (wrap ((wrap (l4 * 1664525)) + 1013904223)) 2147483647) 256) 1440)) = σ3
    replace h := h σ3 hσ3.symm
    exact Runs.fg (fgE (fgE (fgU (fgU (fgE (fgE (fgE (fgE fg0)))))))) h
theorem gX11_days_138 (l5 : Int) (l6 : Int) (σ : Hp) {Q : Option Int → Hp → Prop} (h : ((8 ≤ l6 → Q (some l5) σ) ∧ (¬ 8 ≤ l6 → (-2147483648 ≤ 4 * l6 ∧ 4 * l6 ≤ 2147483647) ∧ (-2147483648 ≤ 81 + (4 * l6) ∧ 81 + (4 * l6) ≤ 2147483647) ∧ (-2147483648 ≤ (81 + (4 * l6)) + 2 ∧ (81 + (4 * l6)) + 2 ≤ 2147483647) ∧ (0 ≤ l6 ∧ l6 < 8) ∧ (0 ≤ (81 + (4 * l6)) + 2 ∧ (81 + (4 * l6)) + 2 < 123) ∧ (-2147483648 ≤ l6 + 1 ∧ l6 + 1 ≤ 2147483647) ∧ Runs 6 mX11_days 138 [zR 34 0, zU, zU, zU, zU, zI l5, zI (l6 + 1), zU] [] (zup σ 36 0 (((81 + (4 * l6)) + 2).toNat) (σ 47 0 l6.toNat)) Q))) : Runs 6 mX11_days 138 [zR 34 0, zU, zU, zU, zU, zI l5, zI l6, zU] [] σ Q := by
  refine r_blk [qO (.iload 6), qO (.bipush 8)] (pc' := 142) (L' := [zR 34 0, zU, zU, zU, zU, zI l5, zI l6, zU]) (S' := [zI 8, zI l6]) (σ' := σ) (Ps := []) (by decide +kernel) rfl trivial ?_
  refine r_icmp_ge (off := 30) (tgt := 172) (by decide +kernel) (by decide) (fun c => ?_) (fun c => ?_)
  · replace h := h.1 c
    refine r_blk [qO (.iload 5)] (pc' := 174) (L' := [zR 34 0, zU, zU, zU, zU, zI l5, zI l6, zU]) (S' := [zI l5]) (σ' := σ) (Ps := []) (by decide +kernel) rfl trivial ?_
    exact r_ret (by decide +kernel) rfl (fun _ => h)
  · replace h := h.2 c
    refine r_blk [qO (.aload_n 0), qF (.getfield 13) 11 1, qO (.bipush 81), qO (.iconst 4), qO (.iload 6), qO .imul, qO .iadd, qO (.iconst 2), qO .iadd, qO (.aload_n 0), qF (.getfield 47) 11 20, qO (.iload 6), qO .iaload, qO .iastore, qO (.iinc 6 1), qO (.goto (-31))] (pc' := 138) (L' := [zR 34 0, zU, zU, zU, zU, zI l5, zI (l6 + 1), zU]) (S' := []) (σ' := (zup σ 36 0 (((81 + (4 * l6)) + 2).toNat) (σ 47 0 l6.toNat))) (Ps := [-2147483648 ≤ 4 * l6 ∧ 4 * l6 ≤ 2147483647, -2147483648 ≤ 81 + (4 * l6) ∧ 81 + (4 * l6) ≤ 2147483647, -2147483648 ≤ (81 + (4 * l6)) + 2 ∧ (81 + (4 * l6)) + 2 ≤ 2147483647, 0 ≤ l6 ∧ l6 < 8, 0 ≤ (81 + (4 * l6)) + 2 ∧ (81 + (4 * l6)) + 2 < 123, -2147483648 ≤ l6 + 1 ∧ l6 + 1 ≤ 2147483647]) (by decide +kernel) rfl ⟨h.1, h.2.1, h.2.2.1, h.2.2.2.1, h.2.2.2.2.1, h.2.2.2.2.2.1, trivial⟩ ?_
    replace h := h.2.2.2.2.2.2
    exact Runs.fg (fgE (fgU (fgU (fgU (fgU (fgE (fgE (fgU fg0)))))))) h
end
section
/-! days by seeds -/
theorem zand_mask (a : Int) : 0 ≤ zand a 2147483647 ∧ zand a 2147483647 ≤ 2147483647 := by
  unfold zand
  have h : (n32 a &&& n32 2147483647).toBitVec.toNat ≤ 2147483647 := by
    show ((n32 a).toBitVec &&& (n32 2147483647).toBitVec).toNat ≤ _
    rw [BitVec.toNat_and]
    exact Nat.le_trans Nat.and_le_right (by decide)
  show 0 ≤ (n32 a &&& n32 2147483647).toBitVec.toInt ∧ _
  have e : (n32 a &&& n32 2147483647).toInt = ((n32 a &&& n32 2147483647).toBitVec.toNat : Int) := by
    show (n32 a &&& n32 2147483647).toBitVec.toInt = _
    exact BitVec.toInt_eq_toNat_of_lt (by omega)
  have e2 : (n32 a &&& n32 2147483647).toBitVec.toInt = ((n32 a &&& n32 2147483647).toBitVec.toNat : Int) := e
  rw [e, e2]
  omega
theorem zdraw_b (z : Int) : 0 ≤ zdraw z ∧ zdraw z ≤ 1439 := by
  unfold zdraw
  have h := zand_mask (zlcg z)
  have hd : zdiv (zand (zlcg z) 2147483647) 256 = zand (zlcg z) 2147483647 / 256 := n32_quot ⟨by omega, by omega⟩ ⟨by omega, by omega⟩ h.1 (by omega)
  rw [hd]
  have hr : zrem (zand (zlcg z) 2147483647 / 256) 1440 = zand (zlcg z) 2147483647 / 256 % 1440 := zrem_eq ⟨by omega, by omega⟩ ⟨by omega, by omega⟩ (by omega) (by omega)
  rw [hr]
  omega
def lcgN (z : Int) : Nat → Int
  | 0 => z
  | n + 1 => zlcg (lcgN z n)
noncomputable def dayM (s : Nat → Int) (z : Int) : Int := costG s (fun e => se s e 0) (fun e => zdraw (lcgN z e)) (s 2).toNat
def sdK (s : Nat → Int) (z : Int) : Nat → Int
  | 0 => z
  | k + 1 => lcgN (sdK s z k) (s 2).toNat
noncomputable def dsum (s : Nat → Int) (z : Int) : Nat → Int
  | 0 => 0
  | k + 1 => dsum s z k + dayM s (sdK s z k)
theorem day_hx {s : Nat → Int} (hw : WF s) (z : Int) : ∀ e : Nat, (e : Int) < s 2 → (0 ≤ (fun e : Nat => se s e 0) e ∧ (fun e : Nat => se s e 0) e < s 0) ∧ (0 ≤ (fun e : Nat => zdraw (lcgN z e)) e ∧ (fun e : Nat => zdraw (lcgN z e)) e ≤ 2879) := fun e he => by
  obtain ⟨e0, e1, e2, e3⟩ := er_of hw (e := (e : Int)) (by omega)
  have := zdraw_b (lcgN z e)
  exact ⟨e0, by show 0 ≤ zdraw (lcgN z e); omega, by show zdraw (lcgN z e) ≤ 2879; omega⟩
theorem dayM_b {s : Nat → Int} (hw : WF s) (z : Int) : 0 ≤ dayM s z ∧ dayM s z ≤ 216000 := by
  have w2 := hw.2.2.1
  have := costG_b hw (F := fun e => se s e 0) (A := fun e => zdraw (lcgN z e)) (s 2).toNat (by omega) (fun e he => day_hx hw z e (by omega))
  unfold dayM
  omega
theorem dsum_b {s : Nat → Int} (hw : WF s) (z : Int) : ∀ k : Nat, 0 ≤ dsum s z k ∧ dsum s z k ≤ 216000 * k
  | 0 => by unfold dsum; omega
  | k + 1 => by
    have ih := dsum_b hw z k
    have b := dayM_b hw (sdK s z k)
    unfold dsum
    omega
theorem qX1_totalOfDays {σ : Hp} {K : Int → Hp → Prop} {s : Nat → Int} (hw : WF s) (ht : TRc σ s) (hm : TMs σ s) (he : TMe σ s) {nd : Nat} (hnd : nd ≤ 10) {z : Int} (h : ∀ σ', Off [16, 17, 18, 25] σ σ' → K (dsum s z nd) σ') : Runs 5 mX1_totalOfDays 0 [zR 25 0, zI (nd : Int), zI z, zU, zU, zU] [] σ (rI K) := by
  have w0 := hw.1
  have w2 := hw.2.2.1
  have outer : ∀ (n k : Nat) (σ1 : Hp), k + n = nd → Off [16, 17, 18, 25] σ σ1 → TRc σ1 s → σ1 25 0 2 = sdK s z k → Runs 5 mX1_totalOfDays 10 [zR 25 0, zI (nd : Int), zU, zI (dsum s z k), zI (k : Int), zU] [] σ1 (rI K) := by
    intro n
    induction n with
    | zero =>
      intro k σ1 hk ho ht1 hz
      refine gX1_totalOfDays_10 (nd : Int) _ (k : Int) σ1 ⟨fun _ => ?_, fun q => absurd (show (nd : Int) ≤ k by omega) q⟩
      rw [show k = nd by omega]
      exact h σ1 ho
    | succ n ih =>
      intro k σ1 hk ho ht1 hz
      have db := dsum_b hw z k
      refine gX1_totalOfDays_10 (nd : Int) _ (k : Int) σ1 ⟨fun q => absurd q (by omega), fun _ => ?_⟩
      have inner : ∀ (m e : Nat) (σ2 : Hp), (s 2 - e).toNat ≤ m → (e : Int) ≤ s 2 → Off [16, 17, 18, 25] σ σ2 → TRc σ2 s → σ2 25 0 2 = lcgN (sdK s z k) e → Runs 5 mX1_totalOfDays 19 [zR 25 0, zI (nd : Int), zU, zI (dsum s z k + costG s (fun e => se s e 0) (fun e => zdraw (lcgN (sdK s z k) e)) e), zI (k : Int), zI (e : Int)] [] σ2 (rI K) := by
        intro m
        have fin : ∀ (e : Nat) (σ2 : Hp), (e : Int) = s 2 → Off [16, 17, 18, 25] σ σ2 → TRc σ2 s → σ2 25 0 2 = lcgN (sdK s z k) e → Runs 5 mX1_totalOfDays 19 [zR 25 0, zI (nd : Int), zU, zI (dsum s z k + costG s (fun e => se s e 0) (fun e => zdraw (lcgN (sdK s z k) e)) e), zI (k : Int), zI (e : Int)] [] σ2 (rI K) := fun e σ2 hes ho2 ht2 hz2 => by
          have e1 : σ2 1 0 2 = s 2 := by rw [ho2 1 (by decide)]; exact he.1
          refine gX1_totalOfDays_19 (nd : Int) _ (k : Int) (e : Int) σ2 ⟨fun _ => ⟨by omega, ?_⟩, fun q => absurd (show σ2 1 0 2 ≤ (e : Int) by omega) q⟩
          have ee : e = (s 2).toNat := by omega
          have := ih (k + 1) σ2 (by omega) ho2 ht2 (by rw [hz2, ee]; rfl)
          rw [ee]
          exact this
        induction m with
        | zero => intro e σ2 hm' hes ho2 ht2 hz2; exact fin e σ2 (by omega) ho2 ht2 hz2
        | succ m ih2 =>
          intro e σ2 hm' hes ho2 ht2 hz2
          by_cases hq : (e : Int) = s 2
          · exact fin e σ2 hq ho2 ht2 hz2
          · have e1 : σ2 1 0 2 = s 2 := by rw [ho2 1 (by decide)]; exact he.1
            have hx := day_hx hw (sdK s z k)
            have cb := costG_b hw (F := fun e => se s e 0) (A := fun e => zdraw (lcgN (sdK s z k) e)) e hes (fun e' he' => hx e' (by omega))
            have sb := costG_step hw (F := fun e => se s e 0) (A := fun e => zdraw (lcgN (sdK s z k) e)) (n := e) (by omega) (hx e (by omega))
            obtain ⟨a0, a1, a2, a3⟩ := er_of hw (e := (e : Int)) (by omega)
            obtain ⟨t6, t7, t8, t9⟩ := he.2 (e : Int) (by omega) (by omega)
            rw [← show σ2 6 = σ 6 from ho2 6 (by decide)] at t6
            rw [← show σ2 7 = σ 7 from ho2 7 (by decide)] at t7
            rw [← show σ2 9 = σ 9 from ho2 9 (by decide)] at t9
            refine gX1_totalOfDays_19 (nd : Int) _ (k : Int) (e : Int) σ2 ⟨fun q => absurd q (by omega), fun _ => ⟨by omega, by omega, by omega, fun σ3 e3 => ?_⟩⟩
            subst e3
            rw [t6, t7, t9, hz2]
            have o3 : Off [16, 17, 18, 25] σ (zup σ2 25 0 2 (zlcg (lcgN (sdK s z k) e))) := ho2.up (by decide)
            have ht3 : TRc (zup σ2 25 0 2 (zlcg (lcgN (sdK s z k) e))) s := ht2.keep (fun j _ => by rw [show (zup σ2 25 0 2 (zlcg (lcgN (sdK s z k) e))) 16 0 = σ2 16 0 from zup_ne (fun y => by cases y)])
            have dr := zdraw_b (lcgN (sdK s z k) e)
            refine qX1_minutesOf hw ht3 (hm.keep o3 (by decide) (by decide) (by decide) (by decide)) a0 a1 (by omega) (fun σ4 k4 => ?_)
            have next : costG s (fun e => se s e 0) (fun e => zdraw (lcgN (sdK s z k) e)) (e + 1) = costG s (fun e => se s e 0) (fun e => zdraw (lcgN (sdK s z k) e)) e + se s e 3 * mins s (se s e 0).toNat (se s e 1).toNat (zdraw (lcgN (sdK s z k) e)) := rfl
            have sb' : 0 ≤ se s e 3 * mins s (se s e 0).toNat (se s e 1).toNat (zdraw (lcgN (sdK s z k) e)) ∧ se s e 3 * mins s (se s e 0).toNat (se s e 1).toNat (zdraw (lcgN (sdK s z k) e)) ≤ 27000 := sb
            refine ⟨by omega, by omega, by omega, ?_⟩
            rw [Int.add_assoc, ← next]
            refine ih2 (e + 1) σ4 (by omega) (by omega) (o3.tr (k4.1.mono (by decide))) (ht3.keep k4.2) ?_
            rw [k4.1 25 (by decide)]
            simp [zup]
            rfl
      have := inner (s 2).toNat 0 σ1 (by omega) (by omega) ho ht1 hz
      rw [show costG s (fun e => se s e 0) (fun e => zdraw (lcgN (sdK s z k) e)) 0 = 0 from rfl, Int.add_zero] at this
      exact this
  refine gX1_totalOfDays_0 (nd : Int) z σ (outer nd 0 _ (by omega) (Off.rf.up (by decide)) (ht.keep (fun j _ => by rw [show (zup σ 25 0 2 z) 16 0 = σ 16 0 from zup_ne (fun y => by cases y)])) (by simp [zup]; rfl))
end
section
/-! the reference's days -/
def AgA (s s1 : Nat → Int) : Prop := ∀ j, (∀ e : Nat, e < 8 → j ≠ 83 + 4 * e) → s1 j = s j
theorem AgA.up {s : Nat → Int} {σ1 : Hp} {e : Nat} {v : Int} (h : AgA s (σ1 36 0)) (he : e < 8) : AgA s ((zup σ1 36 0 (83 + 4 * e) v) 36 0) := fun j hj => by
  rw [zup_su, su_ne (hj e he)]
  exact h j hj
theorem AgA.wf {s s1 : Nat → Int} (hw : WF s) (h : AgA s s1) {f : Nat → Int} (hc : ∀ e, 0 ≤ f e ∧ f e ≤ 1439) (hf : ∀ e : Nat, (e : Int) < s 2 → s1 (83 + 4 * e) = f e) : WF s1 := by
  obtain ⟨w0, w1, w2, w3, w4, w5, w6, w7, w8, w9, w10, wst, wer, wrow⟩ := hw
  have lo : ∀ j, j < 81 → s1 j = s j := fun j hj => h j (fun e he => by omega)
  have gg : ∀ t k, 0 ≤ t → t < s 1 → 0 ≤ k → k < 5 → sg s1 t k = sg s t k := fun t k a b c d => lo _ (by omega)
  refine ⟨by rw [lo 0 (by omega)]; exact w0, by rw [lo 1 (by omega)]; exact w1, by rw [lo 2 (by omega)]; exact w2, by rw [lo 3 (by omega)]; exact w3, by rw [lo 4 (by omega)]; exact w4, by rw [lo 5 (by omega)]; exact w5, by rw [lo 6 (by omega)]; exact w6, by rw [lo 7 (by omega)]; exact w7, by rw [lo 8 (by omega)]; exact w8, by rw [lo 9 (by omega)]; exact w9, by rw [lo 10 (by omega)]; exact w10, fun t h0 h1 => ?_, fun e h0 h1 => ?_, fun i hi => ?_⟩
  · rw [lo 1 (by omega)] at h1
    have := wst t h0 h1
    unfold stOK at *
    rw [gg t 0 h0 h1 (by omega) (by omega), gg t 1 h0 h1 (by omega) (by omega), gg t 2 h0 h1 (by omega) (by omega), gg t 3 h0 h1 (by omega) (by omega), gg t 4 h0 h1 (by omega) (by omega), lo 0 (by omega)]
    exact this
  · rw [lo 2 (by omega)] at h1
    have := wer e h0 h1
    unfold erOK at *
    have e2 : se s1 e 2 = f e.toNat := by
      have := hf e.toNat (by omega)
      unfold se
      rw [show (81 + 4 * e + 2).toNat = 83 + 4 * e.toNat by omega]
      exact this
    have e0 : se s1 e 0 = se s e 0 := h _ (fun e' he' => by omega)
    have e1 : se s1 e 1 = se s e 1 := h _ (fun e' he' => by omega)
    have e3 : se s1 e 3 = se s e 3 := h _ (fun e' he' => by omega)
    have := hc e.toNat
    rw [e0, e1, e2, e3, lo 0 (by omega)]
    omega
  · rw [lo 6 (by omega)] at hi
    rw [h _ (fun e he => by omega)]
    exact wrow i hi
theorem AgA.cost {s s1 : Nat → Int} (hw : WF s) (h : AgA s s1) {z : Int} (hf : ∀ e : Nat, (e : Int) < s 2 → s1 (83 + 4 * e) = zdraw (lcgN z e)) : costM s1 = dayM s z := by
  have w1 := hw.2.1
  have w2 := hw.2.2.1
  have lo : ∀ j, j < 81 → s1 j = s j := fun j hj => h j (fun e he => by omega)
  unfold costM dayM
  rw [lo 2 (by omega)]
  refine costG_of (by omega) lo (s 2).toNat (fun e he => ⟨?_, ?_, ?_, ?_⟩)
  · exact h _ (fun e' he' => by omega)
  · exact h _ (fun e' he' => by omega)
  · unfold se
    rw [show (81 + 4 * (e : Int) + 2).toNat = 83 + 4 * e by omega]
    exact hf e (by omega)
  · exact h _ (fun e' he' => by omega)
theorem qX11_days {σ : Hp} {K : Int → Hp → Prop} {s : Nat → Int} (hs : σ 36 0 = s) (hw : WF s) {nd : Nat} (hnd : nd ≤ 10) {z : Int} (h : ∀ σ', Off [36, 41, 42, 47] σ σ' → (∀ j, σ' 36 0 j = s j) → K (dsum s z nd) σ') : Runs 6 mX11_days 21 [zR 34 0, zI (nd : Int), zI z, zU, zI 0, zU, zU, zU] [] σ (rI K) := by
  have w0 := hw.1
  have w2 := hw.2.2.1
  have back : ∀ (n e : Nat) (σ1 : Hp), e + n = 8 → Off [36, 41, 42, 47] σ σ1 → (∀ e' : Nat, e' < 8 → σ1 47 0 e' = s (83 + 4 * e')) → AgA s (σ1 36 0) → (∀ e' : Nat, e' < e → σ1 36 0 (83 + 4 * e') = s (83 + 4 * e')) → Runs 6 mX11_days 138 [zR 34 0, zU, zU, zU, zU, zI (dsum s z nd), zI (e : Int), zU] [] σ1 (rI K) := by
    intro n
    induction n with
    | zero =>
      intro e σ1 he ho hk ha hb
      refine gX11_days_138 (dsum s z nd) (e : Int) σ1 ⟨fun _ => h σ1 ho (fun j => ?_), fun q => absurd (show (8 : Int) ≤ e by omega) q⟩
      by_cases q : ∃ e' : Nat, e' < 8 ∧ j = 83 + 4 * e'
      · obtain ⟨e', h1, h2⟩ := q
        rw [h2]
        exact hb e' (by omega)
      · exact ha j (fun e' h1 h2 => q ⟨e', h1, h2⟩)
    | succ n ih =>
      intro e σ1 he ho hk ha hb
      have ix : (81 + 4 * (e : Int) + 2).toNat = 83 + 4 * e := by omega
      refine gX11_days_138 (dsum s z nd) (e : Int) σ1 ⟨fun q => absurd q (by omega), fun _ => ?_⟩
      rw [ix]
      simp only [Int.toNat_natCast]
      refine ⟨by omega, by omega, by omega, by omega, by omega, by omega, ?_⟩
      refine ih (e + 1) _ (by omega) (ho.up (by decide)) (fun e' he' => ?_) (ha.up (by omega)) (fun e' he' => ?_)
      · rw [show (zup σ1 36 0 (83 + 4 * e) (σ1 47 0 e)) 47 0 = σ1 47 0 from zup_ne (fun z => by cases z)]
        exact hk e' he'
      · rw [zup_su]
        by_cases q : e' = e
        · subst q; rw [su_eq]; exact hk e' (by omega)
        · rw [su_ne (by omega)]; exact hb e' (by omega)
  have outer : ∀ (n k : Nat) (σ1 : Hp), k + n = nd → Off [36, 41, 42, 47] σ σ1 → (∀ e' : Nat, e' < 8 → σ1 47 0 e' = s (83 + 4 * e')) → AgA s (σ1 36 0) → Runs 6 mX11_days 57 [zR 34 0, zI (nd : Int), zU, zU, zI (sdK s z k), zI (dsum s z k), zI (k : Int), zU] [] σ1 (rI K) := by
    intro n
    induction n with
    | zero =>
      intro k σ1 hn ho hk ha
      have ek : k = nd := by omega
      subst ek
      exact gX11_days_57 _ _ _ _ σ1 ⟨fun _ => back 8 0 σ1 rfl ho hk ha (fun e' he' => absurd he' (by omega)), fun q => absurd (show (k : Int) ≤ (k : Int) by omega) q⟩
    | succ n ih =>
      intro k σ1 hn ho hk ha
      refine gX11_days_57 _ _ _ _ σ1 ⟨fun q => absurd q (by omega), fun _ => ?_⟩
      have inner : ∀ (m e : Nat) (σ2 : Hp), (s 2 - e).toNat ≤ m → (e : Int) ≤ s 2 → Off [36, 41, 42, 47] σ σ2 → (∀ e' : Nat, e' < 8 → σ2 47 0 e' = s (83 + 4 * e')) → AgA s (σ2 36 0) → (∀ e' : Nat, e' < e → σ2 36 0 (83 + 4 * e') = zdraw (lcgN (sdK s z k) e')) → Runs 6 mX11_days 66 [zR 34 0, zI (nd : Int), zU, zU, zI (lcgN (sdK s z k) e), zI (dsum s z k), zI (k : Int), zI (e : Int)] [] σ2 (rI K) := by
        intro m
        have fin2 : ∀ (e : Nat) (σ2 : Hp), (e : Int) = s 2 → Off [36, 41, 42, 47] σ σ2 → (∀ e' : Nat, e' < 8 → σ2 47 0 e' = s (83 + 4 * e')) → AgA s (σ2 36 0) → (∀ e' : Nat, e' < e → σ2 36 0 (83 + 4 * e') = zdraw (lcgN (sdK s z k) e')) → Runs 6 mX11_days 66 [zR 34 0, zI (nd : Int), zU, zU, zI (lcgN (sdK s z k) e), zI (dsum s z k), zI (k : Int), zI (e : Int)] [] σ2 (rI K) := fun e σ2 hes ho2 hk2 ha2 hb2 => by
          have e2 : σ2 36 0 2 = s 2 := ha2 2 (fun e he => by omega)
          have hf : ∀ e' : Nat, (e' : Int) < s 2 → σ2 36 0 (83 + 4 * e') = zdraw (lcgN (sdK s z k) e') := fun e' he' => hb2 e' (by omega)
          refine gX11_days_66 _ _ _ _ _ σ2 ⟨fun _ => ?_, fun q => absurd (show σ2 36 0 2 ≤ (e : Int) by omega) q⟩
          refine qX11_costOf (ha2.wf hw (fun e => zdraw_b _) hf) (fun σ3 o3 => ?_)
          rw [ha2.cost hw hf]
          have b1 := dsum_b hw z k
          have b2 := dayM_b hw (sdK s z k)
          refine ⟨by omega, by omega, ?_⟩
          rw [show e = (s 2).toNat by omega]
          exact ih (k + 1) σ3 (by omega) (ho2.tr (o3.mono (by decide))) (fun e' he' => by rw [o3 47 (by decide)]; exact hk2 e' he') (by rw [o3 36 (by decide)]; exact ha2)
        induction m with
        | zero => intro e σ2 hk' hes ho2 hk2 ha2 hb2; exact fin2 e σ2 (by omega) ho2 hk2 ha2 hb2
        | succ m ih2 =>
          intro e σ2 hk' hes ho2 hk2 ha2 hb2
          by_cases hq : (e : Int) = s 2
          · exact fin2 e σ2 hq ho2 hk2 ha2 hb2
          · have e2 : σ2 36 0 2 = s 2 := ha2 2 (fun e he => by omega)
            have ix : (81 + 4 * (e : Int) + 2).toNat = 83 + 4 * e := by omega
            refine gX11_days_66 _ _ _ _ _ σ2 ⟨fun q => absurd q (by omega), fun _ => ?_⟩
            rw [ix]
            refine ⟨by omega, by omega, by omega, by omega, by omega, fun σ3 e3 => ?_⟩
            subst e3
            refine ih2 (e + 1) _ (by omega) (by omega) (ho2.up (by decide)) (fun e' he' => ?_) (ha2.up (by omega)) (fun e' he' => ?_)
            · rw [show (zup σ2 36 0 (83 + 4 * e) (zrem (zdiv (zand (wrap ((wrap (lcgN (sdK s z k) e * 1664525)) + 1013904223)) 2147483647) 256) 1440)) 47 0 = σ2 47 0 from zup_ne (fun z => by cases z)]
              exact hk2 e' he'
            · rw [zup_su]
              by_cases q : e' = e
              · subst q; rw [su_eq]; rfl
              · rw [su_ne (by omega)]; exact hb2 e' (by omega)
      exact inner (s 2).toNat 0 σ1 (by omega) (by omega) ho hk ha (fun e' he' => absurd he' (by omega))
  have first : ∀ (n e : Nat) (σ1 : Hp), e + n = 8 → Off [47] σ σ1 → (∀ e' : Nat, e' < e → σ1 47 0 e' = s (83 + 4 * e')) → Runs 6 mX11_days 21 [zR 34 0, zI (nd : Int), zI z, zU, zI (e : Int), zU, zU, zU] [] σ1 (rI K) := by
    intro n
    induction n with
    | zero =>
      intro e σ1 he ho hk
      have h36 : σ1 36 0 = s := by rw [ho 36 (by decide)]; exact hs
      exact gX11_days_21 _ _ (e : Int) σ1 ⟨fun _ => outer nd 0 σ1 (by omega) (ho.mono (by decide)) (fun e' he' => hk e' (by omega)) (fun j _ => by rw [h36]), fun q => absurd (show (8 : Int) ≤ e by omega) q⟩
    | succ n ih =>
      intro e σ1 he ho hk
      have h36 : σ1 36 0 = s := by rw [ho 36 (by decide)]; exact hs
      refine gX11_days_21 _ _ (e : Int) σ1 ⟨fun q => absurd q (by omega), fun _ => ⟨by omega, by omega, by omega, ?_⟩⟩
      simp only [Int.toNat_natCast]
      refine ih (e + 1) _ (by omega) (ho.up (by decide)) (fun e' he' => ?_)
      by_cases q : e' = e
      · subst q
        rw [h36]
        have : se s (e' : Int) 2 = s (83 + 4 * e') := by unfold se; rw [show (81 + 4 * (e' : Int) + 2).toNat = 83 + 4 * e' by omega]
        simp [zup, this]
      · simp [zup, q]
        exact hk e' (by omega)
  exact first 8 0 σ rfl Off.rf (fun e' he' => absurd he' (by omega))
end
section
theorem gX11_bits_0 (a0 : Int) (σ : Hp) {Q : Option Int → Hp → Prop} (h : Runs 0 mX11_bits 4 [zU, zI 0, zI a0] [] σ Q) : Runs 0 mX11_bits 0 [zI a0, zU, zU] [] σ Q := by
  refine r_blk [qO (.iconst 0), qO (.istore_n 1), qO (.iload_n 0), qO (.istore_n 2)] (pc' := 4) (L' := [zI a0, zI 0, zI a0]) (S' := []) (σ' := σ) (Ps := []) (by decide +kernel) rfl trivial ?_
  exact Runs.fg (fgU (fgE (fgE fg0))) h
theorem gX11_bits_4 (l1 : Int) (l2 : Int) (σ : Hp) {Q : Option Int → Hp → Prop} (h : ((l2 ≤ 0 → Q (some l1) σ) ∧ (¬ l2 ≤ 0 → (-2147483648 ≤ l1 + (zand l2 1) ∧ l1 + (zand l2 1) ≤ 2147483647) ∧ Runs 0 mX11_bits 4 [zU, zI (l1 + (zand l2 1)), zI (zshr l2 1)] [] σ Q))) : Runs 0 mX11_bits 4 [zU, zI l1, zI l2] [] σ Q := by
  refine r_blk [qO (.iload_n 2)] (pc' := 5) (L' := [zU, zI l1, zI l2]) (S' := [zI l2]) (σ' := σ) (Ps := []) (by decide +kernel) rfl trivial ?_
  refine r_if_le (off := 16) (tgt := 21) (by decide +kernel) (by decide) (fun c => ?_) (fun c => ?_)
  · replace h := h.1 c
    refine r_blk [qO (.iload_n 1)] (pc' := 22) (L' := [zU, zI l1, zI l2]) (S' := [zI l1]) (σ' := σ) (Ps := []) (by decide +kernel) rfl trivial ?_
    exact r_ret (by decide +kernel) rfl (fun _ => h)
  · replace h := h.2 c
    refine r_blk [qO (.iload_n 1), qO (.iload_n 2), qO (.iconst 1), qO .iand, qO .iadd, qO (.istore_n 1), qO (.iload_n 2), qO (.iconst 1), qO .ishr, qO (.istore_n 2), qO (.goto (-14))] (pc' := 4) (L' := [zU, zI (l1 + (zand l2 1)), zI (zshr l2 1)]) (S' := []) (σ' := σ) (Ps := [-2147483648 ≤ l1 + (zand l2 1) ∧ l1 + (zand l2 1) ≤ 2147483647]) (by decide +kernel) rfl ⟨h.1, trivial⟩ ?_
    replace h := h.2
    exact Runs.fg (fgU (fgE (fgE fg0))) h
theorem gX11_bothWays_0 (a0 : Int) (σ : Hp) {Q : Option Int → Hp → Prop} (h : ((0 ≤ a0 → ((σ 36 0 1 ≤ 10 → Runs 6 mX11_bothWays 43 [zR 34 0, zI a0, zU, zI (-9), zI 0] [] σ Q) ∧ (¬ σ 36 0 1 ≤ 10 → (-6 ≤ (-6) ∧ (-6) ≤ -1) ∧ (σ 35 0 (-(-6)).toNat ≤ 2147483646) ∧ ∀ σ1 : Hp, σ1 = zup σ 35 0 (-(-6)).toNat (σ 35 0 (-(-6)).toNat + 1) → Q (some (-6)) σ1))) ∧ (¬ 0 ≤ a0 → (-6 ≤ (-4) ∧ (-4) ≤ -1) ∧ (σ 35 0 (-(-4)).toNat ≤ 2147483646) ∧ ∀ σ2 : Hp, σ2 = zup σ 35 0 (-(-4)).toNat (σ 35 0 (-(-4)).toNat + 1) → Q (some (-4)) σ2))) : Runs 6 mX11_bothWays 0 [zR 34 0, zI a0, zU, zU, zU] [] σ Q := by
  refine r_blk [qO (.iload_n 1)] (pc' := 1) (L' := [zR 34 0, zI a0, zU, zU, zU]) (S' := [zI a0]) (σ' := σ) (Ps := []) (by decide +kernel) rfl trivial ?_
  refine r_if_ge (off := 8) (tgt := 9) (by decide +kernel) (by decide) (fun c => ?_) (fun c => ?_)
  · replace h := h.1 c
    refine r_blk [qO (.aload_n 0), qF (.getfield 13) 11 1, qO (.iconst 1), qO .iaload, qO (.bipush 10)] (pc' := 17) (L' := [zR 34 0, zI a0, zU, zU, zU]) (S' := [zI 10, zI (σ 36 0 1)]) (σ' := σ) (Ps := [0 ≤ 1 ∧ 1 < 123]) (by decide +kernel) rfl ⟨(by decide), trivial⟩ ?_
    refine r_icmp_le (off := 8) (tgt := 25) (by decide +kernel) (by decide) (fun c => ?_) (fun c => ?_)
    · replace h := h.1 c
      refine r_blk [qO (.iconst 0), qO (.istore_n 2), qO (.iload_n 2)] (pc' := 28) (L' := [zR 34 0, zI a0, zI 0, zU, zU]) (S' := [zI 0]) (σ' := σ) (Ps := []) (by decide +kernel) rfl trivial ?_
      refine r_if_eq (off := 9) (tgt := 37) (by decide +kernel) (by decide) (fun c => ?_) (fun c => ?_)
      · refine r_blk [qO (.bipush (-9)), qO (.istore_n 3), qO (.iconst 0), qO (.istore 4)] (pc' := 43) (L' := [zR 34 0, zI a0, zI 0, zI (-9), zI 0]) (S' := []) (σ' := σ) (Ps := []) (by decide +kernel) rfl trivial ?_
        exact Runs.fg (fgE (fgE (fgU (fgE (fgE fg0))))) h
      · exact absurd c (by decide)
    · replace h := h.2 c
      refine r_blk [qO (.bipush (-6)), qO (.goto 4), qO (.istore_n 2), qO (.iload_n 2)] (pc' := 28) (L' := [zR 34 0, zI a0, zI (-6), zU, zU]) (S' := [zI (-6)]) (σ' := σ) (Ps := []) (by decide +kernel) rfl trivial ?_
      refine r_if_eq (off := 9) (tgt := 37) (by decide +kernel) (by decide) (fun c => ?_) (fun c => ?_)
      · exact absurd c (by decide)
      · refine r_blk [qO (.aload_n 0), qO (.iload_n 2)] (pc' := 33) (L' := [zR 34 0, zI a0, zI (-6), zU, zU]) (S' := [zI (-6), zR 34 0]) (σ' := σ) (Ps := []) (by decide +kernel) rfl trivial ?_
        refine r_callVI (As := [zI (-6)]) (S := []) (Lc := [zR 34 0, zI (-6)]) (d' := 0) (n := 1) (g := 34) (x := 0) (ci := 11) kX11_refuse vX11_refuse lkX11_66 (by decide +kernel) (by decide) rfl rfl (by decide) rfl rfl (Nat.le_of_ble_eq_true rfl) rfl rfl (Nat.le_of_ble_eq_true rfl) (pX11_refuse h.1 h.2.1 ?_)
        replace h := h.2.2
        generalize hσ1 : zup σ 35 0 (-(-6)).toNat (σ 35 0 (-(-6)).toNat + 1) = σ1
        replace h := h σ1 hσ1.symm
        exact r_ret (by decide +kernel) rfl (fun _ => h)
  · replace h := h.2 c
    refine r_blk [qO (.bipush (-4)), qO (.goto 20), qO (.istore_n 2), qO (.iload_n 2)] (pc' := 28) (L' := [zR 34 0, zI a0, zI (-4), zU, zU]) (S' := [zI (-4)]) (σ' := σ) (Ps := []) (by decide +kernel) rfl trivial ?_
    refine r_if_eq (off := 9) (tgt := 37) (by decide +kernel) (by decide) (fun c => ?_) (fun c => ?_)
    · exact absurd c (by decide)
    · refine r_blk [qO (.aload_n 0), qO (.iload_n 2)] (pc' := 33) (L' := [zR 34 0, zI a0, zI (-4), zU, zU]) (S' := [zI (-4), zR 34 0]) (σ' := σ) (Ps := []) (by decide +kernel) rfl trivial ?_
      refine r_callVI (As := [zI (-4)]) (S := []) (Lc := [zR 34 0, zI (-4)]) (d' := 0) (n := 1) (g := 34) (x := 0) (ci := 11) kX11_refuse vX11_refuse lkX11_66 (by decide +kernel) (by decide) rfl rfl (by decide) rfl rfl (Nat.le_of_ble_eq_true rfl) rfl rfl (Nat.le_of_ble_eq_true rfl) (pX11_refuse h.1 h.2.1 ?_)
      replace h := h.2.2
      generalize hσ2 : zup σ 35 0 (-(-4)).toNat (σ 35 0 (-(-4)).toNat + 1) = σ2
      replace h := h σ2 hσ2.symm
      exact r_ret (by decide +kernel) rfl (fun _ => h)
theorem gX11_bothWays_43 (l1 : Int) (l3 : Int) (l4 : Int) (σ : Hp) {Q : Option Int → Hp → Prop} (h : ((zshl 1 (σ 36 0 1) ≤ l4 → Q (some l3) (zup σ 36 0 5 0)) ∧ (¬ zshl 1 (σ 36 0 1) ≤ l4 → ((l3 < 0 → Runs 6 mX11_bothWays 75 [zR 34 0, zI l1, zU, zI l3, zI l4] [] σ Q) ∧ (¬ l3 < 0 → Runs 0 mX11_bits 0 [zI l4, zU, zU] [] σ (rI (fun z2 σ1 => Runs 0 mX11_bits 0 [zI l3, zU, zU] [] σ1 (rI (fun z4 σ3 => ((z2 < z4 → Runs 6 mX11_bothWays 75 [zR 34 0, zI l1, zU, zI l3, zI l4] [] σ3 Q) ∧ (¬ z2 < z4 → (-2147483648 ≤ l4 + 1 ∧ l4 + 1 ≤ 2147483647) ∧ Runs 6 mX11_bothWays 43 [zR 34 0, zI l1, zU, zI l3, zI (l4 + 1)] [] σ3 Q))))))))))) : Runs 6 mX11_bothWays 43 [zR 34 0, zI l1, zU, zI l3, zI l4] [] σ Q := by
  refine r_blk [qO (.iload 4), qO (.iconst 1), qO (.aload_n 0), qF (.getfield 13) 11 1, qO (.iconst 1), qO .iaload, qO .ishl] (pc' := 53) (L' := [zR 34 0, zI l1, zU, zI l3, zI l4]) (S' := [zI (zshl 1 (σ 36 0 1)), zI l4]) (σ' := σ) (Ps := [0 ≤ 1 ∧ 1 < 123]) (by decide +kernel) rfl ⟨(by decide), trivial⟩ ?_
  refine r_icmp_ge (off := 51) (tgt := 104) (by decide +kernel) (by decide) (fun c => ?_) (fun c => ?_)
  · replace h := h.1 c
    refine r_blk [qO (.aload_n 0), qF (.getfield 13) 11 1, qO (.iconst 5), qO (.iconst 0), qO .iastore, qO (.iload_n 3)] (pc' := 112) (L' := [zR 34 0, zI l1, zU, zI l3, zI l4]) (S' := [zI l3]) (σ' := (zup σ 36 0 5 0)) (Ps := [0 ≤ 5 ∧ 5 < 123]) (by decide +kernel) rfl ⟨(by decide), trivial⟩ ?_
    exact r_ret (by decide +kernel) rfl (fun _ => h)
  · replace h := h.2 c
    refine r_blk [qO (.iload_n 3)] (pc' := 57) (L' := [zR 34 0, zI l1, zU, zI l3, zI l4]) (S' := [zI l3]) (σ' := σ) (Ps := []) (by decide +kernel) rfl trivial ?_
    refine r_if_lt (off := 18) (tgt := 75) (by decide +kernel) (by decide) (fun c => ?_) (fun c => ?_)
    · replace h := h.1 c
      exact Runs.fg (fgE (fgE (fgU (fgE (fgE fg0))))) h
    · replace h := h.2 c
      refine r_blk [qO (.iload 4)] (pc' := 62) (L' := [zR 34 0, zI l1, zU, zI l3, zI l4]) (S' := [zI l4]) (σ' := σ) (Ps := []) (by decide +kernel) rfl trivial ?_
      refine r_callSI (As := [zI l4]) (S := []) (Lc := [zI l4, zU, zU]) (d' := 0) (n := 1) kX11_bits vX11_bits lkX11_200 (by decide +kernel) (by decide) rfl rfl (Nat.le_of_ble_eq_true rfl) rfl rfl (Nat.le_of_ble_eq_true rfl) (h.monoI (fun z2 σ1 h => ?_))
      refine r_blk [qO (.iload_n 3)] (pc' := 66) (L' := [zR 34 0, zI l1, zU, zI l3, zI l4]) (S' := [zI l3, zI z2]) (σ' := σ1) (Ps := []) (by decide +kernel) rfl trivial ?_
      refine r_callSI (As := [zI l3]) (S := [zI z2]) (Lc := [zI l3, zU, zU]) (d' := 0) (n := 1) kX11_bits vX11_bits lkX11_200 (by decide +kernel) (by decide) rfl rfl (Nat.le_of_ble_eq_true rfl) rfl rfl (Nat.le_of_ble_eq_true rfl) (h.monoI (fun z4 σ3 h => ?_))
      refine r_icmp_lt (off := 6) (tgt := 75) (by decide +kernel) (by decide) (fun c => ?_) (fun c => ?_)
      · replace h := h.1 c
        exact Runs.fg (fgE (fgE (fgU (fgE (fgE fg0))))) h
      · replace h := h.2 c
        refine r_blk [qO (.goto 26), qO (.iinc 4 1), qO (.goto (-58))] (pc' := 43) (L' := [zR 34 0, zI l1, zU, zI l3, zI (l4 + 1)]) (S' := []) (σ' := σ3) (Ps := [-2147483648 ≤ l4 + 1 ∧ l4 + 1 ≤ 2147483647]) (by decide +kernel) rfl ⟨h.1, trivial⟩ ?_
        replace h := h.2
        exact Runs.fg (fgE (fgE (fgU (fgE (fgE fg0))))) h
theorem gX11_bothWays_75 (l1 : Int) (l3 : Int) (l4 : Int) (σ : Hp) {Q : Option Int → Hp → Prop} (h : Runs 5 mX11_costOf 0 [zR 34 0, zU, zU, zU] [] (zup σ 36 0 5 l4) (rI (fun z2 σ1 => ((l1 < z2 → (-2147483648 ≤ l4 + 1 ∧ l4 + 1 ≤ 2147483647) ∧ Runs 6 mX11_bothWays 43 [zR 34 0, zI l1, zU, zI l3, zI (l4 + 1)] [] σ1 Q) ∧ (¬ l1 < z2 → (-2147483648 ≤ l4 + 1 ∧ l4 + 1 ≤ 2147483647) ∧ Runs 6 mX11_bothWays 43 [zR 34 0, zI l1, zU, zI l4, zI (l4 + 1)] [] σ1 Q))))) : Runs 6 mX11_bothWays 75 [zR 34 0, zI l1, zU, zI l3, zI l4] [] σ Q := by
  refine r_blk [qO (.aload_n 0), qF (.getfield 13) 11 1, qO (.iconst 5), qO (.iload 4), qO .iastore, qO (.aload_n 0)] (pc' := 84) (L' := [zR 34 0, zI l1, zU, zI l3, zI l4]) (S' := [zR 34 0]) (σ' := (zup σ 36 0 5 l4)) (Ps := [0 ≤ 5 ∧ 5 < 123]) (by decide +kernel) rfl ⟨(by decide), trivial⟩ ?_
  refine r_callVI (As := []) (S := []) (Lc := [zR 34 0, zU, zU, zU]) (d' := 5) (n := 0) (g := 34) (x := 0) (ci := 11) kX11_costOf vX11_costOf lkX11_187 (by decide +kernel) (by decide) rfl rfl (by decide) rfl rfl (Nat.le_of_ble_eq_true rfl) rfl rfl (Nat.le_of_ble_eq_true rfl) (h.monoI (fun z2 σ1 h => ?_))
  refine r_blk [qO (.iload_n 1)] (pc' := 88) (L' := [zR 34 0, zI l1, zU, zI l3, zI l4]) (S' := [zI l1, zI z2]) (σ' := σ1) (Ps := []) (by decide +kernel) rfl trivial ?_
  refine r_icmp_gt (off := 8) (tgt := 96) (by decide +kernel) (by decide) (fun c => ?_) (fun c => ?_)
  · replace h := h.1 c
    refine r_blk [qO (.iload_n 3), qO (.istore_n 3), qO (.iinc 4 1), qO (.goto (-58))] (pc' := 43) (L' := [zR 34 0, zI l1, zU, zI l3, zI (l4 + 1)]) (S' := []) (σ' := σ1) (Ps := [-2147483648 ≤ l4 + 1 ∧ l4 + 1 ≤ 2147483647]) (by decide +kernel) rfl ⟨h.1, trivial⟩ ?_
    replace h := h.2
    exact Runs.fg (fgE (fgE (fgU (fgE (fgE fg0))))) h
  · replace h := h.2 c
    refine r_blk [qO (.iload 4), qO (.goto 4), qO (.istore_n 3), qO (.iinc 4 1), qO (.goto (-58))] (pc' := 43) (L' := [zR 34 0, zI l1, zU, zI l4, zI (l4 + 1)]) (S' := []) (σ' := σ1) (Ps := [-2147483648 ≤ l4 + 1 ∧ l4 + 1 ≤ 2147483647]) (by decide +kernel) rfl ⟨h.1, trivial⟩ ?_
    replace h := h.2
    exact Runs.fg (fgE (fgE (fgU (fgE (fgE fg0))))) h
theorem gX11_isReached_0 (a0 : Int) (a1 : Int) (a2 : Int) (σ : Hp) {Q : Option Int → Hp → Prop} (h : Runs 4 mX11_finds 0 [zR 34 0, zI a0, zI a1, zU, zU, zU, zU, zU] [] σ (rV (fun σ1 => Runs 5 mX11_isReached 9 [zR 34 0, zU, zI a1, zI a2, zI 0] [] σ1 Q))) : Runs 5 mX11_isReached 0 [zR 34 0, zI a0, zI a1, zI a2, zU] [] σ Q := by
  refine r_blk [qO (.aload_n 0), qO (.iload_n 1), qO (.iload_n 2)] (pc' := 3) (L' := [zR 34 0, zI a0, zI a1, zI a2, zU]) (S' := [zI a1, zI a0, zR 34 0]) (σ' := σ) (Ps := []) (by decide +kernel) rfl trivial ?_
  refine r_callVV (As := [zI a0, zI a1]) (S := []) (Lc := [zR 34 0, zI a0, zI a1, zU, zU, zU, zU, zU]) (d' := 4) (n := 2) (g := 34) (x := 0) (ci := 11) kX11_finds vX11_finds lkX11_142 (by decide +kernel) (by decide) rfl rfl (by decide) rfl rfl (Nat.le_of_ble_eq_true rfl) rfl rfl (Nat.le_of_ble_eq_true rfl) (h.monoV (fun σ1 h => ?_))
  refine r_blk [qO (.iconst 0), qO (.istore 4)] (pc' := 9) (L' := [zR 34 0, zI a0, zI a1, zI a2, zI 0]) (S' := []) (σ' := σ1) (Ps := []) (by decide +kernel) rfl trivial ?_
  exact Runs.fg (fgE (fgU (fgE (fgE (fgE fg0))))) h
theorem gX11_isReached_9 (l2 : Int) (l3 : Int) (l4 : Int) (σ : Hp) {Q : Option Int → Hp → Prop} (h : ((σ 36 0 0 ≤ l4 → Q (some 1) σ) ∧ (¬ σ 36 0 0 ≤ l4 → (0 ≤ l4 ∧ l4 < 10) ∧ ((σ 41 0 l4.toNat < 0 → Q (some 0) σ) ∧ (¬ σ 41 0 l4.toNat < 0 → (0 ≤ l4 ∧ l4 < 10) ∧ (-2147483648 ≤ l2 + l3 ∧ l2 + l3 ≤ 2147483647) ∧ ((σ 41 0 l4.toNat ≤ l2 + l3 → (-2147483648 ≤ l4 + 1 ∧ l4 + 1 ≤ 2147483647) ∧ Runs 5 mX11_isReached 9 [zR 34 0, zU, zI l2, zI l3, zI (l4 + 1)] [] σ Q) ∧ (¬ σ 41 0 l4.toNat ≤ l2 + l3 → Q (some 0) σ))))))) : Runs 5 mX11_isReached 9 [zR 34 0, zU, zI l2, zI l3, zI l4] [] σ Q := by
  refine r_blk [qO (.iload 4), qO (.aload_n 0), qF (.getfield 13) 11 1, qO (.iconst 0), qO .iaload] (pc' := 17) (L' := [zR 34 0, zU, zI l2, zI l3, zI l4]) (S' := [zI (σ 36 0 0), zI l4]) (σ' := σ) (Ps := [0 ≤ 0 ∧ 0 < 123]) (by decide +kernel) rfl ⟨(by decide), trivial⟩ ?_
  refine r_icmp_ge (off := 34) (tgt := 51) (by decide +kernel) (by decide) (fun c => ?_) (fun c => ?_)
  · replace h := h.1 c
    refine r_blk [qO (.iconst 1)] (pc' := 52) (L' := [zR 34 0, zU, zI l2, zI l3, zI l4]) (S' := [zI 1]) (σ' := σ) (Ps := []) (by decide +kernel) rfl trivial ?_
    exact r_retz (by decide +kernel) rfl (by decide) h
  · replace h := h.2 c
    refine r_blk [qO (.aload_n 0), qF (.getfield 28) 11 9, qO (.iload 4), qO .iaload] (pc' := 27) (L' := [zR 34 0, zU, zI l2, zI l3, zI l4]) (S' := [zI (σ 41 0 l4.toNat)]) (σ' := σ) (Ps := [0 ≤ l4 ∧ l4 < 10]) (by decide +kernel) rfl ⟨h.1, trivial⟩ ?_
    replace h := h.2
    refine r_if_lt (off := 16) (tgt := 43) (by decide +kernel) (by decide) (fun c => ?_) (fun c => ?_)
    · replace h := h.1 c
      refine r_blk [qO (.iconst 0)] (pc' := 44) (L' := [zR 34 0, zU, zI l2, zI l3, zI l4]) (S' := [zI 0]) (σ' := σ) (Ps := []) (by decide +kernel) rfl trivial ?_
      exact r_retz (by decide +kernel) rfl (by decide) h
    · replace h := h.2 c
      refine r_blk [qO (.aload_n 0), qF (.getfield 28) 11 9, qO (.iload 4), qO .iaload, qO (.iload_n 2), qO (.iload_n 3), qO .iadd] (pc' := 40) (L' := [zR 34 0, zU, zI l2, zI l3, zI l4]) (S' := [zI (l2 + l3), zI (σ 41 0 l4.toNat)]) (σ' := σ) (Ps := [0 ≤ l4 ∧ l4 < 10, -2147483648 ≤ l2 + l3 ∧ l2 + l3 ≤ 2147483647]) (by decide +kernel) rfl ⟨h.1, h.2.1, trivial⟩ ?_
      replace h := h.2.2
      refine r_icmp_le (off := 5) (tgt := 45) (by decide +kernel) (by decide) (fun c => ?_) (fun c => ?_)
      · replace h := h.1 c
        refine r_blk [qO (.iinc 4 1), qO (.goto (-39))] (pc' := 9) (L' := [zR 34 0, zU, zI l2, zI l3, zI (l4 + 1)]) (S' := []) (σ' := σ) (Ps := [-2147483648 ≤ l4 + 1 ∧ l4 + 1 ≤ 2147483647]) (by decide +kernel) rfl ⟨h.1, trivial⟩ ?_
        replace h := h.2
        exact Runs.fg (fgE (fgU (fgE (fgE (fgE fg0))))) h
      · replace h := h.2 c
        refine r_blk [qO (.iconst 0)] (pc' := 44) (L' := [zR 34 0, zU, zI l2, zI l3, zI l4]) (S' := [zI 0]) (σ' := σ) (Ps := []) (by decide +kernel) rfl trivial ?_
        exact r_retz (by decide +kernel) rfl (by decide) h
theorem gX11_lanes_0 (a0 : Int) (a1 : Int) (a2 : Int) (σ : Hp) {Q : Option Int → Hp → Prop} (h : ((0 ≤ a0 ∧ a0 < σ 36 0 0 → ((a1 < 0 → (-6 ≤ (-4) ∧ (-4) ≤ -1) ∧ (σ 35 0 (-(-4)).toNat ≤ 2147483646) ∧ ∀ σ1 : Hp, σ1 = zup σ 35 0 (-(-4)).toNat (σ 35 0 (-(-4)).toNat + 1) → Q (some (-4)) σ1) ∧ (¬ a1 < 0 → ((0 ≤ a2 → ((2879 < a1 → (-6 ≤ (-6) ∧ (-6) ≤ -1) ∧ (σ 35 0 (-(-6)).toNat ≤ 2147483646) ∧ ∀ σ2 : Hp, σ2 = zup σ 35 0 (-(-6)).toNat (σ 35 0 (-(-6)).toNat + 1) → Q (some (-6)) σ2) ∧ (¬ 2879 < a1 → ((2879 < a2 → (-6 ≤ (-6) ∧ (-6) ≤ -1) ∧ (σ 35 0 (-(-6)).toNat ≤ 2147483646) ∧ ∀ σ3 : Hp, σ3 = zup σ 35 0 (-(-6)).toNat (σ 35 0 (-(-6)).toNat + 1) → Q (some (-6)) σ3) ∧ (¬ 2879 < a2 → ((σ 36 0 1 ≤ 10 → Runs 6 mX11_lanes 77 [zR 34 0, zI a0, zI a1, zI a2, zU, zI (-9), zI 0] [] σ Q) ∧ (¬ σ 36 0 1 ≤ 10 → (-6 ≤ (-6) ∧ (-6) ≤ -1) ∧ (σ 35 0 (-(-6)).toNat ≤ 2147483646) ∧ ∀ σ4 : Hp, σ4 = zup σ 35 0 (-(-6)).toNat (σ 35 0 (-(-6)).toNat + 1) → Q (some (-6)) σ4))))))) ∧ (¬ 0 ≤ a2 → (-6 ≤ (-4) ∧ (-4) ≤ -1) ∧ (σ 35 0 (-(-4)).toNat ≤ 2147483646) ∧ ∀ σ5 : Hp, σ5 = zup σ 35 0 (-(-4)).toNat (σ 35 0 (-(-4)).toNat + 1) → Q (some (-4)) σ5))))) ∧ (¬ (0 ≤ a0 ∧ a0 < σ 36 0 0) → (-6 ≤ (-1) ∧ (-1) ≤ -1) ∧ (σ 35 0 (-(-1)).toNat ≤ 2147483646) ∧ ∀ σ6 : Hp, σ6 = zup σ 35 0 (-(-1)).toNat (σ 35 0 (-(-1)).toNat + 1) → Q (some (-1)) σ6))) : Runs 6 mX11_lanes 0 [zR 34 0, zI a0, zI a1, zI a2, zU, zU, zU] [] σ Q := by
  refine r_blk [qO (.aload_n 0), qO (.iload_n 1)] (pc' := 2) (L' := [zR 34 0, zI a0, zI a1, zI a2, zU, zU, zU]) (S' := [zI a0, zR 34 0]) (σ' := σ) (Ps := []) (by decide +kernel) rfl trivial ?_
  refine r_callVI (As := [zI a0]) (S := []) (Lc := [zR 34 0, zI a0]) (d' := 1) (n := 1) (g := 34) (x := 0) (ci := 11) kX11_isCorner vX11_isCorner lkX11_136 (by decide +kernel) (by decide) rfl rfl (by decide) rfl rfl (Nat.le_of_ble_eq_true rfl) rfl rfl (Nat.le_of_ble_eq_true rfl) (pX11_isCorner  (fun c => ?_) (fun c => ?_))
  · replace h := h.1 c
    refine r_if_ne (off := 7) (tgt := 12) (by decide +kernel) (by decide) (fun c => ?_) (fun c => ?_)
    · refine r_blk [qO (.iload_n 2)] (pc' := 13) (L' := [zR 34 0, zI a0, zI a1, zI a2, zU, zU, zU]) (S' := [zI a1]) (σ' := σ) (Ps := []) (by decide +kernel) rfl trivial ?_
      refine r_if_lt (off := 7) (tgt := 20) (by decide +kernel) (by decide) (fun c => ?_) (fun c => ?_)
      · replace h := h.1 c
        refine r_blk [qO (.bipush (-4)), qO (.goto 34), qO (.istore 4), qO (.iload 4)] (pc' := 60) (L' := [zR 34 0, zI a0, zI a1, zI a2, zI (-4), zU, zU]) (S' := [zI (-4)]) (σ' := σ) (Ps := []) (by decide +kernel) rfl trivial ?_
        refine r_if_eq (off := 10) (tgt := 70) (by decide +kernel) (by decide) (fun c => ?_) (fun c => ?_)
        · exact absurd c (by decide)
        · refine r_blk [qO (.aload_n 0), qO (.iload 4)] (pc' := 66) (L' := [zR 34 0, zI a0, zI a1, zI a2, zI (-4), zU, zU]) (S' := [zI (-4), zR 34 0]) (σ' := σ) (Ps := []) (by decide +kernel) rfl trivial ?_
          refine r_callVI (As := [zI (-4)]) (S := []) (Lc := [zR 34 0, zI (-4)]) (d' := 0) (n := 1) (g := 34) (x := 0) (ci := 11) kX11_refuse vX11_refuse lkX11_66 (by decide +kernel) (by decide) rfl rfl (by decide) rfl rfl (Nat.le_of_ble_eq_true rfl) rfl rfl (Nat.le_of_ble_eq_true rfl) (pX11_refuse h.1 h.2.1 ?_)
          replace h := h.2.2
          generalize hσ1 : zup σ 35 0 (-(-4)).toNat (σ 35 0 (-(-4)).toNat + 1) = σ1
          replace h := h σ1 hσ1.symm
          exact r_ret (by decide +kernel) rfl (fun _ => h)
      · replace h := h.2 c
        refine r_blk [qO (.iload_n 3)] (pc' := 17) (L' := [zR 34 0, zI a0, zI a1, zI a2, zU, zU, zU]) (S' := [zI a2]) (σ' := σ) (Ps := []) (by decide +kernel) rfl trivial ?_
        refine r_if_ge (off := 8) (tgt := 25) (by decide +kernel) (by decide) (fun c => ?_) (fun c => ?_)
        · replace h := h.1 c
          refine r_blk [qO (.iload_n 2), qO (.sipush 2879)] (pc' := 29) (L' := [zR 34 0, zI a0, zI a1, zI a2, zU, zU, zU]) (S' := [zI 2879, zI a1]) (σ' := σ) (Ps := []) (by decide +kernel) rfl trivial ?_
          refine r_icmp_gt (off := 21) (tgt := 50) (by decide +kernel) (by decide) (fun c => ?_) (fun c => ?_)
          · replace h := h.1 c
            refine r_blk [qO (.bipush (-6)), qO (.goto 4), qO (.istore 4), qO (.iload 4)] (pc' := 60) (L' := [zR 34 0, zI a0, zI a1, zI a2, zI (-6), zU, zU]) (S' := [zI (-6)]) (σ' := σ) (Ps := []) (by decide +kernel) rfl trivial ?_
            refine r_if_eq (off := 10) (tgt := 70) (by decide +kernel) (by decide) (fun c => ?_) (fun c => ?_)
            · exact absurd c (by decide)
            · refine r_blk [qO (.aload_n 0), qO (.iload 4)] (pc' := 66) (L' := [zR 34 0, zI a0, zI a1, zI a2, zI (-6), zU, zU]) (S' := [zI (-6), zR 34 0]) (σ' := σ) (Ps := []) (by decide +kernel) rfl trivial ?_
              refine r_callVI (As := [zI (-6)]) (S := []) (Lc := [zR 34 0, zI (-6)]) (d' := 0) (n := 1) (g := 34) (x := 0) (ci := 11) kX11_refuse vX11_refuse lkX11_66 (by decide +kernel) (by decide) rfl rfl (by decide) rfl rfl (Nat.le_of_ble_eq_true rfl) rfl rfl (Nat.le_of_ble_eq_true rfl) (pX11_refuse h.1 h.2.1 ?_)
              replace h := h.2.2
              generalize hσ2 : zup σ 35 0 (-(-6)).toNat (σ 35 0 (-(-6)).toNat + 1) = σ2
              replace h := h σ2 hσ2.symm
              exact r_ret (by decide +kernel) rfl (fun _ => h)
          · replace h := h.2 c
            refine r_blk [qO (.iload_n 3), qO (.sipush 2879)] (pc' := 36) (L' := [zR 34 0, zI a0, zI a1, zI a2, zU, zU, zU]) (S' := [zI 2879, zI a2]) (σ' := σ) (Ps := []) (by decide +kernel) rfl trivial ?_
            refine r_icmp_gt (off := 14) (tgt := 50) (by decide +kernel) (by decide) (fun c => ?_) (fun c => ?_)
            · replace h := h.1 c
              refine r_blk [qO (.bipush (-6)), qO (.goto 4), qO (.istore 4), qO (.iload 4)] (pc' := 60) (L' := [zR 34 0, zI a0, zI a1, zI a2, zI (-6), zU, zU]) (S' := [zI (-6)]) (σ' := σ) (Ps := []) (by decide +kernel) rfl trivial ?_
              refine r_if_eq (off := 10) (tgt := 70) (by decide +kernel) (by decide) (fun c => ?_) (fun c => ?_)
              · exact absurd c (by decide)
              · refine r_blk [qO (.aload_n 0), qO (.iload 4)] (pc' := 66) (L' := [zR 34 0, zI a0, zI a1, zI a2, zI (-6), zU, zU]) (S' := [zI (-6), zR 34 0]) (σ' := σ) (Ps := []) (by decide +kernel) rfl trivial ?_
                refine r_callVI (As := [zI (-6)]) (S := []) (Lc := [zR 34 0, zI (-6)]) (d' := 0) (n := 1) (g := 34) (x := 0) (ci := 11) kX11_refuse vX11_refuse lkX11_66 (by decide +kernel) (by decide) rfl rfl (by decide) rfl rfl (Nat.le_of_ble_eq_true rfl) rfl rfl (Nat.le_of_ble_eq_true rfl) (pX11_refuse h.1 h.2.1 ?_)
                replace h := h.2.2
                generalize hσ3 : zup σ 35 0 (-(-6)).toNat (σ 35 0 (-(-6)).toNat + 1) = σ3
                replace h := h σ3 hσ3.symm
                exact r_ret (by decide +kernel) rfl (fun _ => h)
            · replace h := h.2 c
              refine r_blk [qO (.aload_n 0), qF (.getfield 13) 11 1, qO (.iconst 1), qO .iaload, qO (.bipush 10)] (pc' := 47) (L' := [zR 34 0, zI a0, zI a1, zI a2, zU, zU, zU]) (S' := [zI 10, zI (σ 36 0 1)]) (σ' := σ) (Ps := [0 ≤ 1 ∧ 1 < 123]) (by decide +kernel) rfl ⟨(by decide), trivial⟩ ?_
              refine r_icmp_le (off := 8) (tgt := 55) (by decide +kernel) (by decide) (fun c => ?_) (fun c => ?_)
              · replace h := h.1 c
                refine r_blk [qO (.iconst 0), qO (.istore 4), qO (.iload 4)] (pc' := 60) (L' := [zR 34 0, zI a0, zI a1, zI a2, zI 0, zU, zU]) (S' := [zI 0]) (σ' := σ) (Ps := []) (by decide +kernel) rfl trivial ?_
                refine r_if_eq (off := 10) (tgt := 70) (by decide +kernel) (by decide) (fun c => ?_) (fun c => ?_)
                · refine r_blk [qO (.bipush (-9)), qO (.istore 5), qO (.iconst 0), qO (.istore 6)] (pc' := 77) (L' := [zR 34 0, zI a0, zI a1, zI a2, zI 0, zI (-9), zI 0]) (S' := []) (σ' := σ) (Ps := []) (by decide +kernel) rfl trivial ?_
                  exact Runs.fg (fgE (fgE (fgE (fgE (fgU (fgE (fgE fg0))))))) h
                · exact absurd c (by decide)
              · replace h := h.2 c
                refine r_blk [qO (.bipush (-6)), qO (.goto 4), qO (.istore 4), qO (.iload 4)] (pc' := 60) (L' := [zR 34 0, zI a0, zI a1, zI a2, zI (-6), zU, zU]) (S' := [zI (-6)]) (σ' := σ) (Ps := []) (by decide +kernel) rfl trivial ?_
                refine r_if_eq (off := 10) (tgt := 70) (by decide +kernel) (by decide) (fun c => ?_) (fun c => ?_)
                · exact absurd c (by decide)
                · refine r_blk [qO (.aload_n 0), qO (.iload 4)] (pc' := 66) (L' := [zR 34 0, zI a0, zI a1, zI a2, zI (-6), zU, zU]) (S' := [zI (-6), zR 34 0]) (σ' := σ) (Ps := []) (by decide +kernel) rfl trivial ?_
                  refine r_callVI (As := [zI (-6)]) (S := []) (Lc := [zR 34 0, zI (-6)]) (d' := 0) (n := 1) (g := 34) (x := 0) (ci := 11) kX11_refuse vX11_refuse lkX11_66 (by decide +kernel) (by decide) rfl rfl (by decide) rfl rfl (Nat.le_of_ble_eq_true rfl) rfl rfl (Nat.le_of_ble_eq_true rfl) (pX11_refuse h.1 h.2.1 ?_)
                  replace h := h.2.2
                  generalize hσ4 : zup σ 35 0 (-(-6)).toNat (σ 35 0 (-(-6)).toNat + 1) = σ4
                  replace h := h σ4 hσ4.symm
                  exact r_ret (by decide +kernel) rfl (fun _ => h)
        · replace h := h.2 c
          refine r_blk [qO (.bipush (-4)), qO (.goto 34), qO (.istore 4), qO (.iload 4)] (pc' := 60) (L' := [zR 34 0, zI a0, zI a1, zI a2, zI (-4), zU, zU]) (S' := [zI (-4)]) (σ' := σ) (Ps := []) (by decide +kernel) rfl trivial ?_
          refine r_if_eq (off := 10) (tgt := 70) (by decide +kernel) (by decide) (fun c => ?_) (fun c => ?_)
          · exact absurd c (by decide)
          · refine r_blk [qO (.aload_n 0), qO (.iload 4)] (pc' := 66) (L' := [zR 34 0, zI a0, zI a1, zI a2, zI (-4), zU, zU]) (S' := [zI (-4), zR 34 0]) (σ' := σ) (Ps := []) (by decide +kernel) rfl trivial ?_
            refine r_callVI (As := [zI (-4)]) (S := []) (Lc := [zR 34 0, zI (-4)]) (d' := 0) (n := 1) (g := 34) (x := 0) (ci := 11) kX11_refuse vX11_refuse lkX11_66 (by decide +kernel) (by decide) rfl rfl (by decide) rfl rfl (Nat.le_of_ble_eq_true rfl) rfl rfl (Nat.le_of_ble_eq_true rfl) (pX11_refuse h.1 h.2.1 ?_)
            replace h := h.2.2
            generalize hσ5 : zup σ 35 0 (-(-4)).toNat (σ 35 0 (-(-4)).toNat + 1) = σ5
            replace h := h σ5 hσ5.symm
            exact r_ret (by decide +kernel) rfl (fun _ => h)
    · exact absurd c (by decide)
  · replace h := h.2 c
    refine r_if_ne (off := 7) (tgt := 12) (by decide +kernel) (by decide) (fun c => ?_) (fun c => ?_)
    · exact absurd c (by decide)
    · refine r_blk [qO (.iconst (-1)), qO (.goto 47), qO (.istore 4), qO (.iload 4)] (pc' := 60) (L' := [zR 34 0, zI a0, zI a1, zI a2, zI (-1), zU, zU]) (S' := [zI (-1)]) (σ' := σ) (Ps := []) (by decide +kernel) rfl trivial ?_
      refine r_if_eq (off := 10) (tgt := 70) (by decide +kernel) (by decide) (fun c => ?_) (fun c => ?_)
      · exact absurd c (by decide)
      · refine r_blk [qO (.aload_n 0), qO (.iload 4)] (pc' := 66) (L' := [zR 34 0, zI a0, zI a1, zI a2, zI (-1), zU, zU]) (S' := [zI (-1), zR 34 0]) (σ' := σ) (Ps := []) (by decide +kernel) rfl trivial ?_
        refine r_callVI (As := [zI (-1)]) (S := []) (Lc := [zR 34 0, zI (-1)]) (d' := 0) (n := 1) (g := 34) (x := 0) (ci := 11) kX11_refuse vX11_refuse lkX11_66 (by decide +kernel) (by decide) rfl rfl (by decide) rfl rfl (Nat.le_of_ble_eq_true rfl) rfl rfl (Nat.le_of_ble_eq_true rfl) (pX11_refuse h.1 h.2.1 ?_)
        replace h := h.2.2
        generalize hσ6 : zup σ 35 0 (-(-1)).toNat (σ 35 0 (-(-1)).toNat + 1) = σ6
        replace h := h σ6 hσ6.symm
        exact r_ret (by decide +kernel) rfl (fun _ => h)
theorem gX11_lanes_77 (l1 : Int) (l2 : Int) (l3 : Int) (l5 : Int) (l6 : Int) (σ : Hp) {Q : Option Int → Hp → Prop} (h : ((zshl 1 (σ 36 0 1) ≤ l6 → Q (some l5) (zup σ 36 0 5 0)) ∧ (¬ zshl 1 (σ 36 0 1) ≤ l6 → ((l5 < 0 → Runs 6 mX11_lanes 111 [zR 34 0, zI l1, zI l2, zI l3, zU, zI l5, zI l6] [] σ Q) ∧ (¬ l5 < 0 → Runs 0 mX11_bits 0 [zI l6, zU, zU] [] σ (rI (fun z2 σ1 => Runs 0 mX11_bits 0 [zI l5, zU, zU] [] σ1 (rI (fun z4 σ3 => ((z2 < z4 → Runs 6 mX11_lanes 111 [zR 34 0, zI l1, zI l2, zI l3, zU, zI l5, zI l6] [] σ3 Q) ∧ (¬ z2 < z4 → (-2147483648 ≤ l6 + 1 ∧ l6 + 1 ≤ 2147483647) ∧ Runs 6 mX11_lanes 77 [zR 34 0, zI l1, zI l2, zI l3, zU, zI l5, zI (l6 + 1)] [] σ3 Q))))))))))) : Runs 6 mX11_lanes 77 [zR 34 0, zI l1, zI l2, zI l3, zU, zI l5, zI l6] [] σ Q := by
  refine r_blk [qO (.iload 6), qO (.iconst 1), qO (.aload_n 0), qF (.getfield 13) 11 1, qO (.iconst 1), qO .iaload, qO .ishl] (pc' := 87) (L' := [zR 34 0, zI l1, zI l2, zI l3, zU, zI l5, zI l6]) (S' := [zI (zshl 1 (σ 36 0 1)), zI l6]) (σ' := σ) (Ps := [0 ≤ 1 ∧ 1 < 123]) (by decide +kernel) rfl ⟨(by decide), trivial⟩ ?_
  refine r_icmp_ge (off := 57) (tgt := 144) (by decide +kernel) (by decide) (fun c => ?_) (fun c => ?_)
  · replace h := h.1 c
    refine r_blk [qO (.aload_n 0), qF (.getfield 13) 11 1, qO (.iconst 5), qO (.iconst 0), qO .iastore, qO (.iload 5)] (pc' := 153) (L' := [zR 34 0, zI l1, zI l2, zI l3, zU, zI l5, zI l6]) (S' := [zI l5]) (σ' := (zup σ 36 0 5 0)) (Ps := [0 ≤ 5 ∧ 5 < 123]) (by decide +kernel) rfl ⟨(by decide), trivial⟩ ?_
    exact r_ret (by decide +kernel) rfl (fun _ => h)
  · replace h := h.2 c
    refine r_blk [qO (.iload 5)] (pc' := 92) (L' := [zR 34 0, zI l1, zI l2, zI l3, zU, zI l5, zI l6]) (S' := [zI l5]) (σ' := σ) (Ps := []) (by decide +kernel) rfl trivial ?_
    refine r_if_lt (off := 19) (tgt := 111) (by decide +kernel) (by decide) (fun c => ?_) (fun c => ?_)
    · replace h := h.1 c
      exact Runs.fg (fgE (fgE (fgE (fgE (fgU (fgE (fgE fg0))))))) h
    · replace h := h.2 c
      refine r_blk [qO (.iload 6)] (pc' := 97) (L' := [zR 34 0, zI l1, zI l2, zI l3, zU, zI l5, zI l6]) (S' := [zI l6]) (σ' := σ) (Ps := []) (by decide +kernel) rfl trivial ?_
      refine r_callSI (As := [zI l6]) (S := []) (Lc := [zI l6, zU, zU]) (d' := 0) (n := 1) kX11_bits vX11_bits lkX11_200 (by decide +kernel) (by decide) rfl rfl (Nat.le_of_ble_eq_true rfl) rfl rfl (Nat.le_of_ble_eq_true rfl) (h.monoI (fun z2 σ1 h => ?_))
      refine r_blk [qO (.iload 5)] (pc' := 102) (L' := [zR 34 0, zI l1, zI l2, zI l3, zU, zI l5, zI l6]) (S' := [zI l5, zI z2]) (σ' := σ1) (Ps := []) (by decide +kernel) rfl trivial ?_
      refine r_callSI (As := [zI l5]) (S := [zI z2]) (Lc := [zI l5, zU, zU]) (d' := 0) (n := 1) kX11_bits vX11_bits lkX11_200 (by decide +kernel) (by decide) rfl rfl (Nat.le_of_ble_eq_true rfl) rfl rfl (Nat.le_of_ble_eq_true rfl) (h.monoI (fun z4 σ3 h => ?_))
      refine r_icmp_lt (off := 6) (tgt := 111) (by decide +kernel) (by decide) (fun c => ?_) (fun c => ?_)
      · replace h := h.1 c
        exact Runs.fg (fgE (fgE (fgE (fgE (fgU (fgE (fgE fg0))))))) h
      · replace h := h.2 c
        refine r_blk [qO (.goto 30), qO (.iinc 6 1), qO (.goto (-64))] (pc' := 77) (L' := [zR 34 0, zI l1, zI l2, zI l3, zU, zI l5, zI (l6 + 1)]) (S' := []) (σ' := σ3) (Ps := [-2147483648 ≤ l6 + 1 ∧ l6 + 1 ≤ 2147483647]) (by decide +kernel) rfl ⟨h.1, trivial⟩ ?_
        replace h := h.2
        exact Runs.fg (fgE (fgE (fgE (fgE (fgU (fgE (fgE fg0))))))) h
theorem gX11_lanes_111 (l1 : Int) (l2 : Int) (l3 : Int) (l5 : Int) (l6 : Int) (σ : Hp) {Q : Option Int → Hp → Prop} (h : Runs 5 mX11_isReached 0 [zR 34 0, zI l1, zI l2, zI l3, zU] [] (zup σ 36 0 5 l6) (rI (fun z2 σ1 => ((z2 = 0 → (-2147483648 ≤ l6 + 1 ∧ l6 + 1 ≤ 2147483647) ∧ Runs 6 mX11_lanes 77 [zR 34 0, zI l1, zI l2, zI l3, zU, zI l5, zI (l6 + 1)] [] σ1 Q) ∧ (¬ z2 = 0 → (-2147483648 ≤ l6 + 1 ∧ l6 + 1 ≤ 2147483647) ∧ Runs 6 mX11_lanes 77 [zR 34 0, zI l1, zI l2, zI l3, zU, zI l6, zI (l6 + 1)] [] σ1 Q))))) : Runs 6 mX11_lanes 111 [zR 34 0, zI l1, zI l2, zI l3, zU, zI l5, zI l6] [] σ Q := by
  refine r_blk [qO (.aload_n 0), qF (.getfield 13) 11 1, qO (.iconst 5), qO (.iload 6), qO .iastore, qO (.aload_n 0), qO (.iload_n 1), qO (.iload_n 2), qO (.iload_n 3)] (pc' := 123) (L' := [zR 34 0, zI l1, zI l2, zI l3, zU, zI l5, zI l6]) (S' := [zI l3, zI l2, zI l1, zR 34 0]) (σ' := (zup σ 36 0 5 l6)) (Ps := [0 ≤ 5 ∧ 5 < 123]) (by decide +kernel) rfl ⟨(by decide), trivial⟩ ?_
  refine r_callVI (As := [zI l1, zI l2, zI l3]) (S := []) (Lc := [zR 34 0, zI l1, zI l2, zI l3, zU]) (d' := 5) (n := 3) (g := 34) (x := 0) (ci := 11) kX11_isReached vX11_isReached lkX11_212 (by decide +kernel) (by decide) rfl rfl (by decide) rfl rfl (Nat.le_of_ble_eq_true rfl) rfl rfl (Nat.le_of_ble_eq_true rfl) (h.monoI (fun z2 σ1 h => ?_))
  refine r_if_eq (off := 8) (tgt := 134) (by decide +kernel) (by decide) (fun c => ?_) (fun c => ?_)
  · replace h := h.1 c
    refine r_blk [qO (.iload 5), qO (.istore 5), qO (.iinc 6 1), qO (.goto (-64))] (pc' := 77) (L' := [zR 34 0, zI l1, zI l2, zI l3, zU, zI l5, zI (l6 + 1)]) (S' := []) (σ' := σ1) (Ps := [-2147483648 ≤ l6 + 1 ∧ l6 + 1 ≤ 2147483647]) (by decide +kernel) rfl ⟨h.1, trivial⟩ ?_
    replace h := h.2
    exact Runs.fg (fgE (fgE (fgE (fgE (fgU (fgE (fgE fg0))))))) h
  · replace h := h.2 c
    refine r_blk [qO (.iload 6), qO (.goto 5), qO (.istore 5), qO (.iinc 6 1), qO (.goto (-64))] (pc' := 77) (L' := [zR 34 0, zI l1, zI l2, zI l3, zU, zI l6, zI (l6 + 1)]) (S' := []) (σ' := σ1) (Ps := [-2147483648 ≤ l6 + 1 ∧ l6 + 1 ≤ 2147483647]) (by decide +kernel) rfl ⟨h.1, trivial⟩ ?_
    replace h := h.2
    exact Runs.fg (fgE (fgE (fgE (fgE (fgU (fgE (fgE fg0))))))) h
theorem gX11_shuts_0 (a0 : Int) (σ : Hp) {Q : Option Int → Hp → Prop} (h : ((0 ≤ a0 ∧ a0 < σ 36 0 1 → Runs 5 mX11_costOf 0 [zR 34 0, zU, zU, zU] [] σ (rI (fun z2 σ1 => Runs 5 mX11_costOf 0 [zR 34 0, zU, zU, zU] [] (zup σ1 36 0 4 (zor (σ1 36 0 4) (zshl 1 a0))) (rI (fun z4 σ3 => (-2147483648 ≤ z4 - z2 ∧ z4 - z2 ≤ 2147483647) ∧ Q (some (z4 - z2)) (zup σ3 36 0 4 (σ1 36 0 4))))))) ∧ (¬ (0 ≤ a0 ∧ a0 < σ 36 0 1) → (-6 ≤ (-1) ∧ (-1) ≤ -1) ∧ (σ 35 0 (-(-1)).toNat ≤ 2147483646) ∧ ∀ σ5 : Hp, σ5 = zup σ 35 0 (-(-1)).toNat (σ 35 0 (-(-1)).toNat + 1) → Q (some (1000000000 - (-1))) σ5))) : Runs 6 mX11_shuts 0 [zR 34 0, zI a0, zU, zU, zU] [] σ Q := by
  refine r_blk [qO (.aload_n 0), qO (.iload_n 1)] (pc' := 2) (L' := [zR 34 0, zI a0, zU, zU, zU]) (S' := [zI a0, zR 34 0]) (σ' := σ) (Ps := []) (by decide +kernel) rfl trivial ?_
  refine r_callVI (As := [zI a0]) (S := []) (Lc := [zR 34 0, zI a0]) (d' := 1) (n := 1) (g := 34) (x := 0) (ci := 11) kX11_isStreet vX11_isStreet lkX11_103 (by decide +kernel) (by decide) rfl rfl (by decide) rfl rfl (Nat.le_of_ble_eq_true rfl) rfl rfl (Nat.le_of_ble_eq_true rfl) (pX11_isStreet  (fun c => ?_) (fun c => ?_))
  · replace h := h.1 c
    refine r_if_ne (off := 12) (tgt := 17) (by decide +kernel) (by decide) (fun c => ?_) (fun c => ?_)
    · refine r_blk [qO (.aload_n 0)] (pc' := 18) (L' := [zR 34 0, zI a0, zU, zU, zU]) (S' := [zR 34 0]) (σ' := σ) (Ps := []) (by decide +kernel) rfl trivial ?_
      refine r_callVI (As := []) (S := []) (Lc := [zR 34 0, zU, zU, zU]) (d' := 5) (n := 0) (g := 34) (x := 0) (ci := 11) kX11_costOf vX11_costOf lkX11_187 (by decide +kernel) (by decide) rfl rfl (by decide) rfl rfl (Nat.le_of_ble_eq_true rfl) rfl rfl (Nat.le_of_ble_eq_true rfl) (h.monoI (fun z2 σ1 h => ?_))
      refine r_blk [qO (.istore_n 2), qO (.aload_n 0), qF (.getfield 13) 11 1, qO (.iconst 4), qO .iaload, qO (.istore_n 3), qO (.aload_n 0), qF (.getfield 13) 11 1, qO (.iconst 4), qO .dup2, qO .iaload, qO (.iconst 1), qO (.iload_n 1), qO .ishl, qO .ior, qO .iastore, qO (.aload_n 0)] (pc' := 42) (L' := [zR 34 0, zI a0, zI z2, zI (σ1 36 0 4), zU]) (S' := [zR 34 0]) (σ' := (zup σ1 36 0 4 (zor (σ1 36 0 4) (zshl 1 a0)))) (Ps := [0 ≤ 4 ∧ 4 < 123, 0 ≤ 4 ∧ 4 < 123, 0 ≤ 4 ∧ 4 < 123]) (by decide +kernel) rfl ⟨(by decide), (by decide), (by decide), trivial⟩ ?_
      refine r_callVI (As := []) (S := []) (Lc := [zR 34 0, zU, zU, zU]) (d' := 5) (n := 0) (g := 34) (x := 0) (ci := 11) kX11_costOf vX11_costOf lkX11_187 (by decide +kernel) (by decide) rfl rfl (by decide) rfl rfl (Nat.le_of_ble_eq_true rfl) rfl rfl (Nat.le_of_ble_eq_true rfl) (h.monoI (fun z4 σ3 h => ?_))
      refine r_blk [qO (.istore 4), qO (.aload_n 0), qF (.getfield 13) 11 1, qO (.iconst 4), qO (.iload_n 3), qO .iastore, qO (.iload 4), qO (.iload_n 2), qO .isub] (pc' := 58) (L' := [zR 34 0, zI a0, zI z2, zI (σ1 36 0 4), zI z4]) (S' := [zI (z4 - z2)]) (σ' := (zup σ3 36 0 4 (σ1 36 0 4))) (Ps := [0 ≤ 4 ∧ 4 < 123, -2147483648 ≤ z4 - z2 ∧ z4 - z2 ≤ 2147483647]) (by decide +kernel) rfl ⟨(by decide), h.1, trivial⟩ ?_
      replace h := h.2
      exact r_ret (by decide +kernel) rfl (fun _ => h)
    · exact absurd c (by decide)
  · replace h := h.2 c
    refine r_if_ne (off := 12) (tgt := 17) (by decide +kernel) (by decide) (fun c => ?_) (fun c => ?_)
    · exact absurd c (by decide)
    · refine r_blk [qC (.ldc 155) 1000000000, qO (.aload_n 0), qO (.iconst (-1))] (pc' := 12) (L' := [zR 34 0, zI a0, zU, zU, zU]) (S' := [zI (-1), zR 34 0, zI 1000000000]) (σ' := σ) (Ps := []) (by decide +kernel) rfl trivial ?_
      refine r_callVI (As := [zI (-1)]) (S := [zI 1000000000]) (Lc := [zR 34 0, zI (-1)]) (d' := 0) (n := 1) (g := 34) (x := 0) (ci := 11) kX11_refuse vX11_refuse lkX11_66 (by decide +kernel) (by decide) rfl rfl (by decide) rfl rfl (Nat.le_of_ble_eq_true rfl) rfl rfl (Nat.le_of_ble_eq_true rfl) (pX11_refuse h.1 h.2.1 ?_)
      replace h := h.2.2
      generalize hσ5 : zup σ 35 0 (-(-1)).toNat (σ 35 0 (-(-1)).toNat + 1) = σ5
      replace h := h σ5 hσ5.symm
      refine r_blk [qO .isub] (pc' := 16) (L' := [zR 34 0, zI a0, zU, zU, zU]) (S' := [zI (1000000000 - (-1))]) (σ' := σ5) (Ps := [-2147483648 ≤ 1000000000 - (-1) ∧ 1000000000 - (-1) ≤ 2147483647]) (by decide +kernel) rfl ⟨(by decide), trivial⟩ ?_
      exact r_ret (by decide +kernel) rfl (fun _ => h)
theorem gJ6_bitCount_0f7a4_0 (a0 : Int) (σ : Hp) {Q : Option Int → Hp → Prop} (h : (-2147483648 ≤ a0 - (zand (zushr a0 1) 1431655765) ∧ a0 - (zand (zushr a0 1) 1431655765) ≤ 2147483647) ∧ (-2147483648 ≤ (zand (a0 - (zand (zushr a0 1) 1431655765)) 858993459) + (zand (zushr (a0 - (zand (zushr a0 1) 1431655765)) 2) 858993459) ∧ (zand (a0 - (zand (zushr a0 1) 1431655765)) 858993459) + (zand (zushr (a0 - (zand (zushr a0 1) 1431655765)) 2) 858993459) ≤ 2147483647) ∧ (-2147483648 ≤ ((zand (a0 - (zand (zushr a0 1) 1431655765)) 858993459) + (zand (zushr (a0 - (zand (zushr a0 1) 1431655765)) 2) 858993459)) + (zushr ((zand (a0 - (zand (zushr a0 1) 1431655765)) 858993459) + (zand (zushr (a0 - (zand (zushr a0 1) 1431655765)) 2) 858993459)) 4) ∧ ((zand (a0 - (zand (zushr a0 1) 1431655765)) 858993459) + (zand (zushr (a0 - (zand (zushr a0 1) 1431655765)) 2) 858993459)) + (zushr ((zand (a0 - (zand (zushr a0 1) 1431655765)) 858993459) + (zand (zushr (a0 - (zand (zushr a0 1) 1431655765)) 2) 858993459)) 4) ≤ 2147483647) ∧ (-2147483648 ≤ (zand (((zand (a0 - (zand (zushr a0 1) 1431655765)) 858993459) + (zand (zushr (a0 - (zand (zushr a0 1) 1431655765)) 2) 858993459)) + (zushr ((zand (a0 - (zand (zushr a0 1) 1431655765)) 858993459) + (zand (zushr (a0 - (zand (zushr a0 1) 1431655765)) 2) 858993459)) 4)) 252645135) + (zushr (zand (((zand (a0 - (zand (zushr a0 1) 1431655765)) 858993459) + (zand (zushr (a0 - (zand (zushr a0 1) 1431655765)) 2) 858993459)) + (zushr ((zand (a0 - (zand (zushr a0 1) 1431655765)) 858993459) + (zand (zushr (a0 - (zand (zushr a0 1) 1431655765)) 2) 858993459)) 4)) 252645135) 8) ∧ (zand (((zand (a0 - (zand (zushr a0 1) 1431655765)) 858993459) + (zand (zushr (a0 - (zand (zushr a0 1) 1431655765)) 2) 858993459)) + (zushr ((zand (a0 - (zand (zushr a0 1) 1431655765)) 858993459) + (zand (zushr (a0 - (zand (zushr a0 1) 1431655765)) 2) 858993459)) 4)) 252645135) + (zushr (zand (((zand (a0 - (zand (zushr a0 1) 1431655765)) 858993459) + (zand (zushr (a0 - (zand (zushr a0 1) 1431655765)) 2) 858993459)) + (zushr ((zand (a0 - (zand (zushr a0 1) 1431655765)) 858993459) + (zand (zushr (a0 - (zand (zushr a0 1) 1431655765)) 2) 858993459)) 4)) 252645135) 8) ≤ 2147483647) ∧ (-2147483648 ≤ ((zand (((zand (a0 - (zand (zushr a0 1) 1431655765)) 858993459) + (zand (zushr (a0 - (zand (zushr a0 1) 1431655765)) 2) 858993459)) + (zushr ((zand (a0 - (zand (zushr a0 1) 1431655765)) 858993459) + (zand (zushr (a0 - (zand (zushr a0 1) 1431655765)) 2) 858993459)) 4)) 252645135) + (zushr (zand (((zand (a0 - (zand (zushr a0 1) 1431655765)) 858993459) + (zand (zushr (a0 - (zand (zushr a0 1) 1431655765)) 2) 858993459)) + (zushr ((zand (a0 - (zand (zushr a0 1) 1431655765)) 858993459) + (zand (zushr (a0 - (zand (zushr a0 1) 1431655765)) 2) 858993459)) 4)) 252645135) 8)) + (zushr ((zand (((zand (a0 - (zand (zushr a0 1) 1431655765)) 858993459) + (zand (zushr (a0 - (zand (zushr a0 1) 1431655765)) 2) 858993459)) + (zushr ((zand (a0 - (zand (zushr a0 1) 1431655765)) 858993459) + (zand (zushr (a0 - (zand (zushr a0 1) 1431655765)) 2) 858993459)) 4)) 252645135) + (zushr (zand (((zand (a0 - (zand (zushr a0 1) 1431655765)) 858993459) + (zand (zushr (a0 - (zand (zushr a0 1) 1431655765)) 2) 858993459)) + (zushr ((zand (a0 - (zand (zushr a0 1) 1431655765)) 858993459) + (zand (zushr (a0 - (zand (zushr a0 1) 1431655765)) 2) 858993459)) 4)) 252645135) 8)) 16) ∧ ((zand (((zand (a0 - (zand (zushr a0 1) 1431655765)) 858993459) + (zand (zushr (a0 - (zand (zushr a0 1) 1431655765)) 2) 858993459)) + (zushr ((zand (a0 - (zand (zushr a0 1) 1431655765)) 858993459) + (zand (zushr (a0 - (zand (zushr a0 1) 1431655765)) 2) 858993459)) 4)) 252645135) + (zushr (zand (((zand (a0 - (zand (zushr a0 1) 1431655765)) 858993459) + (zand (zushr (a0 - (zand (zushr a0 1) 1431655765)) 2) 858993459)) + (zushr ((zand (a0 - (zand (zushr a0 1) 1431655765)) 858993459) + (zand (zushr (a0 - (zand (zushr a0 1) 1431655765)) 2) 858993459)) 4)) 252645135) 8)) + (zushr ((zand (((zand (a0 - (zand (zushr a0 1) 1431655765)) 858993459) + (zand (zushr (a0 - (zand (zushr a0 1) 1431655765)) 2) 858993459)) + (zushr ((zand (a0 - (zand (zushr a0 1) 1431655765)) 858993459) + (zand (zushr (a0 - (zand (zushr a0 1) 1431655765)) 2) 858993459)) 4)) 252645135) + (zushr (zand (((zand (a0 - (zand (zushr a0 1) 1431655765)) 858993459) + (zand (zushr (a0 - (zand (zushr a0 1) 1431655765)) 2) 858993459)) + (zushr ((zand (a0 - (zand (zushr a0 1) 1431655765)) 858993459) + (zand (zushr (a0 - (zand (zushr a0 1) 1431655765)) 2) 858993459)) 4)) 252645135) 8)) 16) ≤ 2147483647) ∧ ∀ z1 : Int, z1 = ((zand (((zand (a0 - (zand (zushr a0 1) 1431655765)) 858993459) + (zand (zushr (a0 - (zand (zushr a0 1) 1431655765)) 2) 858993459)) + (zushr ((zand (a0 - (zand (zushr a0 1) 1431655765)) 858993459) + (zand (zushr (a0 - (zand (zushr a0 1) 1431655765)) 2) 858993459)) 4)) 252645135) + (zushr (zand (((zand (a0 - (zand (zushr a0 1) 1431655765)) 858993459) + (zand (zushr (a0 - (zand (zushr a0 1) 1431655765)) 2) 858993459)) + (zushr ((zand (a0 - (zand (zushr a0 1) 1431655765)) 858993459) + (zand (zushr (a0 - (zand (zushr a0 1) 1431655765)) 2) 858993459)) 4)) 252645135) 8)) + (zushr ((zand (((zand (a0 - (zand (zushr a0 1) 1431655765)) 858993459) + (zand (zushr (a0 - (zand (zushr a0 1) 1431655765)) 2) 858993459)) + (zushr ((zand (a0 - (zand (zushr a0 1) 1431655765)) 858993459) + (zand (zushr (a0 - (zand (zushr a0 1) 1431655765)) 2) 858993459)) 4)) 252645135) + (zushr (zand (((zand (a0 - (zand (zushr a0 1) 1431655765)) 858993459) + (zand (zushr (a0 - (zand (zushr a0 1) 1431655765)) 2) 858993459)) + (zushr ((zand (a0 - (zand (zushr a0 1) 1431655765)) 858993459) + (zand (zushr (a0 - (zand (zushr a0 1) 1431655765)) 2) 858993459)) 4)) 252645135) 8)) 16) → Q (some (zand z1 63)) σ) : Runs 0 mJ6_bitCount_0f7a4 0 [zI a0] [] σ Q := by
  refine r_blk [qO (.iload_n 0), qO (.iload_n 0), qO (.iconst 1), qO .iushr, qC (.ldc_w 265) 1431655765, qO .iand, qO .isub, qO (.istore_n 0), qO (.iload_n 0), qC (.ldc_w 266) 858993459, qO .iand, qO (.iload_n 0), qO (.iconst 2), qO .iushr, qC (.ldc_w 266) 858993459, qO .iand, qO .iadd, qO (.istore_n 0), qO (.iload_n 0), qO (.iload_n 0), qO (.iconst 4), qO .iushr, qO .iadd, qC (.ldc_w 267) 252645135, qO .iand, qO (.istore_n 0), qO (.iload_n 0), qO (.iload_n 0), qO (.bipush 8), qO .iushr, qO .iadd, qO (.istore_n 0), qO (.iload_n 0), qO (.iload_n 0), qO (.bipush 16), qO .iushr, qO .iadd, qO (.istore_n 0), qO (.iload_n 0), qO (.bipush 63), qO .iand] (pc' := 52) (L' := [zI (((zand (((zand (a0 - (zand (zushr a0 1) 1431655765)) 858993459) + (zand (zushr (a0 - (zand (zushr a0 1) 1431655765)) 2) 858993459)) + (zushr ((zand (a0 - (zand (zushr a0 1) 1431655765)) 858993459) + (zand (zushr (a0 - (zand (zushr a0 1) 1431655765)) 2) 858993459)) 4)) 252645135) + (zushr (zand (((zand (a0 - (zand (zushr a0 1) 1431655765)) 858993459) + (zand (zushr (a0 - (zand (zushr a0 1) 1431655765)) 2) 858993459)) + (zushr ((zand (a0 - (zand (zushr a0 1) 1431655765)) 858993459) + (zand (zushr (a0 - (zand (zushr a0 1) 1431655765)) 2) 858993459)) 4)) 252645135) 8)) + (zushr ((zand (((zand (a0 - (zand (zushr a0 1) 1431655765)) 858993459) + (zand (zushr (a0 - (zand (zushr a0 1) 1431655765)) 2) 858993459)) + (zushr ((zand (a0 - (zand (zushr a0 1) 1431655765)) 858993459) + (zand (zushr (a0 - (zand (zushr a0 1) 1431655765)) 2) 858993459)) 4)) 252645135) + (zushr (zand (((zand (a0 - (zand (zushr a0 1) 1431655765)) 858993459) + (zand (zushr (a0 - (zand (zushr a0 1) 1431655765)) 2) 858993459)) + (zushr ((zand (a0 - (zand (zushr a0 1) 1431655765)) 858993459) + (zand (zushr (a0 - (zand (zushr a0 1) 1431655765)) 2) 858993459)) 4)) 252645135) 8)) 16))]) (S' := [zI (zand (((zand (((zand (a0 - (zand (zushr a0 1) 1431655765)) 858993459) + (zand (zushr (a0 - (zand (zushr a0 1) 1431655765)) 2) 858993459)) + (zushr ((zand (a0 - (zand (zushr a0 1) 1431655765)) 858993459) + (zand (zushr (a0 - (zand (zushr a0 1) 1431655765)) 2) 858993459)) 4)) 252645135) + (zushr (zand (((zand (a0 - (zand (zushr a0 1) 1431655765)) 858993459) + (zand (zushr (a0 - (zand (zushr a0 1) 1431655765)) 2) 858993459)) + (zushr ((zand (a0 - (zand (zushr a0 1) 1431655765)) 858993459) + (zand (zushr (a0 - (zand (zushr a0 1) 1431655765)) 2) 858993459)) 4)) 252645135) 8)) + (zushr ((zand (((zand (a0 - (zand (zushr a0 1) 1431655765)) 858993459) + (zand (zushr (a0 - (zand (zushr a0 1) 1431655765)) 2) 858993459)) + (zushr ((zand (a0 - (zand (zushr a0 1) 1431655765)) 858993459) + (zand (zushr (a0 - (zand (zushr a0 1) 1431655765)) 2) 858993459)) 4)) 252645135) + (zushr (zand (((zand (a0 - (zand (zushr a0 1) 1431655765)) 858993459) + (zand (zushr (a0 - (zand (zushr a0 1) 1431655765)) 2) 858993459)) + (zushr ((zand (a0 - (zand (zushr a0 1) 1431655765)) 858993459) + (zand (zushr (a0 - (zand (zushr a0 1) 1431655765)) 2) 858993459)) 4)) 252645135) 8)) 16)) 63)]) (σ' := σ) (Ps := [-2147483648 ≤ a0 - (zand (zushr a0 1) 1431655765) ∧ a0 - (zand (zushr a0 1) 1431655765) ≤ 2147483647, -2147483648 ≤ (zand (a0 - (zand (zushr a0 1) 1431655765)) 858993459) + (zand (zushr (a0 - (zand (zushr a0 1) 1431655765)) 2) 858993459) ∧ (zand (a0 - (zand (zushr a0 1) 1431655765)) 858993459) + (zand (zushr (a0 - (zand (zushr a0 1) 1431655765)) 2) 858993459) ≤ 2147483647, -2147483648 ≤ ((zand (a0 - (zand (zushr a0 1) 1431655765)) 858993459) + (zand (zushr (a0 - (zand (zushr a0 1) 1431655765)) 2) 858993459)) + (zushr ((zand (a0 - (zand (zushr a0 1) 1431655765)) 858993459) + (zand (zushr (a0 - (zand (zushr a0 1) 1431655765)) 2) 858993459)) 4) ∧ ((zand (a0 - (zand (zushr a0 1) 1431655765)) 858993459) + (zand (zushr (a0 - (zand (zushr a0 1) 1431655765)) 2) 858993459)) + (zushr ((zand (a0 - (zand (zushr a0 1) 1431655765)) 858993459) + (zand (zushr (a0 - (zand (zushr a0 1) 1431655765)) 2) 858993459)) 4) ≤ 2147483647, -2147483648 ≤ (zand (((zand (a0 - (zand (zushr a0 1) 1431655765)) 858993459) + (zand (zushr (a0 - (zand (zushr a0 1) 1431655765)) 2) 858993459)) + (zushr ((zand (a0 - (zand (zushr a0 1) 1431655765)) 858993459) + (zand (zushr (a0 - (zand (zushr a0 1) 1431655765)) 2) 858993459)) 4)) 252645135) + (zushr (zand (((zand (a0 - (zand (zushr a0 1) 1431655765)) 858993459) + (zand (zushr (a0 - (zand (zushr a0 1) 1431655765)) 2) 858993459)) + (zushr ((zand (a0 - (zand (zushr a0 1) 1431655765)) 858993459) + (zand (zushr (a0 - (zand (zushr a0 1) 1431655765)) 2) 858993459)) 4)) 252645135) 8) ∧ (zand (((zand (a0 - (zand (zushr a0 1) 1431655765)) 858993459) + (zand (zushr (a0 - (zand (zushr a0 1) 1431655765)) 2) 858993459)) + (zushr ((zand (a0 - (zand (zushr a0 1) 1431655765)) 858993459) + (zand (zushr (a0 - (zand (zushr a0 1) 1431655765)) 2) 858993459)) 4)) 252645135) + (zushr (zand (((zand (a0 - (zand (zushr a0 1) 1431655765)) 858993459) + (zand (zushr (a0 - (zand (zushr a0 1) 1431655765)) 2) 858993459)) + (zushr ((zand (a0 - (zand (zushr a0 1) 1431655765)) 858993459) + (zand (zushr (a0 - (zand (zushr a0 1) 1431655765)) 2) 858993459)) 4)) 252645135) 8) ≤ 2147483647, -2147483648 ≤ ((zand (((zand (a0 - (zand (zushr a0 1) 1431655765)) 858993459) + (zand (zushr (a0 - (zand (zushr a0 1) 1431655765)) 2) 858993459)) + (zushr ((zand (a0 - (zand (zushr a0 1) 1431655765)) 858993459) + (zand (zushr (a0 - (zand (zushr a0 1) 1431655765)) 2) 858993459)) 4)) 252645135) + (zushr (zand (((zand (a0 - (zand (zushr a0 1) 1431655765)) 858993459) + (zand (zushr (a0 - (zand (zushr a0 1) 1431655765)) 2) 858993459)) + (zushr ((zand (a0 - (zand (zushr a0 1) 1431655765)) 858993459) + (zand (zushr (a0 - (zand (zushr a0 1) 1431655765)) 2) 858993459)) 4)) 252645135) 8)) + (zushr ((zand (((zand (a0 - (zand (zushr a0 1) 1431655765)) 858993459) + (zand (zushr (a0 - (zand (zushr a0 1) 1431655765)) 2) 858993459)) + (zushr ((zand (a0 - (zand (zushr a0 1) 1431655765)) 858993459) + (zand (zushr (a0 - (zand (zushr a0 1) 1431655765)) 2) 858993459)) 4)) 252645135) + (zushr (zand (((zand (a0 - (zand (zushr a0 1) 1431655765)) 858993459) + (zand (zushr (a0 - (zand (zushr a0 1) 1431655765)) 2) 858993459)) + (zushr ((zand (a0 - (zand (zushr a0 1) 1431655765)) 858993459) + (zand (zushr (a0 - (zand (zushr a0 1) 1431655765)) 2) 858993459)) 4)) 252645135) 8)) 16) ∧ ((zand (((zand (a0 - (zand (zushr a0 1) 1431655765)) 858993459) + (zand (zushr (a0 - (zand (zushr a0 1) 1431655765)) 2) 858993459)) + (zushr ((zand (a0 - (zand (zushr a0 1) 1431655765)) 858993459) + (zand (zushr (a0 - (zand (zushr a0 1) 1431655765)) 2) 858993459)) 4)) 252645135) + (zushr (zand (((zand (a0 - (zand (zushr a0 1) 1431655765)) 858993459) + (zand (zushr (a0 - (zand (zushr a0 1) 1431655765)) 2) 858993459)) + (zushr ((zand (a0 - (zand (zushr a0 1) 1431655765)) 858993459) + (zand (zushr (a0 - (zand (zushr a0 1) 1431655765)) 2) 858993459)) 4)) 252645135) 8)) + (zushr ((zand (((zand (a0 - (zand (zushr a0 1) 1431655765)) 858993459) + (zand (zushr (a0 - (zand (zushr a0 1) 1431655765)) 2) 858993459)) + (zushr ((zand (a0 - (zand (zushr a0 1) 1431655765)) 858993459) + (zand (zushr (a0 - (zand (zushr a0 1) 1431655765)) 2) 858993459)) 4)) 252645135) + (zushr (zand (((zand (a0 - (zand (zushr a0 1) 1431655765)) 858993459) + (zand (zushr (a0 - (zand (zushr a0 1) 1431655765)) 2) 858993459)) + (zushr ((zand (a0 - (zand (zushr a0 1) 1431655765)) 858993459) + (zand (zushr (a0 - (zand (zushr a0 1) 1431655765)) 2) 858993459)) 4)) 252645135) 8)) 16) ≤ 2147483647]) (by decide +kernel) rfl ⟨h.1, h.2.1, h.2.2.1, h.2.2.2.1, h.2.2.2.2.1, trivial⟩ ?_
  replace h := h.2.2.2.2.2
  generalize hz1 : ((zand (((zand (a0 - (zand (zushr a0 1) 1431655765)) 858993459) + (zand (zushr (a0 - (zand (zushr a0 1) 1431655765)) 2) 858993459)) + (zushr ((zand (a0 - (zand (zushr a0 1) 1431655765)) 858993459) + (zand (zushr (a0 - (zand (zushr a0 1) 1431655765)) 2) 858993459)) 4)) 252645135) + (zushr (zand (((zand (a0 - (zand (zushr a0 1) 1431655765)) 858993459) + (zand (zushr (a0 - (zand (zushr a0 1) 1431655765)) 2) 858993459)) + (zushr ((zand (a0 - (zand (zushr a0 1) 1431655765)) 858993459) + (zand (zushr (a0 - (zand (zushr a0 1) 1431655765)) 2) 858993459)) 4)) 252645135) 8)) + (zushr ((zand (((zand (a0 - (zand (zushr a0 1) 1431655765)) 858993459) + (zand (zushr (a0 - (zand (zushr a0 1) 1431655765)) 2) 858993459)) + (zushr ((zand (a0 - (zand (zushr a0 1) 1431655765)) 858993459) + (zand (zushr (a0 - (zand (zushr a0 1) 1431655765)) 2) 858993459)) 4)) 252645135) + (zushr (zand (((zand (a0 - (zand (zushr a0 1) 1431655765)) 858993459) + (zand (zushr (a0 - (zand (zushr a0 1) 1431655765)) 2) 858993459)) + (zushr ((zand (a0 - (zand (zushr a0 1) 1431655765)) 858993459) + (zand (zushr (a0 - (zand (zushr a0 1) 1431655765)) 2) 858993459)) 4)) 252645135) 8)) 16) = z1
  replace h := h z1 hz1.symm
  exact r_ret (by decide +kernel) rfl (fun _ => h)
theorem gX9_fewestForCost_0 (a0 : Int) (σ : Hp) {Q : Option Int → Hp → Prop} (h : (-2147483648 ≤ (if 1000000 < a0 then 1000000 else a0) + 1 ∧ (if 1000000 < a0 then 1000000 else a0) + 1 ≤ 2147483647) ∧ (-2147483648 ≤ (zshl 1 (σ 1 0 1)) - 1 ∧ (zshl 1 (σ 1 0 1)) - 1 ≤ 2147483647) ∧ ∀ σ1 : Hp, σ1 = zup σ 16 0 6 (tOpen σ ((zshl 1 (σ 1 0 1)) - 1)) → Runs 5 mX1_totalUpTo 0 [zR 25 0, zI ((if 1000000 < a0 then 1000000 else a0) + 1), zU, zU] [] σ1 (rI (fun z3 σ2 => ((z3 ≤ a0 → Runs 6 mX9_fewestForCost 47 [zR 26 0, zI a0, zI ((if 1000000 < a0 then 1000000 else a0) + 1), zI 0, zI 0] [] σ2 Q) ∧ (¬ z3 ≤ a0 → Q (some (-9)) σ2))))) : Runs 6 mX9_fewestForCost 0 [zR 26 0, zI a0, zU, zU, zU] [] σ Q := by
  refine r_blk [qO (.iload_n 1), qC (.ldc 31) 1000000] (pc' := 3) (L' := [zR 26 0, zI a0, zU, zU, zU]) (S' := [zI 1000000, zI a0]) (σ' := σ) (Ps := []) (by decide +kernel) rfl trivial ?_
  refine r_min lkX9_76 (by decide +kernel) (by decide) (Nat.le_of_ble_eq_true rfl) ?_
  refine r_blk [qO (.iconst 1), qO .iadd, qO (.istore_n 2), qO (.aload_n 0), qF (.getfield 15) 9 1, qO (.iconst 1), qO (.aload_n 0), qF (.getfield 9) 9 0, qF (.getfield 32) 6 1, qO .ishl, qO (.iconst 1), qO .isub] (pc' := 24) (L' := [zR 26 0, zI a0, zI ((if 1000000 < a0 then 1000000 else a0) + 1), zU, zU]) (S' := [zI ((zshl 1 (σ 1 0 1)) - 1), zR 16 0]) (σ' := σ) (Ps := [-2147483648 ≤ (if 1000000 < a0 then 1000000 else a0) + 1 ∧ (if 1000000 < a0 then 1000000 else a0) + 1 ≤ 2147483647, -2147483648 ≤ (zshl 1 (σ 1 0 1)) - 1 ∧ (zshl 1 (σ 1 0 1)) - 1 ≤ 2147483647]) (by decide +kernel) rfl ⟨h.1, h.2.1, trivial⟩ ?_
  replace h := h.2.2
  refine r_callVV (As := [zI ((zshl 1 (σ 1 0 1)) - 1)]) (S := []) (Lc := [zR 16 0, zI ((zshl 1 (σ 1 0 1)) - 1)]) (d' := 0) (n := 1) (g := 16) (x := 0) (ci := 7) kX7_openBothWays vX7_openBothWays lkX9_81 (by decide +kernel) (by decide) rfl rfl (by decide) rfl rfl (Nat.le_of_ble_eq_true rfl) rfl rfl (Nat.le_of_ble_eq_true rfl) (pX7_openBothWays  ?_)
  generalize hσ1 : zup σ 16 0 6 (tOpen σ ((zshl 1 (σ 1 0 1)) - 1)) = σ1
  replace h := h σ1 hσ1.symm
  refine r_blk [qO (.aload_n 0), qF (.getfield 27) 9 4, qO (.iload_n 2)] (pc' := 32) (L' := [zR 26 0, zI a0, zI ((if 1000000 < a0 then 1000000 else a0) + 1), zU, zU]) (S' := [zI ((if 1000000 < a0 then 1000000 else a0) + 1), zR 25 0]) (σ' := σ1) (Ps := []) (by decide +kernel) rfl trivial ?_
  refine r_callVI (As := [zI ((if 1000000 < a0 then 1000000 else a0) + 1)]) (S := []) (Lc := [zR 25 0, zI ((if 1000000 < a0 then 1000000 else a0) + 1), zU, zU]) (d' := 5) (n := 1) (g := 25) (x := 0) (ci := 1) kX1_totalUpTo vX1_totalUpTo lkX9_48 (by decide +kernel) (by decide) rfl rfl (by decide) rfl rfl (Nat.le_of_ble_eq_true rfl) rfl rfl (Nat.le_of_ble_eq_true rfl) (h.monoI (fun z3 σ2 h => ?_))
  refine r_blk [qO (.iload_n 1)] (pc' := 36) (L' := [zR 26 0, zI a0, zI ((if 1000000 < a0 then 1000000 else a0) + 1), zU, zU]) (S' := [zI a0, zI z3]) (σ' := σ2) (Ps := []) (by decide +kernel) rfl trivial ?_
  refine r_icmp_le (off := 6) (tgt := 42) (by decide +kernel) (by decide) (fun c => ?_) (fun c => ?_)
  · replace h := h.1 c
    refine r_blk [qO (.iconst 0), qO (.istore_n 3), qO (.iconst 0), qO (.istore 4)] (pc' := 47) (L' := [zR 26 0, zI a0, zI ((if 1000000 < a0 then 1000000 else a0) + 1), zI 0, zI 0]) (S' := []) (σ' := σ2) (Ps := []) (by decide +kernel) rfl trivial ?_
    exact Runs.fg (fgE (fgE (fgE (fgE (fgE fg0))))) h
  · replace h := h.2 c
    refine r_blk [qO (.bipush (-9))] (pc' := 41) (L' := [zR 26 0, zI a0, zI ((if 1000000 < a0 then 1000000 else a0) + 1), zU, zU]) (S' := [zI (-9)]) (σ' := σ2) (Ps := []) (by decide +kernel) rfl trivial ?_
    exact r_ret (by decide +kernel) rfl (fun _ => h)
theorem gX9_fewestForCost_47 (l1 : Int) (l2 : Int) (l3 : Int) (l4 : Int) (σ : Hp) {Q : Option Int → Hp → Prop} (h : ((zshl 1 (σ 1 0 1) ≤ l4 → Q (some (-9)) σ) ∧ (¬ zshl 1 (σ 1 0 1) ≤ l4 → ∀ σ1 : Hp, σ1 = zup σ 16 0 6 (tOpen σ l3) → Runs 5 mX1_totalUpTo 0 [zR 25 0, zI l2, zU, zU] [] σ1 (rI (fun z3 σ2 => ((l1 < z3 → Runs 1 mX9_nextByFewest 0 [zR 26 0, zI l3, zU, zU, zU] [] σ2 (rI (fun z5 σ4 => (-2147483648 ≤ l4 + 1 ∧ l4 + 1 ≤ 2147483647) ∧ Runs 6 mX9_fewestForCost 47 [zR 26 0, zI l1, zI l2, zI z5, zI (l4 + 1)] [] σ4 Q))) ∧ (¬ l1 < z3 → Q (some l3) σ2))))))) : Runs 6 mX9_fewestForCost 47 [zR 26 0, zI l1, zI l2, zI l3, zI l4] [] σ Q := by
  refine r_blk [qO (.iload 4), qO (.iconst 1), qO (.aload_n 0), qF (.getfield 9) 9 0, qF (.getfield 32) 6 1, qO .ishl] (pc' := 58) (L' := [zR 26 0, zI l1, zI l2, zI l3, zI l4]) (S' := [zI (zshl 1 (σ 1 0 1)), zI l4]) (σ' := σ) (Ps := []) (by decide +kernel) rfl trivial ?_
  refine r_icmp_ge (off := 37) (tgt := 95) (by decide +kernel) (by decide) (fun c => ?_) (fun c => ?_)
  · replace h := h.1 c
    refine r_blk [qO (.bipush (-9))] (pc' := 97) (L' := [zR 26 0, zI l1, zI l2, zI l3, zI l4]) (S' := [zI (-9)]) (σ' := σ) (Ps := []) (by decide +kernel) rfl trivial ?_
    exact r_ret (by decide +kernel) rfl (fun _ => h)
  · replace h := h.2 c
    refine r_blk [qO (.aload_n 0), qF (.getfield 15) 9 1, qO (.iload_n 3)] (pc' := 66) (L' := [zR 26 0, zI l1, zI l2, zI l3, zI l4]) (S' := [zI l3, zR 16 0]) (σ' := σ) (Ps := []) (by decide +kernel) rfl trivial ?_
    refine r_callVV (As := [zI l3]) (S := []) (Lc := [zR 16 0, zI l3]) (d' := 0) (n := 1) (g := 16) (x := 0) (ci := 7) kX7_openBothWays vX7_openBothWays lkX9_81 (by decide +kernel) (by decide) rfl rfl (by decide) rfl rfl (Nat.le_of_ble_eq_true rfl) rfl rfl (Nat.le_of_ble_eq_true rfl) (pX7_openBothWays  ?_)
    generalize hσ1 : zup σ 16 0 6 (tOpen σ l3) = σ1
    replace h := h σ1 hσ1.symm
    refine r_blk [qO (.aload_n 0), qF (.getfield 27) 9 4, qO (.iload_n 2)] (pc' := 74) (L' := [zR 26 0, zI l1, zI l2, zI l3, zI l4]) (S' := [zI l2, zR 25 0]) (σ' := σ1) (Ps := []) (by decide +kernel) rfl trivial ?_
    refine r_callVI (As := [zI l2]) (S := []) (Lc := [zR 25 0, zI l2, zU, zU]) (d' := 5) (n := 1) (g := 25) (x := 0) (ci := 1) kX1_totalUpTo vX1_totalUpTo lkX9_48 (by decide +kernel) (by decide) rfl rfl (by decide) rfl rfl (Nat.le_of_ble_eq_true rfl) rfl rfl (Nat.le_of_ble_eq_true rfl) (h.monoI (fun z3 σ2 h => ?_))
    refine r_blk [qO (.iload_n 1)] (pc' := 78) (L' := [zR 26 0, zI l1, zI l2, zI l3, zI l4]) (S' := [zI l1, zI z3]) (σ' := σ2) (Ps := []) (by decide +kernel) rfl trivial ?_
    refine r_icmp_gt (off := 5) (tgt := 83) (by decide +kernel) (by decide) (fun c => ?_) (fun c => ?_)
    · replace h := h.1 c
      refine r_blk [qO (.aload_n 0), qO (.iload_n 3)] (pc' := 85) (L' := [zR 26 0, zI l1, zI l2, zI l3, zI l4]) (S' := [zI l3, zR 26 0]) (σ' := σ2) (Ps := []) (by decide +kernel) rfl trivial ?_
      refine r_callVI (As := [zI l3]) (S := []) (Lc := [zR 26 0, zI l3, zU, zU, zU]) (d' := 1) (n := 1) (g := 26) (x := 0) (ci := 9) kX9_nextByFewest vX9_nextByFewest lkX9_84 (by decide +kernel) (by decide) rfl rfl (by decide) rfl rfl (Nat.le_of_ble_eq_true rfl) rfl rfl (Nat.le_of_ble_eq_true rfl) (h.monoI (fun z5 σ4 h => ?_))
      refine r_blk [qO (.istore_n 3), qO (.iinc 4 1), qO (.goto (-45))] (pc' := 47) (L' := [zR 26 0, zI l1, zI l2, zI z5, zI (l4 + 1)]) (S' := []) (σ' := σ4) (Ps := [-2147483648 ≤ l4 + 1 ∧ l4 + 1 ≤ 2147483647]) (by decide +kernel) rfl ⟨h.1, trivial⟩ ?_
      replace h := h.2
      exact Runs.fg (fgE (fgE (fgE (fgE (fgE fg0))))) h
    · replace h := h.2 c
      refine r_blk [qO (.iload_n 3)] (pc' := 82) (L' := [zR 26 0, zI l1, zI l2, zI l3, zI l4]) (S' := [zI l3]) (σ' := σ2) (Ps := []) (by decide +kernel) rfl trivial ?_
      exact r_ret (by decide +kernel) rfl (fun _ => h)
theorem gX9_fewestForReach_0 (a0 : Int) (a1 : Int) (a2 : Int) (σ : Hp) {Q : Option Int → Hp → Prop} (h : (-2147483648 ≤ (zshl 1 (σ 1 0 1)) - 1 ∧ (zshl 1 (σ 1 0 1)) - 1 ≤ 2147483647) ∧ ∀ σ1 : Hp, σ1 = zup σ 16 0 6 (tOpen σ ((zshl 1 (σ 1 0 1)) - 1)) → Runs 3 mX8_setOut 0 [zR 17 0, zI a0, zI (-1), zI a1, zU, zU] [] σ1 (rV (fun σ2 => (-2147483648 ≤ a1 + a2 ∧ a1 + a2 ≤ 2147483647) ∧ Runs 1 mX9_allReachedBy 0 [zR 26 0, zI (a1 + a2), zU, zU] [] σ2 (rI (fun z4 σ3 => ((¬ z4 = 0 → Runs 4 mX9_fewestForReach 47 [zR 26 0, zI a0, zI a1, zI a2, zI 0, zI 0] [] σ3 Q) ∧ (z4 = 0 → Q (some (-9)) σ3))))))) : Runs 4 mX9_fewestForReach 0 [zR 26 0, zI a0, zI a1, zI a2, zU, zU] [] σ Q := by
  refine r_blk [qO (.aload_n 0), qF (.getfield 15) 9 1, qO (.iconst 1), qO (.aload_n 0), qF (.getfield 9) 9 0, qF (.getfield 32) 6 1, qO .ishl, qO (.iconst 1), qO .isub] (pc' := 15) (L' := [zR 26 0, zI a0, zI a1, zI a2, zU, zU]) (S' := [zI ((zshl 1 (σ 1 0 1)) - 1), zR 16 0]) (σ' := σ) (Ps := [-2147483648 ≤ (zshl 1 (σ 1 0 1)) - 1 ∧ (zshl 1 (σ 1 0 1)) - 1 ≤ 2147483647]) (by decide +kernel) rfl ⟨h.1, trivial⟩ ?_
  replace h := h.2
  refine r_callVV (As := [zI ((zshl 1 (σ 1 0 1)) - 1)]) (S := []) (Lc := [zR 16 0, zI ((zshl 1 (σ 1 0 1)) - 1)]) (d' := 0) (n := 1) (g := 16) (x := 0) (ci := 7) kX7_openBothWays vX7_openBothWays lkX9_81 (by decide +kernel) (by decide) rfl rfl (by decide) rfl rfl (Nat.le_of_ble_eq_true rfl) rfl rfl (Nat.le_of_ble_eq_true rfl) (pX7_openBothWays  ?_)
  generalize hσ1 : zup σ 16 0 6 (tOpen σ ((zshl 1 (σ 1 0 1)) - 1)) = σ1
  replace h := h σ1 hσ1.symm
  refine r_blk [qO (.aload_n 0), qF (.getfield 19) 9 2, qO (.iload_n 1), qO (.iconst (-1)), qO (.iload_n 2)] (pc' := 25) (L' := [zR 26 0, zI a0, zI a1, zI a2, zU, zU]) (S' := [zI a1, zI (-1), zI a0, zR 17 0]) (σ' := σ1) (Ps := []) (by decide +kernel) rfl trivial ?_
  refine r_callVV (As := [zI a0, zI (-1), zI a1]) (S := []) (Lc := [zR 17 0, zI a0, zI (-1), zI a1, zU, zU]) (d' := 3) (n := 3) (g := 17) (x := 0) (ci := 8) kX8_setOut vX8_setOut lkX9_87 (by decide +kernel) (by decide) rfl rfl (by decide) rfl rfl (Nat.le_of_ble_eq_true rfl) rfl rfl (Nat.le_of_ble_eq_true rfl) (h.monoV (fun σ2 h => ?_))
  refine r_blk [qO (.aload_n 0), qO (.iload_n 2), qO (.iload_n 3), qO .iadd] (pc' := 32) (L' := [zR 26 0, zI a0, zI a1, zI a2, zU, zU]) (S' := [zI (a1 + a2), zR 26 0]) (σ' := σ2) (Ps := [-2147483648 ≤ a1 + a2 ∧ a1 + a2 ≤ 2147483647]) (by decide +kernel) rfl ⟨h.1, trivial⟩ ?_
  replace h := h.2
  refine r_callVI (As := [zI (a1 + a2)]) (S := []) (Lc := [zR 26 0, zI (a1 + a2), zU, zU]) (d' := 1) (n := 1) (g := 26) (x := 0) (ci := 9) kX9_allReachedBy vX9_allReachedBy lkX9_93 (by decide +kernel) (by decide) rfl rfl (by decide) rfl rfl (Nat.le_of_ble_eq_true rfl) rfl rfl (Nat.le_of_ble_eq_true rfl) (h.monoI (fun z4 σ3 h => ?_))
  refine r_if_ne (off := 6) (tgt := 41) (by decide +kernel) (by decide) (fun c => ?_) (fun c => ?_)
  · replace h := h.1 c
    refine r_blk [qO (.iconst 0), qO (.istore 4), qO (.iconst 0), qO (.istore 5)] (pc' := 47) (L' := [zR 26 0, zI a0, zI a1, zI a2, zI 0, zI 0]) (S' := []) (σ' := σ3) (Ps := []) (by decide +kernel) rfl trivial ?_
    exact Runs.fg (fgE (fgE (fgE (fgE (fgE (fgE fg0)))))) h
  · replace h := h.2 c
    refine r_blk [qO (.bipush (-9))] (pc' := 40) (L' := [zR 26 0, zI a0, zI a1, zI a2, zU, zU]) (S' := [zI (-9)]) (σ' := σ3) (Ps := []) (by decide +kernel) rfl trivial ?_
    exact r_ret (by decide +kernel) rfl (fun _ => h)
theorem gX9_fewestForReach_47 (l1 : Int) (l2 : Int) (l3 : Int) (l4 : Int) (l5 : Int) (σ : Hp) {Q : Option Int → Hp → Prop} (h : ((zshl 1 (σ 1 0 1) ≤ l5 → Q (some (-9)) σ) ∧ (¬ zshl 1 (σ 1 0 1) ≤ l5 → ∀ σ1 : Hp, σ1 = zup σ 16 0 6 (tOpen σ l4) → Runs 3 mX8_setOut 0 [zR 17 0, zI l1, zI (-1), zI l2, zU, zU] [] σ1 (rV (fun σ2 => (-2147483648 ≤ l2 + l3 ∧ l2 + l3 ≤ 2147483647) ∧ Runs 1 mX9_allReachedBy 0 [zR 26 0, zI (l2 + l3), zU, zU] [] σ2 (rI (fun z4 σ3 => ((z4 = 0 → Runs 1 mX9_nextByFewest 0 [zR 26 0, zI l4, zU, zU, zU] [] σ3 (rI (fun z6 σ5 => (-2147483648 ≤ l5 + 1 ∧ l5 + 1 ≤ 2147483647) ∧ Runs 4 mX9_fewestForReach 47 [zR 26 0, zI l1, zI l2, zI l3, zI z6, zI (l5 + 1)] [] σ5 Q))) ∧ (¬ z4 = 0 → Q (some l4) σ3))))))))) : Runs 4 mX9_fewestForReach 47 [zR 26 0, zI l1, zI l2, zI l3, zI l4, zI l5] [] σ Q := by
  refine r_blk [qO (.iload 5), qO (.iconst 1), qO (.aload_n 0), qF (.getfield 9) 9 0, qF (.getfield 32) 6 1, qO .ishl] (pc' := 58) (L' := [zR 26 0, zI l1, zI l2, zI l3, zI l4, zI l5]) (S' := [zI (zshl 1 (σ 1 0 1)), zI l5]) (σ' := σ) (Ps := []) (by decide +kernel) rfl trivial ?_
  refine r_icmp_ge (off := 49) (tgt := 107) (by decide +kernel) (by decide) (fun c => ?_) (fun c => ?_)
  · replace h := h.1 c
    refine r_blk [qO (.bipush (-9))] (pc' := 109) (L' := [zR 26 0, zI l1, zI l2, zI l3, zI l4, zI l5]) (S' := [zI (-9)]) (σ' := σ) (Ps := []) (by decide +kernel) rfl trivial ?_
    exact r_ret (by decide +kernel) rfl (fun _ => h)
  · replace h := h.2 c
    refine r_blk [qO (.aload_n 0), qF (.getfield 15) 9 1, qO (.iload 4)] (pc' := 67) (L' := [zR 26 0, zI l1, zI l2, zI l3, zI l4, zI l5]) (S' := [zI l4, zR 16 0]) (σ' := σ) (Ps := []) (by decide +kernel) rfl trivial ?_
    refine r_callVV (As := [zI l4]) (S := []) (Lc := [zR 16 0, zI l4]) (d' := 0) (n := 1) (g := 16) (x := 0) (ci := 7) kX7_openBothWays vX7_openBothWays lkX9_81 (by decide +kernel) (by decide) rfl rfl (by decide) rfl rfl (Nat.le_of_ble_eq_true rfl) rfl rfl (Nat.le_of_ble_eq_true rfl) (pX7_openBothWays  ?_)
    generalize hσ1 : zup σ 16 0 6 (tOpen σ l4) = σ1
    replace h := h σ1 hσ1.symm
    refine r_blk [qO (.aload_n 0), qF (.getfield 19) 9 2, qO (.iload_n 1), qO (.iconst (-1)), qO (.iload_n 2)] (pc' := 77) (L' := [zR 26 0, zI l1, zI l2, zI l3, zI l4, zI l5]) (S' := [zI l2, zI (-1), zI l1, zR 17 0]) (σ' := σ1) (Ps := []) (by decide +kernel) rfl trivial ?_
    refine r_callVV (As := [zI l1, zI (-1), zI l2]) (S := []) (Lc := [zR 17 0, zI l1, zI (-1), zI l2, zU, zU]) (d' := 3) (n := 3) (g := 17) (x := 0) (ci := 8) kX8_setOut vX8_setOut lkX9_87 (by decide +kernel) (by decide) rfl rfl (by decide) rfl rfl (Nat.le_of_ble_eq_true rfl) rfl rfl (Nat.le_of_ble_eq_true rfl) (h.monoV (fun σ2 h => ?_))
    refine r_blk [qO (.aload_n 0), qO (.iload_n 2), qO (.iload_n 3), qO .iadd] (pc' := 84) (L' := [zR 26 0, zI l1, zI l2, zI l3, zI l4, zI l5]) (S' := [zI (l2 + l3), zR 26 0]) (σ' := σ2) (Ps := [-2147483648 ≤ l2 + l3 ∧ l2 + l3 ≤ 2147483647]) (by decide +kernel) rfl ⟨h.1, trivial⟩ ?_
    replace h := h.2
    refine r_callVI (As := [zI (l2 + l3)]) (S := []) (Lc := [zR 26 0, zI (l2 + l3), zU, zU]) (d' := 1) (n := 1) (g := 26) (x := 0) (ci := 9) kX9_allReachedBy vX9_allReachedBy lkX9_93 (by decide +kernel) (by decide) rfl rfl (by decide) rfl rfl (Nat.le_of_ble_eq_true rfl) rfl rfl (Nat.le_of_ble_eq_true rfl) (h.monoI (fun z4 σ3 h => ?_))
    refine r_if_eq (off := 6) (tgt := 93) (by decide +kernel) (by decide) (fun c => ?_) (fun c => ?_)
    · replace h := h.1 c
      refine r_blk [qO (.aload_n 0), qO (.iload 4)] (pc' := 96) (L' := [zR 26 0, zI l1, zI l2, zI l3, zI l4, zI l5]) (S' := [zI l4, zR 26 0]) (σ' := σ3) (Ps := []) (by decide +kernel) rfl trivial ?_
      refine r_callVI (As := [zI l4]) (S := []) (Lc := [zR 26 0, zI l4, zU, zU, zU]) (d' := 1) (n := 1) (g := 26) (x := 0) (ci := 9) kX9_nextByFewest vX9_nextByFewest lkX9_84 (by decide +kernel) (by decide) rfl rfl (by decide) rfl rfl (Nat.le_of_ble_eq_true rfl) rfl rfl (Nat.le_of_ble_eq_true rfl) (h.monoI (fun z6 σ5 h => ?_))
      refine r_blk [qO (.istore 4), qO (.iinc 5 1), qO (.goto (-57))] (pc' := 47) (L' := [zR 26 0, zI l1, zI l2, zI l3, zI z6, zI (l5 + 1)]) (S' := []) (σ' := σ5) (Ps := [-2147483648 ≤ l5 + 1 ∧ l5 + 1 ≤ 2147483647]) (by decide +kernel) rfl ⟨h.1, trivial⟩ ?_
      replace h := h.2
      exact Runs.fg (fgE (fgE (fgE (fgE (fgE (fgE fg0)))))) h
    · replace h := h.2 c
      refine r_blk [qO (.iload 4)] (pc' := 92) (L' := [zR 26 0, zI l1, zI l2, zI l3, zI l4, zI l5]) (S' := [zI l4]) (σ' := σ3) (Ps := []) (by decide +kernel) rfl trivial ?_
      exact r_ret (by decide +kernel) rfl (fun _ => h)
theorem gX9_allReachedBy_0 (a0 : Int) (σ : Hp) {Q : Option Int → Hp → Prop} (h : Runs 1 mX9_allReachedBy 2 [zR 26 0, zI a0, zI 0, zU] [] σ Q) : Runs 1 mX9_allReachedBy 0 [zR 26 0, zI a0, zU, zU] [] σ Q := by
  refine r_blk [qO (.iconst 0), qO (.istore_n 2)] (pc' := 2) (L' := [zR 26 0, zI a0, zI 0, zU]) (S' := []) (σ' := σ) (Ps := []) (by decide +kernel) rfl trivial ?_
  exact Runs.fg (fgE (fgE (fgE (fgU fg0)))) h
theorem gX9_allReachedBy_2 (l1 : Int) (l2 : Int) (σ : Hp) {Q : Option Int → Hp → Prop} (h : ((σ 1 0 0 ≤ l2 → Q (some 1) σ) ∧ (¬ σ 1 0 0 ≤ l2 → (0 ≤ l2 ∧ l2 < 10) ∧ ((zmin σ l2 = (-9) → Q (some 0) σ) ∧ (¬ zmin σ l2 = (-9) → ((zmin σ l2 ≤ l1 → (-2147483648 ≤ l2 + 1 ∧ l2 + 1 ≤ 2147483647) ∧ Runs 1 mX9_allReachedBy 2 [zR 26 0, zI l1, zI (l2 + 1), zU] [] σ Q) ∧ (¬ zmin σ l2 ≤ l1 → Q (some 0) σ))))))) : Runs 1 mX9_allReachedBy 2 [zR 26 0, zI l1, zI l2, zU] [] σ Q := by
  refine r_blk [qO (.iload_n 2), qO (.aload_n 0), qF (.getfield 9) 9 0, qF (.getfield 97) 6 0] (pc' := 10) (L' := [zR 26 0, zI l1, zI l2, zU]) (S' := [zI (σ 1 0 0), zI l2]) (σ' := σ) (Ps := []) (by decide +kernel) rfl trivial ?_
  refine r_icmp_ge (off := 31) (tgt := 41) (by decide +kernel) (by decide) (fun c => ?_) (fun c => ?_)
  · replace h := h.1 c
    refine r_blk [qO (.iconst 1)] (pc' := 42) (L' := [zR 26 0, zI l1, zI l2, zU]) (S' := [zI 1]) (σ' := σ) (Ps := []) (by decide +kernel) rfl trivial ?_
    exact r_retz (by decide +kernel) rfl (by decide) h
  · replace h := h.2 c
    refine r_blk [qO (.aload_n 0), qF (.getfield 19) 9 2, qO (.iload_n 2)] (pc' := 18) (L' := [zR 26 0, zI l1, zI l2, zU]) (S' := [zI l2, zR 17 0]) (σ' := σ) (Ps := []) (by decide +kernel) rfl trivial ?_
    refine r_callVI (As := [zI l2]) (S := []) (Lc := [zR 17 0, zI l2]) (d' := 0) (n := 1) (g := 17) (x := 0) (ci := 8) kX8_minuteAt vX8_minuteAt lkX9_100 (by decide +kernel) (by decide) rfl rfl (by decide) rfl rfl (Nat.le_of_ble_eq_true rfl) rfl rfl (Nat.le_of_ble_eq_true rfl) (pX8_minuteAt h.1 ?_)
    replace h := h.2
    refine r_blk [qO (.istore_n 3), qO (.iload_n 3), qO (.bipush (-9))] (pc' := 25) (L' := [zR 26 0, zI l1, zI l2, zI (zmin σ l2)]) (S' := [zI (-9), zI (zmin σ l2)]) (σ' := σ) (Ps := []) (by decide +kernel) rfl trivial ?_
    refine r_icmp_eq (off := 8) (tgt := 33) (by decide +kernel) (by decide) (fun c => ?_) (fun c => ?_)
    · replace h := h.1 c
      refine r_blk [qO (.iconst 0)] (pc' := 34) (L' := [zR 26 0, zI l1, zI l2, zI (zmin σ l2)]) (S' := [zI 0]) (σ' := σ) (Ps := []) (by decide +kernel) rfl trivial ?_
      exact r_retz (by decide +kernel) rfl (by decide) h
    · replace h := h.2 c
      refine r_blk [qO (.iload_n 3), qO (.iload_n 1)] (pc' := 30) (L' := [zR 26 0, zI l1, zI l2, zI (zmin σ l2)]) (S' := [zI l1, zI (zmin σ l2)]) (σ' := σ) (Ps := []) (by decide +kernel) rfl trivial ?_
      refine r_icmp_le (off := 5) (tgt := 35) (by decide +kernel) (by decide) (fun c => ?_) (fun c => ?_)
      · replace h := h.1 c
        refine r_blk [qO (.iinc 2 1), qO (.goto (-36))] (pc' := 2) (L' := [zR 26 0, zI l1, zI (l2 + 1), zI (zmin σ l2)]) (S' := []) (σ' := σ) (Ps := [-2147483648 ≤ l2 + 1 ∧ l2 + 1 ≤ 2147483647]) (by decide +kernel) rfl ⟨h.1, trivial⟩ ?_
        replace h := h.2
        exact Runs.fg (fgE (fgE (fgE (fgU fg0)))) h
      · replace h := h.2 c
        refine r_blk [qO (.iconst 0)] (pc' := 34) (L' := [zR 26 0, zI l1, zI l2, zI (zmin σ l2)]) (S' := [zI 0]) (σ' := σ) (Ps := []) (by decide +kernel) rfl trivial ?_
        exact r_retz (by decide +kernel) rfl (by decide) h
theorem gX9_nextByFewest_0 (a0 : Int) (σ : Hp) {Q : Option Int → Hp → Prop} (h : (-2147483648 ≤ -a0 ∧ -a0 ≤ 2147483647) ∧ ((zand a0 (-a0) = 0 → Runs 0 mJ6_bitCount_0f7a4 0 [zI a0] [] σ (rI (fun z2 σ1 => (-2147483648 ≤ (zshl 2 z2) - 1 ∧ (zshl 2 z2) - 1 ≤ 2147483647) ∧ Q (some ((zshl 2 z2) - 1)) σ1))) ∧ (¬ zand a0 (-a0) = 0 → (-2147483648 ≤ a0 + (zand a0 (-a0)) ∧ a0 + (zand a0 (-a0)) ≤ 2147483647) ∧ (zand a0 (-a0) ≠ 0) ∧ ∀ z3 : Int, z3 = zor (a0 + (zand a0 (-a0))) (zdiv (zushr (zxor a0 (a0 + (zand a0 (-a0)))) 2) (zand a0 (-a0))) → ((zshl 1 (σ 1 0 1) ≤ z3 → Runs 0 mJ6_bitCount_0f7a4 0 [zI a0] [] σ (rI (fun z5 σ4 => (-2147483648 ≤ (zshl 2 z5) - 1 ∧ (zshl 2 z5) - 1 ≤ 2147483647) ∧ Q (some ((zshl 2 z5) - 1)) σ4))) ∧ (¬ zshl 1 (σ 1 0 1) ≤ z3 → Q (some z3) σ))))) : Runs 1 mX9_nextByFewest 0 [zR 26 0, zI a0, zU, zU, zU] [] σ Q := by
  refine r_blk [qO (.iload_n 1), qO (.iload_n 1), qO .ineg, qO .iand, qO (.istore_n 2), qO (.iload_n 2)] (pc' := 6) (L' := [zR 26 0, zI a0, zI (zand a0 (-a0)), zU, zU]) (S' := [zI (zand a0 (-a0))]) (σ' := σ) (Ps := [-2147483648 ≤ -a0 ∧ -a0 ≤ 2147483647]) (by decide +kernel) rfl ⟨h.1, trivial⟩ ?_
  replace h := h.2
  refine r_if_eq (off := 35) (tgt := 41) (by decide +kernel) (by decide) (fun c => ?_) (fun c => ?_)
  · replace h := h.1 c
    refine r_blk [qO (.iconst 2), qO (.iload_n 1)] (pc' := 43) (L' := [zR 26 0, zI a0, zI (zand a0 (-a0)), zU, zU]) (S' := [zI a0, zI 2]) (σ' := σ) (Ps := []) (by decide +kernel) rfl trivial ?_
    refine r_callSI (As := [zI a0]) (S := [zI 2]) (Lc := [zI a0]) (d' := 0) (n := 1) kJ6_bitCount_0f7a4 vJ6_bitCount_0f7a4 lkX9_103 (by decide +kernel) (by decide) rfl rfl (Nat.le_of_ble_eq_true rfl) rfl rfl (Nat.le_of_ble_eq_true rfl) (h.monoI (fun z2 σ1 h => ?_))
    refine r_blk [qO .ishl, qO (.iconst 1), qO .isub] (pc' := 49) (L' := [zR 26 0, zI a0, zI (zand a0 (-a0)), zU, zU]) (S' := [zI ((zshl 2 z2) - 1)]) (σ' := σ1) (Ps := [-2147483648 ≤ (zshl 2 z2) - 1 ∧ (zshl 2 z2) - 1 ≤ 2147483647]) (by decide +kernel) rfl ⟨h.1, trivial⟩ ?_
    replace h := h.2
    exact r_ret (by decide +kernel) rfl (fun _ => h)
  · replace h := h.2 c
    refine r_blk [qO (.iload_n 1), qO (.iload_n 2), qO .iadd, qO (.istore_n 3), qO (.iload_n 3), qO (.iload_n 1), qO (.iload_n 3), qO .ixor, qO (.iconst 2), qO .iushr, qO (.iload_n 2), qO .idiv, qO .ior, qO (.istore 4), qO (.iload 4), qO (.iconst 1), qO (.aload_n 0), qF (.getfield 9) 9 0, qF (.getfield 32) 6 1, qO .ishl] (pc' := 35) (L' := [zR 26 0, zI a0, zI (zand a0 (-a0)), zI (a0 + (zand a0 (-a0))), zI (zor (a0 + (zand a0 (-a0))) (zdiv (zushr (zxor a0 (a0 + (zand a0 (-a0)))) 2) (zand a0 (-a0))))]) (S' := [zI (zshl 1 (σ 1 0 1)), zI (zor (a0 + (zand a0 (-a0))) (zdiv (zushr (zxor a0 (a0 + (zand a0 (-a0)))) 2) (zand a0 (-a0))))]) (σ' := σ) (Ps := [-2147483648 ≤ a0 + (zand a0 (-a0)) ∧ a0 + (zand a0 (-a0)) ≤ 2147483647, zand a0 (-a0) ≠ 0]) (by decide +kernel) rfl ⟨h.1, h.2.1, trivial⟩ ?_
    replace h := h.2.2
    generalize hz3 : zor (a0 + (zand a0 (-a0))) (zdiv (zushr (zxor a0 (a0 + (zand a0 (-a0)))) 2) (zand a0 (-a0))) = z3
    replace h := h z3 hz3.symm
    refine r_icmp_ge (off := 6) (tgt := 41) (by decide +kernel) (by decide) (fun c => ?_) (fun c => ?_)
    · replace h := h.1 c
      refine r_blk [qO (.iconst 2), qO (.iload_n 1)] (pc' := 43) (L' := [zR 26 0, zI a0, zI (zand a0 (-a0)), zI (a0 + (zand a0 (-a0))), zI z3]) (S' := [zI a0, zI 2]) (σ' := σ) (Ps := []) (by decide +kernel) rfl trivial ?_
      refine r_callSI (As := [zI a0]) (S := [zI 2]) (Lc := [zI a0]) (d' := 0) (n := 1) kJ6_bitCount_0f7a4 vJ6_bitCount_0f7a4 lkX9_103 (by decide +kernel) (by decide) rfl rfl (Nat.le_of_ble_eq_true rfl) rfl rfl (Nat.le_of_ble_eq_true rfl) (h.monoI (fun z5 σ4 h => ?_))
      refine r_blk [qO .ishl, qO (.iconst 1), qO .isub] (pc' := 49) (L' := [zR 26 0, zI a0, zI (zand a0 (-a0)), zI (a0 + (zand a0 (-a0))), zI z3]) (S' := [zI ((zshl 2 z5) - 1)]) (σ' := σ4) (Ps := [-2147483648 ≤ (zshl 2 z5) - 1 ∧ (zshl 2 z5) - 1 ≤ 2147483647]) (by decide +kernel) rfl ⟨h.1, trivial⟩ ?_
      replace h := h.2
      exact r_ret (by decide +kernel) rfl (fun _ => h)
    · replace h := h.2 c
      refine r_blk [qO (.iload 4)] (pc' := 40) (L' := [zR 26 0, zI a0, zI (zand a0 (-a0)), zI (a0 + (zand a0 (-a0))), zI z3]) (S' := [zI z3]) (σ' := σ) (Ps := []) (by decide +kernel) rfl trivial ?_
      exact r_ret (by decide +kernel) rfl (fun _ => h)
end
section
/-! how many bits; the next set by fewest -/
def popF : Nat → Nat → Nat
  | 0, _ => 0
  | n + 1, v => v % 2 + popF n (v / 2)
def popN (v : Nat) : Nat := popF 14 v
theorem popF_le : ∀ (n v : Nat), popF n v ≤ n
  | 0, _ => by unfold popF; omega
  | n + 1, v => by
    have := popF_le n (v / 2)
    unfold popF
    omega
def bc1 (x : Int) : Int := x - zand (zushr x 1) 1431655765
def bc2 (x : Int) : Int := zand x 858993459 + zand (zushr x 2) 858993459
def bc3 (x : Int) : Int := x + zushr x 4
def bc4 (x : Int) : Int := zand x 252645135 + zushr (zand x 252645135) 8
def bc5 (x : Int) : Int := x + zushr x 16
def bIn (x : Int) : Bool := decide (-2147483648 ≤ x) && decide (x ≤ 2147483647)
theorem bIn_of {x : Int} (h : bIn x = true) : -2147483648 ≤ x ∧ x ≤ 2147483647 := by
  unfold bIn at h
  simp at h
  exact h
def bcOk (v : Nat) : Bool := bIn (bc1 v) && bIn (bc2 (bc1 v)) && bIn (bc3 (bc2 (bc1 v))) && bIn (bc4 (bc3 (bc2 (bc1 v)))) && bIn (bc5 (bc4 (bc3 (bc2 (bc1 v))))) && decide (zand (bc5 (bc4 (bc3 (bc2 (bc1 v))))) 63 = (popN v : Int))
theorem bc_0 : ∀ b : Nat, b < 1024 → bcOk (0 + b) = true := by decide +kernel
theorem bc_1 : ∀ b : Nat, b < 1024 → bcOk (1024 + b) = true := by decide +kernel
theorem bc_2 : ∀ b : Nat, b < 1024 → bcOk (2048 + b) = true := by decide +kernel
theorem bc_3 : ∀ b : Nat, b < 1024 → bcOk (3072 + b) = true := by decide +kernel
theorem bc_4 : ∀ b : Nat, b < 1024 → bcOk (4096 + b) = true := by decide +kernel
theorem bc_5 : ∀ b : Nat, b < 1024 → bcOk (5120 + b) = true := by decide +kernel
theorem bc_6 : ∀ b : Nat, b < 1024 → bcOk (6144 + b) = true := by decide +kernel
theorem bc_7 : ∀ b : Nat, b < 1024 → bcOk (7168 + b) = true := by decide +kernel
theorem bc_8 : ∀ b : Nat, b < 1024 → bcOk (8192 + b) = true := by decide +kernel
theorem bc_9 : ∀ b : Nat, b < 1024 → bcOk (9216 + b) = true := by decide +kernel
theorem bc_10 : ∀ b : Nat, b < 1024 → bcOk (10240 + b) = true := by decide +kernel
theorem bc_11 : ∀ b : Nat, b < 1024 → bcOk (11264 + b) = true := by decide +kernel
theorem bc_12 : ∀ b : Nat, b < 1024 → bcOk (12288 + b) = true := by decide +kernel
theorem bc_13 : ∀ b : Nat, b < 1024 → bcOk (13312 + b) = true := by decide +kernel
theorem bc_14 : ∀ b : Nat, b < 1024 → bcOk (14336 + b) = true := by decide +kernel
theorem bc_15 : ∀ b : Nat, b < 1024 → bcOk (15360 + b) = true := by decide +kernel
theorem bc_all (v : Nat) (hv : v < 16384) : bcOk v = true := by
  by_cases h0 : v < 1024
  · have := bc_0 (v - 0) (by omega)
    rw [show 0 + (v - 0) = v by omega] at this
    exact this
  by_cases h1 : v < 2048
  · have := bc_1 (v - 1024) (by omega)
    rw [show 1024 + (v - 1024) = v by omega] at this
    exact this
  by_cases h2 : v < 3072
  · have := bc_2 (v - 2048) (by omega)
    rw [show 2048 + (v - 2048) = v by omega] at this
    exact this
  by_cases h3 : v < 4096
  · have := bc_3 (v - 3072) (by omega)
    rw [show 3072 + (v - 3072) = v by omega] at this
    exact this
  by_cases h4 : v < 5120
  · have := bc_4 (v - 4096) (by omega)
    rw [show 4096 + (v - 4096) = v by omega] at this
    exact this
  by_cases h5 : v < 6144
  · have := bc_5 (v - 5120) (by omega)
    rw [show 5120 + (v - 5120) = v by omega] at this
    exact this
  by_cases h6 : v < 7168
  · have := bc_6 (v - 6144) (by omega)
    rw [show 6144 + (v - 6144) = v by omega] at this
    exact this
  by_cases h7 : v < 8192
  · have := bc_7 (v - 7168) (by omega)
    rw [show 7168 + (v - 7168) = v by omega] at this
    exact this
  by_cases h8 : v < 9216
  · have := bc_8 (v - 8192) (by omega)
    rw [show 8192 + (v - 8192) = v by omega] at this
    exact this
  by_cases h9 : v < 10240
  · have := bc_9 (v - 9216) (by omega)
    rw [show 9216 + (v - 9216) = v by omega] at this
    exact this
  by_cases h10 : v < 11264
  · have := bc_10 (v - 10240) (by omega)
    rw [show 10240 + (v - 10240) = v by omega] at this
    exact this
  by_cases h11 : v < 12288
  · have := bc_11 (v - 11264) (by omega)
    rw [show 11264 + (v - 11264) = v by omega] at this
    exact this
  by_cases h12 : v < 13312
  · have := bc_12 (v - 12288) (by omega)
    rw [show 12288 + (v - 12288) = v by omega] at this
    exact this
  by_cases h13 : v < 14336
  · have := bc_13 (v - 13312) (by omega)
    rw [show 13312 + (v - 13312) = v by omega] at this
    exact this
  by_cases h14 : v < 15360
  · have := bc_14 (v - 14336) (by omega)
    rw [show 14336 + (v - 14336) = v by omega] at this
    exact this
  have := bc_15 (v - 15360) (by omega)
  rw [show 15360 + (v - 15360) = v by omega] at this
  exact this
theorem qJ6_bitCount {σ : Hp} {K : Int → Hp → Prop} {v : Nat} (hv : v < 16384) (h : K (popN v) σ) : Runs 0 mJ6_bitCount_0f7a4 0 [zI (v : Int)] [] σ (rI K) := by
  have hb := bc_all v hv
  unfold bcOk at hb
  simp only [Bool.and_eq_true, decide_eq_true_eq] at hb
  obtain ⟨⟨⟨⟨⟨h1, h2⟩, h3⟩, h4⟩, h5⟩, h6⟩ := hb
  refine gJ6_bitCount_0f7a4_0 (v : Int) σ ⟨bIn_of h1, bIn_of h2, bIn_of h3, bIn_of h4, bIn_of h5, fun z e => ?_⟩
  have e2 : zand z 63 = (popN v : Int) := by rw [e]; exact h6
  rw [e2]
  exact h
theorem pX11_bits {σ : Hp} {K : Int → Hp → Prop} {v : Nat} (hv : v < 16384) (h : K (popN v) σ) : Runs 0 mX11_bits 0 [zI (v : Int), zU, zU] [] σ (rI K) := by
  have loop : ∀ (n w a : Nat), w < 2 ^ n → n ≤ 14 → a + popF n w = popN v → a ≤ 14 → Runs 0 mX11_bits 4 [zU, zI (a : Int), zI (w : Int)] [] σ (rI K) := by
    intro n
    induction n with
    | zero =>
      intro w a hw _ he _
      refine gX11_bits_4 (a : Int) (w : Int) σ ⟨fun _ => ?_, fun q => absurd (show (w : Int) ≤ 0 by omega) q⟩
      have : a = popN v := by rw [← he]; rfl
      rw [this]
      exact h
    | succ n ih =>
      intro w a hw hn he ha
      by_cases hz : w = 0
      · refine gX11_bits_4 (a : Int) (w : Int) σ ⟨fun _ => ?_, fun q => absurd (show (w : Int) ≤ 0 by omega) q⟩
        have pz : ∀ k, popF k 0 = 0 := fun k => by
          induction k with
          | zero => rfl
          | succ k ik => unfold popF; rw [show 0 / 2 = 0 from rfl, ik]
        rw [hz, pz] at he
        rw [show a = popN v by omega]
        exact h
      · refine gX11_bits_4 (a : Int) (w : Int) σ ⟨fun q => absurd q (by omega), fun _ => ?_⟩
        have hw14 : w < 2 ^ 14 := Nat.lt_of_lt_of_le hw (Nat.pow_le_pow_right (by omega) hn)
        have hw2 : w < 16384 := hw14
        rw [n32_and1, zshr_eq ⟨by omega, by omega⟩ (by omega), show ((1 : Int).toNat) = 1 from rfl, show ((2 : Int) ^ 1) = 2 from rfl]
        have e1 : (a : Int) + (w : Int) % 2 = ((a + w % 2 : Nat) : Int) := by omega
        have e2 : (w : Int) / 2 = ((w / 2 : Nat) : Int) := by omega
        rw [e1, e2]
        unfold popF at he
        have le := popF_le 14 v
        have : popN v ≤ 14 := le
        refine ⟨by omega, ih (w / 2) (a + w % 2) ?_ (by omega) (by omega) (by omega)⟩
        rw [Nat.pow_succ] at hw
        omega
  exact gX11_bits_0 (v : Int) σ (loop 14 v 0 hv (Nat.le_refl _) (by unfold popN; omega) (by omega))
end
section
/-! sets of streets by fewest -/
def nxl (a : Int) : Int := zand a (-a)
def nxz (a : Int) : Int := zor (a + zand a (-a)) (zdiv (zushr (zxor a (a + zand a (-a))) 2) (zand a (-a)))
def nxt (v : Nat) : Int := zshl 2 (popN v : Int) - 1
def nxI (n v : Nat) : Nat := if nxl v = 0 then (nxt v).toNat else if ((2 ^ n : Nat) : Int) ≤ nxz v then (nxt v).toNat else (nxz v).toNat
def fkey (v : Nat) : Nat := popN v * 1024 + v
def ch : Nat → Nat → Nat
  | _, 0 => 1
  | 0, _ + 1 => 0
  | n + 1, k + 1 => ch n k + ch n (k + 1)
def rkB : Nat → Nat → Nat → Nat → Nat
  | 0, _, _, _ => 0
  | f + 1, p, i, v => if v % 2 = 1 then ch p (i + 1) + rkB f (p + 1) (i + 1) (v / 2) else rkB f (p + 1) i (v / 2)
def rkS (n : Nat) : Nat → Nat
  | 0 => 0
  | k + 1 => rkS n k + ch n k
def rk (n v : Nat) : Nat := rkS n (popN v) + rkB 10 0 0 v
def nxOk (n v : Nat) : Bool := bIn (-(v : Int)) && bIn ((v : Int) + zand v (-v)) && bIn (nxt v) && decide (0 ≤ nxt v) && decide (0 ≤ nxz v) && (decide (v + 1 = 2 ^ n) || (decide (nxI n v < 2 ^ n) && decide (fkey v < fkey (nxI n v)) && decide (rk n (nxI n v) = rk n v + 1)))
theorem nx_lo : ∀ n : Nat, n < 10 → ∀ v : Nat, v < 2 ^ n → nxOk n v = true := by decide +kernel
theorem nx_hi0 : ∀ v : Nat, v < 512 → nxOk 10 v = true := by decide +kernel
theorem nx_hi1 : ∀ v : Nat, v < 512 → nxOk 10 (512 + v) = true := by decide +kernel
theorem nx_all (n : Nat) (hn : n < 11) (v : Nat) (hv : v < 2 ^ n) : nxOk n v = true := by
  by_cases h : n < 10
  · exact nx_lo n h v hv
  · have e : n = 10 := by omega
    subst e
    have hv2 : v < 1024 := hv
    by_cases h2 : v < 512
    · exact nx_hi0 v h2
    · have := nx_hi1 (v - 512) (by omega)
      rw [show 512 + (v - 512) = v by omega] at this
      exact this
theorem rk_all : ∀ n : Nat, n < 11 → rk n 0 = 0 ∧ rk n (2 ^ n - 1) = 2 ^ n - 1 := by decide +kernel
end
