section
-- ===== PART A: goes FIRST, ahead of the names: the tables' words, and 'selects' of the private methods out of them =====
/-- a private method of a class that the tables say can be made, by its rows of tables_1 -/
def lw_okq (q : MethodName × Nat) : Prop := (q.1.cls ≠ "java/lang/invoke/MethodHandle" ∧ q.1.cls ≠ "java/lang/invoke/VarHandle") ∧ Cond.instantiable q.1.cls q.2 ∈ tables_1 ∧ Cond.privateMethod q.1 ∈ tables_1 ∧ Cond.instanceMethod q.1 ∈ tables_1
theorem lw_p0 : lw_okq (⟨"OneWayTillNoon", "refuse", "(I)I"⟩, 13) := ⟨⟨by decide +kernel, by decide +kernel⟩, List.mem_of_getElem? (i := 18) (by decide +kernel), List.mem_of_getElem? (i := 385) (by decide +kernel), List.mem_of_getElem? (i := 386) (by decide +kernel)⟩
theorem lw_p1 : lw_okq (⟨"OneWayTillNoon$Reader", "statementsWritten", "()I"⟩, 7) := ⟨⟨by decide +kernel, by decide +kernel⟩, List.mem_of_getElem? (i := 150) (by decide +kernel), List.mem_of_getElem? (i := 401) (by decide +kernel), List.mem_of_getElem? (i := 402) (by decide +kernel)⟩
theorem lw_p2 : lw_okq (⟨"OneWayTillNoon$Reader", "readStatement", "()Z"⟩, 7) := ⟨⟨by decide +kernel, by decide +kernel⟩, List.mem_of_getElem? (i := 150) (by decide +kernel), List.mem_of_getElem? (i := 405) (by decide +kernel), List.mem_of_getElem? (i := 406) (by decide +kernel)⟩
theorem lw_p3 : lw_okq (⟨"OneWayTillNoon$Reader", "number", "(II)Z"⟩, 7) := ⟨⟨by decide +kernel, by decide +kernel⟩, List.mem_of_getElem? (i := 150) (by decide +kernel), List.mem_of_getElem? (i := 413) (by decide +kernel), List.mem_of_getElem? (i := 414) (by decide +kernel)⟩
theorem lw_p4 : lw_okq (⟨"OneWayTillNoon$Reader", "sign", "(C)Z"⟩, 7) := ⟨⟨by decide +kernel, by decide +kernel⟩, List.mem_of_getElem? (i := 150) (by decide +kernel), List.mem_of_getElem? (i := 420) (by decide +kernel), List.mem_of_getElem? (i := 421) (by decide +kernel)⟩
theorem lw_p5 : lw_okq (⟨"OneWayTillNoon$Reader", "broadOrNot", "()Z"⟩, 7) := ⟨⟨by decide +kernel, by decide +kernel⟩, List.mem_of_getElem? (i := 150) (by decide +kernel), List.mem_of_getElem? (i := 424) (by decide +kernel), List.mem_of_getElem? (i := 425) (by decide +kernel)⟩
theorem lw_p6 : lw_okq (⟨"OneWayTillNoon$Reader", "tell", "()Z"⟩, 7) := ⟨⟨by decide +kernel, by decide +kernel⟩, List.mem_of_getElem? (i := 150) (by decide +kernel), List.mem_of_getElem? (i := 435) (by decide +kernel), List.mem_of_getElem? (i := 436) (by decide +kernel)⟩
theorem lw_p7 : lw_okq (⟨"OneWayTillNoon$Town", "cornersToldOf", "()I"⟩, 17) := ⟨⟨by decide +kernel, by decide +kernel⟩, List.mem_of_getElem? (i := 26) (by decide +kernel), List.mem_of_getElem? (i := 443) (by decide +kernel), List.mem_of_getElem? (i := 444) (by decide +kernel)⟩
theorem lw_p8 : lw_okq (⟨"OneWayTillNoon$Town", "areTwoCorners", "(II)Z"⟩, 17) := ⟨⟨by decide +kernel, by decide +kernel⟩, List.mem_of_getElem? (i := 26) (by decide +kernel), List.mem_of_getElem? (i := 454) (by decide +kernel), List.mem_of_getElem? (i := 455) (by decide +kernel)⟩
theorem lw_p9 : lw_okq (⟨"OneWayTillNoon", "refusalOfMinute", "(I)I"⟩, 13) := ⟨⟨by decide +kernel, by decide +kernel⟩, List.mem_of_getElem? (i := 18) (by decide +kernel), List.mem_of_getElem? (i := 510) (by decide +kernel), List.mem_of_getElem? (i := 511) (by decide +kernel)⟩
theorem lw_p10 : lw_okq (⟨"OneWayTillNoon", "refusalOfWay", "(III)I"⟩, 13) := ⟨⟨by decide +kernel, by decide +kernel⟩, List.mem_of_getElem? (i := 18) (by decide +kernel), List.mem_of_getElem? (i := 539) (by decide +kernel), List.mem_of_getElem? (i := 540) (by decide +kernel)⟩
theorem lw_p11 : lw_okq (⟨"OneWayTillNoon$Travel", "soonestUnsettled", "()I"⟩, 4) := ⟨⟨by decide +kernel, by decide +kernel⟩, List.mem_of_getElem? (i := 217) (by decide +kernel), List.mem_of_getElem? (i := 552) (by decide +kernel), List.mem_of_getElem? (i := 553) (by decide +kernel)⟩
theorem lw_p12 : lw_okq (⟨"OneWayTillNoon$Travel", "goOnFrom", "(I)V"⟩, 4) := ⟨⟨by decide +kernel, by decide +kernel⟩, List.mem_of_getElem? (i := 217) (by decide +kernel), List.mem_of_getElem? (i := 557) (by decide +kernel), List.mem_of_getElem? (i := 558) (by decide +kernel)⟩
theorem lw_p13 : lw_okq (⟨"OneWayTillNoon$Travel", "goAlong", "(III)V"⟩, 4) := ⟨⟨by decide +kernel, by decide +kernel⟩, List.mem_of_getElem? (i := 217) (by decide +kernel), List.mem_of_getElem? (i := 566) (by decide +kernel), List.mem_of_getElem? (i := 567) (by decide +kernel)⟩
theorem lw_p14 : lw_okq (⟨"OneWayTillNoon$Road", "traceBack", "()Z"⟩, 8) := ⟨⟨by decide +kernel, by decide +kernel⟩, List.mem_of_getElem? (i := 309) (by decide +kernel), List.mem_of_getElem? (i := 587) (by decide +kernel), List.mem_of_getElem? (i := 588) (by decide +kernel)⟩
theorem lw_p15 : lw_okq (⟨"OneWayTillNoon$Road", "cameBy", "(III)Z"⟩, 8) := ⟨⟨by decide +kernel, by decide +kernel⟩, List.mem_of_getElem? (i := 309) (by decide +kernel), List.mem_of_getElem? (i := 591) (by decide +kernel), List.mem_of_getElem? (i := 592) (by decide +kernel)⟩
def lw_privs_1 : List (MethodName × Nat) := [(⟨"OneWayTillNoon", "refuse", "(I)I"⟩, 13), (⟨"OneWayTillNoon$Reader", "statementsWritten", "()I"⟩, 7), (⟨"OneWayTillNoon$Reader", "readStatement", "()Z"⟩, 7), (⟨"OneWayTillNoon$Reader", "number", "(II)Z"⟩, 7), (⟨"OneWayTillNoon$Reader", "sign", "(C)Z"⟩, 7), (⟨"OneWayTillNoon$Reader", "broadOrNot", "()Z"⟩, 7), (⟨"OneWayTillNoon$Reader", "tell", "()Z"⟩, 7), (⟨"OneWayTillNoon$Town", "cornersToldOf", "()I"⟩, 17), (⟨"OneWayTillNoon$Town", "areTwoCorners", "(II)Z"⟩, 17), (⟨"OneWayTillNoon", "refusalOfMinute", "(I)I"⟩, 13), (⟨"OneWayTillNoon", "refusalOfWay", "(III)I"⟩, 13), (⟨"OneWayTillNoon$Travel", "soonestUnsettled", "()I"⟩, 4), (⟨"OneWayTillNoon$Travel", "goOnFrom", "(I)V"⟩, 4), (⟨"OneWayTillNoon$Travel", "goAlong", "(III)V"⟩, 4), (⟨"OneWayTillNoon$Road", "traceBack", "()Z"⟩, 8), (⟨"OneWayTillNoon$Road", "cameBy", "(III)Z"⟩, 8)]
theorem lw_r1 : ∀ q ∈ lw_privs_1, lw_okq q := List.forall_mem_cons.mpr ⟨lw_p0, List.forall_mem_cons.mpr ⟨lw_p1, List.forall_mem_cons.mpr ⟨lw_p2, List.forall_mem_cons.mpr ⟨lw_p3, List.forall_mem_cons.mpr ⟨lw_p4, List.forall_mem_cons.mpr ⟨lw_p5, List.forall_mem_cons.mpr ⟨lw_p6, List.forall_mem_cons.mpr ⟨lw_p7, List.forall_mem_cons.mpr ⟨lw_p8, List.forall_mem_cons.mpr ⟨lw_p9, List.forall_mem_cons.mpr ⟨lw_p10, List.forall_mem_cons.mpr ⟨lw_p11, List.forall_mem_cons.mpr ⟨lw_p12, List.forall_mem_cons.mpr ⟨lw_p13, List.forall_mem_cons.mpr ⟨lw_p14, List.forall_mem_cons.mpr ⟨lw_p15, fun _ h => absurd h List.not_mem_nil⟩⟩⟩⟩⟩⟩⟩⟩⟩⟩⟩⟩⟩⟩⟩⟩
theorem lw_p16 : lw_okq (⟨"OneWayTillNoon", "freezeAsItIs", "(I)V"⟩, 13) := ⟨⟨by decide +kernel, by decide +kernel⟩, List.mem_of_getElem? (i := 18) (by decide +kernel), List.mem_of_getElem? (i := 613) (by decide +kernel), List.mem_of_getElem? (i := 614) (by decide +kernel)⟩
theorem lw_p17 : lw_okq (⟨"OneWayTillNoon$Frozen", "layStep", "(III)V"⟩, 3) := ⟨⟨by decide +kernel, by decide +kernel⟩, List.mem_of_getElem? (i := 236) (by decide +kernel), List.mem_of_getElem? (i := 625) (by decide +kernel), List.mem_of_getElem? (i := 626) (by decide +kernel)⟩
theorem lw_p18 : lw_okq (⟨"OneWayTillNoon$Frozen", "joinBy", "([I[II)V"⟩, 3) := ⟨⟨by decide +kernel, by decide +kernel⟩, List.mem_of_getElem? (i := 236) (by decide +kernel), List.mem_of_getElem? (i := 634) (by decide +kernel), List.mem_of_getElem? (i := 635) (by decide +kernel)⟩
theorem lw_p19 : lw_okq (⟨"OneWayTillNoon$Frozen", "isApart", "(II)Z"⟩, 3) := ⟨⟨by decide +kernel, by decide +kernel⟩, List.mem_of_getElem? (i := 236) (by decide +kernel), List.mem_of_getElem? (i := 642) (by decide +kernel), List.mem_of_getElem? (i := 643) (by decide +kernel)⟩
theorem lw_p20 : lw_okq (⟨"OneWayTillNoon$Plan", "cornersFrom", "(II)I"⟩, 3) := ⟨⟨by decide +kernel, by decide +kernel⟩, List.mem_of_getElem? (i := 254) (by decide +kernel), List.mem_of_getElem? (i := 667) (by decide +kernel), List.mem_of_getElem? (i := 668) (by decide +kernel)⟩
theorem lw_p21 : lw_okq (⟨"OneWayTillNoon$Plan", "otherEnd", "(II)I"⟩, 3) := ⟨⟨by decide +kernel, by decide +kernel⟩, List.mem_of_getElem? (i := 254) (by decide +kernel), List.mem_of_getElem? (i := 689) (by decide +kernel), List.mem_of_getElem? (i := 690) (by decide +kernel)⟩
theorem lw_p22 : lw_okq (⟨"OneWayTillNoon$Ledger", "minutesOf", "(III)I"⟩, 3) := ⟨⟨by decide +kernel, by decide +kernel⟩, List.mem_of_getElem? (i := 270) (by decide +kernel), List.mem_of_getElem? (i := 706) (by decide +kernel), List.mem_of_getElem? (i := 707) (by decide +kernel)⟩
theorem lw_p23 : lw_okq (⟨"OneWayTillNoon", "refusalOfTrying", "()I"⟩, 13) := ⟨⟨by decide +kernel, by decide +kernel⟩, List.mem_of_getElem? (i := 18) (by decide +kernel), List.mem_of_getElem? (i := 716) (by decide +kernel), List.mem_of_getElem? (i := 717) (by decide +kernel)⟩
theorem lw_p24 : lw_okq (⟨"OneWayTillNoon$Trials", "nextByFewest", "(I)I"⟩, 5) := ⟨⟨by decide +kernel, by decide +kernel⟩, List.mem_of_getElem? (i := 286) (by decide +kernel), List.mem_of_getElem? (i := 767) (by decide +kernel), List.mem_of_getElem? (i := 768) (by decide +kernel)⟩
theorem lw_p25 : lw_okq (⟨"OneWayTillNoon", "traceErrand", "(I)V"⟩, 13) := ⟨⟨by decide +kernel, by decide +kernel⟩, List.mem_of_getElem? (i := 18) (by decide +kernel), List.mem_of_getElem? (i := 813) (by decide +kernel), List.mem_of_getElem? (i := 814) (by decide +kernel)⟩
theorem lw_p26 : lw_okq (⟨"OneWayTillNoon$Trials", "allReachedBy", "(I)Z"⟩, 5) := ⟨⟨by decide +kernel, by decide +kernel⟩, List.mem_of_getElem? (i := 286) (by decide +kernel), List.mem_of_getElem? (i := 834) (by decide +kernel), List.mem_of_getElem? (i := 835) (by decide +kernel)⟩
theorem lw_p27 : lw_okq (⟨"OneWayTillNoon$Ledger", "drawBelow", "(I)I"⟩, 3) := ⟨⟨by decide +kernel, by decide +kernel⟩, List.mem_of_getElem? (i := 270) (by decide +kernel), List.mem_of_getElem? (i := 856) (by decide +kernel), List.mem_of_getElem? (i := 857) (by decide +kernel)⟩
theorem lw_p28 : lw_okq (⟨"OneWayTillNoonModel", "refuse", "(I)I"⟩, 25) := ⟨⟨by decide +kernel, by decide +kernel⟩, List.mem_of_getElem? (i := 890) (by decide +kernel), List.mem_of_getElem? (i := 977) (by decide +kernel), List.mem_of_getElem? (i := 978) (by decide +kernel)⟩
theorem lw_p29 : lw_okq (⟨"OneWayTillNoonModel", "reads", "()I"⟩, 25) := ⟨⟨by decide +kernel, by decide +kernel⟩, List.mem_of_getElem? (i := 890) (by decide +kernel), List.mem_of_getElem? (i := 986) (by decide +kernel), List.mem_of_getElem? (i := 987) (by decide +kernel)⟩
theorem lw_p30 : lw_okq (⟨"OneWayTillNoonModel", "readsStatement", "()Z"⟩, 25) := ⟨⟨by decide +kernel, by decide +kernel⟩, List.mem_of_getElem? (i := 890) (by decide +kernel), List.mem_of_getElem? (i := 990) (by decide +kernel), List.mem_of_getElem? (i := 991) (by decide +kernel)⟩
theorem lw_p31 : lw_okq (⟨"OneWayTillNoonModel", "sign", "()I"⟩, 25) := ⟨⟨by decide +kernel, by decide +kernel⟩, List.mem_of_getElem? (i := 890) (by decide +kernel), List.mem_of_getElem? (i := 994) (by decide +kernel), List.mem_of_getElem? (i := 995) (by decide +kernel)⟩
def lw_privs_2 : List (MethodName × Nat) := [(⟨"OneWayTillNoon", "freezeAsItIs", "(I)V"⟩, 13), (⟨"OneWayTillNoon$Frozen", "layStep", "(III)V"⟩, 3), (⟨"OneWayTillNoon$Frozen", "joinBy", "([I[II)V"⟩, 3), (⟨"OneWayTillNoon$Frozen", "isApart", "(II)Z"⟩, 3), (⟨"OneWayTillNoon$Plan", "cornersFrom", "(II)I"⟩, 3), (⟨"OneWayTillNoon$Plan", "otherEnd", "(II)I"⟩, 3), (⟨"OneWayTillNoon$Ledger", "minutesOf", "(III)I"⟩, 3), (⟨"OneWayTillNoon", "refusalOfTrying", "()I"⟩, 13), (⟨"OneWayTillNoon$Trials", "nextByFewest", "(I)I"⟩, 5), (⟨"OneWayTillNoon", "traceErrand", "(I)V"⟩, 13), (⟨"OneWayTillNoon$Trials", "allReachedBy", "(I)Z"⟩, 5), (⟨"OneWayTillNoon$Ledger", "drawBelow", "(I)I"⟩, 3), (⟨"OneWayTillNoonModel", "refuse", "(I)I"⟩, 25), (⟨"OneWayTillNoonModel", "reads", "()I"⟩, 25), (⟨"OneWayTillNoonModel", "readsStatement", "()Z"⟩, 25), (⟨"OneWayTillNoonModel", "sign", "()I"⟩, 25)]
theorem lw_r2 : ∀ q ∈ lw_privs_2, lw_okq q := List.forall_mem_cons.mpr ⟨lw_p16, List.forall_mem_cons.mpr ⟨lw_p17, List.forall_mem_cons.mpr ⟨lw_p18, List.forall_mem_cons.mpr ⟨lw_p19, List.forall_mem_cons.mpr ⟨lw_p20, List.forall_mem_cons.mpr ⟨lw_p21, List.forall_mem_cons.mpr ⟨lw_p22, List.forall_mem_cons.mpr ⟨lw_p23, List.forall_mem_cons.mpr ⟨lw_p24, List.forall_mem_cons.mpr ⟨lw_p25, List.forall_mem_cons.mpr ⟨lw_p26, List.forall_mem_cons.mpr ⟨lw_p27, List.forall_mem_cons.mpr ⟨lw_p28, List.forall_mem_cons.mpr ⟨lw_p29, List.forall_mem_cons.mpr ⟨lw_p30, List.forall_mem_cons.mpr ⟨lw_p31, fun _ h => absurd h List.not_mem_nil⟩⟩⟩⟩⟩⟩⟩⟩⟩⟩⟩⟩⟩⟩⟩⟩
theorem lw_p32 : lw_okq (⟨"OneWayTillNoonModel", "readsNumber", "(II)Z"⟩, 25) := ⟨⟨by decide +kernel, by decide +kernel⟩, List.mem_of_getElem? (i := 890) (by decide +kernel), List.mem_of_getElem? (i := 998) (by decide +kernel), List.mem_of_getElem? (i := 999) (by decide +kernel)⟩
theorem lw_p33 : lw_okq (⟨"OneWayTillNoonModel", "takes", "(I)Z"⟩, 25) := ⟨⟨by decide +kernel, by decide +kernel⟩, List.mem_of_getElem? (i := 890) (by decide +kernel), List.mem_of_getElem? (i := 1002) (by decide +kernel), List.mem_of_getElem? (i := 1003) (by decide +kernel)⟩
theorem lw_p34 : lw_okq (⟨"OneWayTillNoonModel", "comes", "(I)Z"⟩, 25) := ⟨⟨by decide +kernel, by decide +kernel⟩, List.mem_of_getElem? (i := 890) (by decide +kernel), List.mem_of_getElem? (i := 1006) (by decide +kernel), List.mem_of_getElem? (i := 1007) (by decide +kernel)⟩
theorem lw_p35 : lw_okq (⟨"OneWayTillNoonModel", "toldOf", "()I"⟩, 25) := ⟨⟨by decide +kernel, by decide +kernel⟩, List.mem_of_getElem? (i := 890) (by decide +kernel), List.mem_of_getElem? (i := 1010) (by decide +kernel), List.mem_of_getElem? (i := 1011) (by decide +kernel)⟩
theorem lw_p36 : lw_okq (⟨"OneWayTillNoonModel", "isStreet", "(I)Z"⟩, 25) := ⟨⟨by decide +kernel, by decide +kernel⟩, List.mem_of_getElem? (i := 890) (by decide +kernel), List.mem_of_getElem? (i := 1018) (by decide +kernel), List.mem_of_getElem? (i := 1019) (by decide +kernel)⟩
theorem lw_p37 : lw_okq (⟨"OneWayTillNoonModel", "get", "(II)I"⟩, 25) := ⟨⟨by decide +kernel, by decide +kernel⟩, List.mem_of_getElem? (i := 890) (by decide +kernel), List.mem_of_getElem? (i := 1025) (by decide +kernel), List.mem_of_getElem? (i := 1026) (by decide +kernel)⟩
theorem lw_p38 : lw_okq (⟨"OneWayTillNoonModel", "isErrand", "(I)Z"⟩, 25) := ⟨⟨by decide +kernel, by decide +kernel⟩, List.mem_of_getElem? (i := 890) (by decide +kernel), List.mem_of_getElem? (i := 1033) (by decide +kernel), List.mem_of_getElem? (i := 1034) (by decide +kernel)⟩
theorem lw_p39 : lw_okq (⟨"OneWayTillNoonModel", "of", "(II)I"⟩, 25) := ⟨⟨by decide +kernel, by decide +kernel⟩, List.mem_of_getElem? (i := 890) (by decide +kernel), List.mem_of_getElem? (i := 1037) (by decide +kernel), List.mem_of_getElem? (i := 1038) (by decide +kernel)⟩
theorem lw_p40 : lw_okq (⟨"OneWayTillNoonModel", "becomes", "(II)I"⟩, 25) := ⟨⟨by decide +kernel, by decide +kernel⟩, List.mem_of_getElem? (i := 890) (by decide +kernel), List.mem_of_getElem? (i := 1051) (by decide +kernel), List.mem_of_getElem? (i := 1052) (by decide +kernel)⟩
theorem lw_p41 : lw_okq (⟨"OneWayTillNoonModel", "wayOf", "(II)I"⟩, 25) := ⟨⟨by decide +kernel, by decide +kernel⟩, List.mem_of_getElem? (i := 890) (by decide +kernel), List.mem_of_getElem? (i := 1067) (by decide +kernel), List.mem_of_getElem? (i := 1068) (by decide +kernel)⟩
theorem lw_p42 : lw_okq (⟨"OneWayTillNoonModel", "wrongWay", "(III)I"⟩, 25) := ⟨⟨by decide +kernel, by decide +kernel⟩, List.mem_of_getElem? (i := 890) (by decide +kernel), List.mem_of_getElem? (i := 1075) (by decide +kernel), List.mem_of_getElem? (i := 1076) (by decide +kernel)⟩
theorem lw_p43 : lw_okq (⟨"OneWayTillNoonModel", "isCorner", "(I)Z"⟩, 25) := ⟨⟨by decide +kernel, by decide +kernel⟩, List.mem_of_getElem? (i := 890) (by decide +kernel), List.mem_of_getElem? (i := 1079) (by decide +kernel), List.mem_of_getElem? (i := 1080) (by decide +kernel)⟩
theorem lw_p44 : lw_okq (⟨"OneWayTillNoonModel", "finds", "(II)V"⟩, 25) := ⟨⟨by decide +kernel, by decide +kernel⟩, List.mem_of_getElem? (i := 890) (by decide +kernel), List.mem_of_getElem? (i := 1083) (by decide +kernel), List.mem_of_getElem? (i := 1084) (by decide +kernel)⟩
theorem lw_p45 : lw_okq (⟨"OneWayTillNoonModel", "enters", "(III)I"⟩, 25) := ⟨⟨by decide +kernel, by decide +kernel⟩, List.mem_of_getElem? (i := 890) (by decide +kernel), List.mem_of_getElem? (i := 1087) (by decide +kernel), List.mem_of_getElem? (i := 1088) (by decide +kernel)⟩
theorem lw_p46 : lw_okq (⟨"OneWayTillNoonModel", "goesFrom", "(III)Z"⟩, 25) := ⟨⟨by decide +kernel, by decide +kernel⟩, List.mem_of_getElem? (i := 890) (by decide +kernel), List.mem_of_getElem? (i := 1091) (by decide +kernel), List.mem_of_getElem? (i := 1092) (by decide +kernel)⟩
theorem lw_p47 : lw_okq (⟨"OneWayTillNoonModel", "findsRoad", "(III)Z"⟩, 25) := ⟨⟨by decide +kernel, by decide +kernel⟩, List.mem_of_getElem? (i := 890) (by decide +kernel), List.mem_of_getElem? (i := 1099) (by decide +kernel), List.mem_of_getElem? (i := 1100) (by decide +kernel)⟩
def lw_privs_3 : List (MethodName × Nat) := [(⟨"OneWayTillNoonModel", "readsNumber", "(II)Z"⟩, 25), (⟨"OneWayTillNoonModel", "takes", "(I)Z"⟩, 25), (⟨"OneWayTillNoonModel", "comes", "(I)Z"⟩, 25), (⟨"OneWayTillNoonModel", "toldOf", "()I"⟩, 25), (⟨"OneWayTillNoonModel", "isStreet", "(I)Z"⟩, 25), (⟨"OneWayTillNoonModel", "get", "(II)I"⟩, 25), (⟨"OneWayTillNoonModel", "isErrand", "(I)Z"⟩, 25), (⟨"OneWayTillNoonModel", "of", "(II)I"⟩, 25), (⟨"OneWayTillNoonModel", "becomes", "(II)I"⟩, 25), (⟨"OneWayTillNoonModel", "wayOf", "(II)I"⟩, 25), (⟨"OneWayTillNoonModel", "wrongWay", "(III)I"⟩, 25), (⟨"OneWayTillNoonModel", "isCorner", "(I)Z"⟩, 25), (⟨"OneWayTillNoonModel", "finds", "(II)V"⟩, 25), (⟨"OneWayTillNoonModel", "enters", "(III)I"⟩, 25), (⟨"OneWayTillNoonModel", "goesFrom", "(III)Z"⟩, 25), (⟨"OneWayTillNoonModel", "findsRoad", "(III)Z"⟩, 25)]
theorem lw_r3 : ∀ q ∈ lw_privs_3, lw_okq q := List.forall_mem_cons.mpr ⟨lw_p32, List.forall_mem_cons.mpr ⟨lw_p33, List.forall_mem_cons.mpr ⟨lw_p34, List.forall_mem_cons.mpr ⟨lw_p35, List.forall_mem_cons.mpr ⟨lw_p36, List.forall_mem_cons.mpr ⟨lw_p37, List.forall_mem_cons.mpr ⟨lw_p38, List.forall_mem_cons.mpr ⟨lw_p39, List.forall_mem_cons.mpr ⟨lw_p40, List.forall_mem_cons.mpr ⟨lw_p41, List.forall_mem_cons.mpr ⟨lw_p42, List.forall_mem_cons.mpr ⟨lw_p43, List.forall_mem_cons.mpr ⟨lw_p44, List.forall_mem_cons.mpr ⟨lw_p45, List.forall_mem_cons.mpr ⟨lw_p46, List.forall_mem_cons.mpr ⟨lw_p47, fun _ h => absurd h List.not_mem_nil⟩⟩⟩⟩⟩⟩⟩⟩⟩⟩⟩⟩⟩⟩⟩⟩
theorem lw_p48 : lw_okq (⟨"OneWayTillNoonModel", "apartAt", "(I)I"⟩, 25) := ⟨⟨by decide +kernel, by decide +kernel⟩, List.mem_of_getElem? (i := 890) (by decide +kernel), List.mem_of_getElem? (i := 1111) (by decide +kernel), List.mem_of_getElem? (i := 1112) (by decide +kernel)⟩
theorem lw_p49 : lw_okq (⟨"OneWayTillNoonModel", "findsFar", "(I)V"⟩, 25) := ⟨⟨by decide +kernel, by decide +kernel⟩, List.mem_of_getElem? (i := 890) (by decide +kernel), List.mem_of_getElem? (i := 1115) (by decide +kernel), List.mem_of_getElem? (i := 1116) (by decide +kernel)⟩
theorem lw_p50 : lw_okq (⟨"OneWayTillNoonModel", "longestAt", "(I)I"⟩, 25) := ⟨⟨by decide +kernel, by decide +kernel⟩, List.mem_of_getElem? (i := 890) (by decide +kernel), List.mem_of_getElem? (i := 1124) (by decide +kernel), List.mem_of_getElem? (i := 1125) (by decide +kernel)⟩
theorem lw_p51 : lw_okq (⟨"OneWayTillNoonModel", "hang", "(II)I"⟩, 25) := ⟨⟨by decide +kernel, by decide +kernel⟩, List.mem_of_getElem? (i := 890) (by decide +kernel), List.mem_of_getElem? (i := 1136) (by decide +kernel), List.mem_of_getElem? (i := 1137) (by decide +kernel)⟩
theorem lw_p52 : lw_okq (⟨"OneWayTillNoonModel", "bridgeBits", "()I"⟩, 25) := ⟨⟨by decide +kernel, by decide +kernel⟩, List.mem_of_getElem? (i := 890) (by decide +kernel), List.mem_of_getElem? (i := 1140) (by decide +kernel), List.mem_of_getElem? (i := 1141) (by decide +kernel)⟩
theorem lw_p53 : lw_okq (⟨"OneWayTillNoonModel", "isBridge", "(I)Z"⟩, 25) := ⟨⟨by decide +kernel, by decide +kernel⟩, List.mem_of_getElem? (i := 890) (by decide +kernel), List.mem_of_getElem? (i := 1144) (by decide +kernel), List.mem_of_getElem? (i := 1145) (by decide +kernel)⟩
theorem lw_p54 : lw_okq (⟨"OneWayTillNoonModel", "walks", "(I)V"⟩, 25) := ⟨⟨by decide +kernel, by decide +kernel⟩, List.mem_of_getElem? (i := 890) (by decide +kernel), List.mem_of_getElem? (i := 1156) (by decide +kernel), List.mem_of_getElem? (i := 1157) (by decide +kernel)⟩
theorem lw_p55 : lw_okq (⟨"OneWayTillNoonModel", "costOf", "()I"⟩, 25) := ⟨⟨by decide +kernel, by decide +kernel⟩, List.mem_of_getElem? (i := 890) (by decide +kernel), List.mem_of_getElem? (i := 1164) (by decide +kernel), List.mem_of_getElem? (i := 1165) (by decide +kernel)⟩
theorem lw_p56 : lw_okq (⟨"OneWayTillNoonModel", "wrongFew", "()I"⟩, 25) := ⟨⟨by decide +kernel, by decide +kernel⟩, List.mem_of_getElem? (i := 890) (by decide +kernel), List.mem_of_getElem? (i := 1172) (by decide +kernel), List.mem_of_getElem? (i := 1173) (by decide +kernel)⟩
theorem lw_p57 : lw_okq (⟨"OneWayTillNoonModel", "bestOf", "(Z)I"⟩, 25) := ⟨⟨by decide +kernel, by decide +kernel⟩, List.mem_of_getElem? (i := 890) (by decide +kernel), List.mem_of_getElem? (i := 1176) (by decide +kernel), List.mem_of_getElem? (i := 1177) (by decide +kernel)⟩
theorem lw_p58 : lw_okq (⟨"OneWayTillNoonModel", "keepsMusts", "(I)Z"⟩, 25) := ⟨⟨by decide +kernel, by decide +kernel⟩, List.mem_of_getElem? (i := 890) (by decide +kernel), List.mem_of_getElem? (i := 1180) (by decide +kernel), List.mem_of_getElem? (i := 1181) (by decide +kernel)⟩
theorem lw_p59 : lw_okq (⟨"OneWayTillNoonModel", "along", "(II)I"⟩, 25) := ⟨⟨by decide +kernel, by decide +kernel⟩, List.mem_of_getElem? (i := 890) (by decide +kernel), List.mem_of_getElem? (i := 1207) (by decide +kernel), List.mem_of_getElem? (i := 1208) (by decide +kernel)⟩
theorem lw_p60 : lw_okq (⟨"OneWayTillNoonModel", "areMet", "(II)Z"⟩, 25) := ⟨⟨by decide +kernel, by decide +kernel⟩, List.mem_of_getElem? (i := 890) (by decide +kernel), List.mem_of_getElem? (i := 1223) (by decide +kernel), List.mem_of_getElem? (i := 1224) (by decide +kernel)⟩
theorem lw_p61 : lw_okq (⟨"OneWayTillNoonModel", "stays", "(I)V"⟩, 25) := ⟨⟨by decide +kernel, by decide +kernel⟩, List.mem_of_getElem? (i := 890) (by decide +kernel), List.mem_of_getElem? (i := 1227) (by decide +kernel), List.mem_of_getElem? (i := 1228) (by decide +kernel)⟩
theorem lw_p62 : lw_okq (⟨"OneWayTillNoonModel", "isReached", "(III)Z"⟩, 25) := ⟨⟨by decide +kernel, by decide +kernel⟩, List.mem_of_getElem? (i := 890) (by decide +kernel), List.mem_of_getElem? (i := 1239) (by decide +kernel), List.mem_of_getElem? (i := 1240) (by decide +kernel)⟩
def lw_privs_4 : List (MethodName × Nat) := [(⟨"OneWayTillNoonModel", "apartAt", "(I)I"⟩, 25), (⟨"OneWayTillNoonModel", "findsFar", "(I)V"⟩, 25), (⟨"OneWayTillNoonModel", "longestAt", "(I)I"⟩, 25), (⟨"OneWayTillNoonModel", "hang", "(II)I"⟩, 25), (⟨"OneWayTillNoonModel", "bridgeBits", "()I"⟩, 25), (⟨"OneWayTillNoonModel", "isBridge", "(I)Z"⟩, 25), (⟨"OneWayTillNoonModel", "walks", "(I)V"⟩, 25), (⟨"OneWayTillNoonModel", "costOf", "()I"⟩, 25), (⟨"OneWayTillNoonModel", "wrongFew", "()I"⟩, 25), (⟨"OneWayTillNoonModel", "bestOf", "(Z)I"⟩, 25), (⟨"OneWayTillNoonModel", "keepsMusts", "(I)Z"⟩, 25), (⟨"OneWayTillNoonModel", "along", "(II)I"⟩, 25), (⟨"OneWayTillNoonModel", "areMet", "(II)Z"⟩, 25), (⟨"OneWayTillNoonModel", "stays", "(I)V"⟩, 25), (⟨"OneWayTillNoonModel", "isReached", "(III)Z"⟩, 25)]
theorem lw_r4 : ∀ q ∈ lw_privs_4, lw_okq q := List.forall_mem_cons.mpr ⟨lw_p48, List.forall_mem_cons.mpr ⟨lw_p49, List.forall_mem_cons.mpr ⟨lw_p50, List.forall_mem_cons.mpr ⟨lw_p51, List.forall_mem_cons.mpr ⟨lw_p52, List.forall_mem_cons.mpr ⟨lw_p53, List.forall_mem_cons.mpr ⟨lw_p54, List.forall_mem_cons.mpr ⟨lw_p55, List.forall_mem_cons.mpr ⟨lw_p56, List.forall_mem_cons.mpr ⟨lw_p57, List.forall_mem_cons.mpr ⟨lw_p58, List.forall_mem_cons.mpr ⟨lw_p59, List.forall_mem_cons.mpr ⟨lw_p60, List.forall_mem_cons.mpr ⟨lw_p61, List.forall_mem_cons.mpr ⟨lw_p62, fun _ h => absurd h List.not_mem_nil⟩⟩⟩⟩⟩⟩⟩⟩⟩⟩⟩⟩⟩⟩⟩
def lw_privs : List (MethodName × Nat) := lw_privs_1 ++ (lw_privs_2 ++ (lw_privs_3 ++ (lw_privs_4)))
def lw_tbl : List Cond := k2_sels lw_privs ++ tables_1
theorem lw_privs_ok : ∀ q ∈ lw_privs, lw_okq q := by
  show ∀ q ∈ lw_privs_1 ++ (lw_privs_2 ++ (lw_privs_3 ++ (lw_privs_4))), lw_okq q
  exact List.forall_mem_append.mpr ⟨lw_r1, List.forall_mem_append.mpr ⟨lw_r2, List.forall_mem_append.mpr ⟨lw_r3, lw_r4⟩⟩⟩
end
section
def RX0 : String := "OneWayTillNoon$Frozen"
def TX0 : u_T := fun k => match k with
  | 0 => ("OneWayTillNoon$Frozen", "town", "LOneWayTillNoon$Town;", true)
  | 1 => ("OneWayTillNoon$Frozen", "traffic", "LOneWayTillNoon$Traffic;", true)
  | _ => ("OneWayTillNoon$Frozen", "least", "[[I", true)
def tyX0 : Nat → FieldType := fun k => match k with
  | 0 => .object "OneWayTillNoon$Town"
  | 1 => .object "OneWayTillNoon$Traffic"
  | _ => .array (.array .int)
abbrev wsX00 : List Cond := u_ws RX0 TX0 3
theorem nmX0 : ∀ a, a < 3 → ∀ b, b < 3 → a ≠ b → (TX0 a).2.1 ≠ (TX0 b).2.1 := by decide +kernel
theorem tyX0_ok : ∀ k, k < 3 → parseFieldDescriptor (TX0 k).2.2.1 = some (tyX0 k) := by decide +kernel
abbrev cX0_init : ByteArray := prog_2_method_1_code
def yX0_init : MethodName := ⟨RX0, "<init>", "(LOneWayTillNoon$Town;LOneWayTillNoon$Traffic;)V"⟩
abbrev cX0_lay : ByteArray := prog_2_method_2_code
def yX0_lay : MethodName := ⟨RX0, "lay", "(I)V"⟩
abbrev cX0_layStep : ByteArray := prog_2_method_3_code
def yX0_layStep : MethodName := ⟨RX0, "layStep", "(III)V"⟩
abbrev cX0_join : ByteArray := prog_2_method_4_code
def yX0_join : MethodName := ⟨RX0, "join", "()V"⟩
abbrev cX0_joinBy : ByteArray := prog_2_method_5_code
def yX0_joinBy : MethodName := ⟨RX0, "joinBy", "([I[II)V"⟩
abbrev cX0_pairsApart : ByteArray := prog_2_method_6_code
def yX0_pairsApart : MethodName := ⟨RX0, "pairsApart", "()I"⟩
abbrev cX0_firstApart : ByteArray := prog_2_method_7_code
def yX0_firstApart : MethodName := ⟨RX0, "firstApart", "()I"⟩
abbrev cX0_isApart : ByteArray := prog_2_method_8_code
def yX0_isApart : MethodName := ⟨RX0, "isApart", "(II)Z"⟩
abbrev cX0_farthest : ByteArray := prog_2_method_9_code
def yX0_farthest : MethodName := ⟨RX0, "farthest", "()I"⟩
abbrev cX0_roundOfRow : ByteArray := prog_2_method_10_code
def yX0_roundOfRow : MethodName := ⟨RX0, "roundOfRow", "()I"⟩
def RX1 : String := "OneWayTillNoon$Ledger"
def TX1 : u_T := fun k => match k with
  | 0 => ("OneWayTillNoon$Ledger", "town", "LOneWayTillNoon$Town;", true)
  | 1 => ("OneWayTillNoon$Ledger", "travel", "LOneWayTillNoon$Travel;", true)
  | _ => ("OneWayTillNoon$Ledger", "seed", "I", false)
def tyX1 : Nat → FieldType := fun k => match k with
  | 0 => .object "OneWayTillNoon$Town"
  | 1 => .object "OneWayTillNoon$Travel"
  | _ => .int
abbrev wsX10 : List Cond := u_ws RX1 TX1 3
theorem nmX1 : ∀ a, a < 3 → ∀ b, b < 3 → a ≠ b → (TX1 a).2.1 ≠ (TX1 b).2.1 := by decide +kernel
theorem tyX1_ok : ∀ k, k < 3 → parseFieldDescriptor (TX1 k).2.2.1 = some (tyX1 k) := by decide +kernel
abbrev cX1_init : ByteArray := prog_3_method_1_code
def yX1_init : MethodName := ⟨RX1, "<init>", "(LOneWayTillNoon$Town;LOneWayTillNoon$Travel;)V"⟩
abbrev cX1_total : ByteArray := prog_3_method_2_code
def yX1_total : MethodName := ⟨RX1, "total", "()I"⟩
abbrev cX1_totalUpTo : ByteArray := prog_3_method_3_code
def yX1_totalUpTo : MethodName := ⟨RX1, "totalUpTo", "(I)I"⟩
abbrev cX1_minutesOf : ByteArray := prog_3_method_4_code
def yX1_minutesOf : MethodName := ⟨RX1, "minutesOf", "(III)I"⟩
abbrev cX1_cheapestHome : ByteArray := prog_3_method_5_code
def yX1_cheapestHome : MethodName := ⟨RX1, "cheapestHome", "()I"⟩
abbrev cX1_totalOfDays : ByteArray := prog_3_method_6_code
def yX1_totalOfDays : MethodName := ⟨RX1, "totalOfDays", "(II)I"⟩
abbrev cX1_drawBelow : ByteArray := prog_3_method_7_code
def yX1_drawBelow : MethodName := ⟨RX1, "drawBelow", "(I)I"⟩
def RX2 : String := "OneWayTillNoon$Plan"
def TX2 : u_T := fun k => match k with
  | 0 => ("OneWayTillNoon$Plan", "town", "LOneWayTillNoon$Town;", true)
  | 1 => ("OneWayTillNoon$Plan", "cameFrom", "[I", true)
  | _ => ("OneWayTillNoon$Plan", "nextStreet", "[I", true)
def tyX2 : Nat → FieldType := fun k => match k with
  | 0 => .object "OneWayTillNoon$Town"
  | 1 => .array .int
  | _ => .array .int
abbrev wsX20 : List Cond := u_ws RX2 TX2 3
theorem nmX2 : ∀ a, a < 3 → ∀ b, b < 3 → a ≠ b → (TX2 a).2.1 ≠ (TX2 b).2.1 := by decide +kernel
theorem tyX2_ok : ∀ k, k < 3 → parseFieldDescriptor (TX2 k).2.2.1 = some (tyX2 k) := by decide +kernel
abbrev cX2_init : ByteArray := prog_4_method_1_code
def yX2_init : MethodName := ⟨RX2, "<init>", "(LOneWayTillNoon$Town;)V"⟩
abbrev cX2_hangsTogether : ByteArray := prog_4_method_2_code
def yX2_hangsTogether : MethodName := ⟨RX2, "hangsTogether", "()Z"⟩
abbrev cX2_bridgeOnes : ByteArray := prog_4_method_3_code
def yX2_bridgeOnes : MethodName := ⟨RX2, "bridgeOnes", "()I"⟩
abbrev cX2_cornersFrom : ByteArray := prog_4_method_4_code
def yX2_cornersFrom : MethodName := ⟨RX2, "cornersFrom", "(II)I"⟩
abbrev cX2_walkThrough : ByteArray := prog_4_method_5_code
def yX2_walkThrough : MethodName := ⟨RX2, "walkThrough", "()I"⟩
abbrev cX2_otherEnd : ByteArray := prog_4_method_6_code
def yX2_otherEnd : MethodName := ⟨RX2, "otherEnd", "(II)I"⟩
def RX3 : String := "OneWayTillNoon$Reader"
def TX3 : u_T := fun k => match k with
  | 0 => ("OneWayTillNoon$Reader", "tape", "LOneWayTillNoon$Tape;", true)
  | 1 => ("OneWayTillNoon$Reader", "trial", "LOneWayTillNoon$Town;", true)
  | 2 => ("OneWayTillNoon$Reader", "place", "I", false)
  | 3 => ("OneWayTillNoon$Reader", "letter", "I", false)
  | 4 => ("OneWayTillNoon$Reader", "letterPlace", "I", false)
  | 5 => ("OneWayTillNoon$Reader", "numbers", "[I", true)
  | _ => ("OneWayTillNoon$Reader", "broad", "Z", false)
def tyX3 : Nat → FieldType := fun k => match k with
  | 0 => .object "OneWayTillNoon$Tape"
  | 1 => .object "OneWayTillNoon$Town"
  | 2 => .int
  | 3 => .int
  | 4 => .int
  | 5 => .array .int
  | _ => .boolean
abbrev wsX30 : List Cond := u_ws RX3 TX3 7
theorem nmX3 : ∀ a, a < 7 → ∀ b, b < 7 → a ≠ b → (TX3 a).2.1 ≠ (TX3 b).2.1 := by decide +kernel
theorem tyX3_ok : ∀ k, k < 7 → parseFieldDescriptor (TX3 k).2.2.1 = some (tyX3 k) := by decide +kernel
abbrev cX3_init : ByteArray := prog_5_method_1_code
def yX3_init : MethodName := ⟨RX3, "<init>", "(LOneWayTillNoon$Tape;)V"⟩
abbrev cX3_readInto : ByteArray := prog_5_method_2_code
def yX3_readInto : MethodName := ⟨RX3, "readInto", "(LOneWayTillNoon$Town;)I"⟩
abbrev cX3_statementsWritten : ByteArray := prog_5_method_3_code
def yX3_statementsWritten : MethodName := ⟨RX3, "statementsWritten", "()I"⟩
abbrev cX3_readStatement : ByteArray := prog_5_method_4_code
def yX3_readStatement : MethodName := ⟨RX3, "readStatement", "()Z"⟩
abbrev cX3_number : ByteArray := prog_5_method_5_code
def yX3_number : MethodName := ⟨RX3, "number", "(II)Z"⟩
abbrev cX3_isDigit : ByteArray := prog_5_method_6_code
def yX3_isDigit : MethodName := ⟨RX3, "isDigit", "(I)Z"⟩
abbrev cX3_sign : ByteArray := prog_5_method_7_code
def yX3_sign : MethodName := ⟨RX3, "sign", "(C)Z"⟩
abbrev cX3_broadOrNot : ByteArray := prog_5_method_8_code
def yX3_broadOrNot : MethodName := ⟨RX3, "broadOrNot", "()Z"⟩
abbrev cX3_tell : ByteArray := prog_5_method_9_code
def yX3_tell : MethodName := ⟨RX3, "tell", "()Z"⟩
def RX4 : String := "OneWayTillNoon$Road"
def TX4 : u_T := fun k => match k with
  | 0 => ("OneWayTillNoon$Road", "town", "LOneWayTillNoon$Town;", true)
  | 1 => ("OneWayTillNoon$Road", "traffic", "LOneWayTillNoon$Traffic;", true)
  | 2 => ("OneWayTillNoon$Road", "travel", "LOneWayTillNoon$Travel;", true)
  | 3 => ("OneWayTillNoon$Road", "streets", "[I", true)
  | 4 => ("OneWayTillNoon$Road", "corners", "[I", true)
  | 5 => ("OneWayTillNoon$Road", "comes", "[I", true)
  | 6 => ("OneWayTillNoon$Road", "goes", "[I", true)
  | _ => ("OneWayTillNoon$Road", "length", "I", false)
def tyX4 : Nat → FieldType := fun k => match k with
  | 0 => .object "OneWayTillNoon$Town"
  | 1 => .object "OneWayTillNoon$Traffic"
  | 2 => .object "OneWayTillNoon$Travel"
  | 3 => .array .int
  | 4 => .array .int
  | 5 => .array .int
  | 6 => .array .int
  | _ => .int
abbrev wsX40 : List Cond := u_ws RX4 TX4 8
theorem nmX4 : ∀ a, a < 8 → ∀ b, b < 8 → a ≠ b → (TX4 a).2.1 ≠ (TX4 b).2.1 := by decide +kernel
theorem tyX4_ok : ∀ k, k < 8 → parseFieldDescriptor (TX4 k).2.2.1 = some (tyX4 k) := by decide +kernel
abbrev cX4_init : ByteArray := prog_6_method_1_code
def yX4_init : MethodName := ⟨RX4, "<init>", "(LOneWayTillNoon$Town;LOneWayTillNoon$Traffic;LOneWayTillNoon$Travel;)V"⟩
abbrev cX4_trace : ByteArray := prog_6_method_2_code
def yX4_trace : MethodName := ⟨RX4, "trace", "(III)V"⟩
abbrev cX4_traceBack : ByteArray := prog_6_method_3_code
def yX4_traceBack : MethodName := ⟨RX4, "traceBack", "()Z"⟩
abbrev cX4_cameBy : ByteArray := prog_6_method_4_code
def yX4_cameBy : MethodName := ⟨RX4, "cameBy", "(III)Z"⟩
abbrev cX4_streetAt : ByteArray := prog_6_method_5_code
def yX4_streetAt : MethodName := ⟨RX4, "streetAt", "(I)I"⟩
abbrev cX4_minutesWaited : ByteArray := prog_6_method_6_code
def yX4_minutesWaited : MethodName := ⟨RX4, "minutesWaited", "()I"⟩
abbrev cX4_crosses : ByteArray := prog_6_method_7_code
def yX4_crosses : MethodName := ⟨RX4, "crosses", "(LOneWayTillNoon$Road;)Z"⟩
def RX5 : String := "OneWayTillNoon$Tape"
def TX5 : u_T := fun k => match k with
  | 0 => ("OneWayTillNoon$Tape", "bytes", "[I", true)
  | _ => ("OneWayTillNoon$Tape", "length", "I", false)
def tyX5 : Nat → FieldType := fun k => match k with
  | 0 => .array .int
  | _ => .int
abbrev wsX50 : List Cond := u_ws RX5 TX5 2
theorem nmX5 : ∀ a, a < 2 → ∀ b, b < 2 → a ≠ b → (TX5 a).2.1 ≠ (TX5 b).2.1 := by decide +kernel
theorem tyX5_ok : ∀ k, k < 2 → parseFieldDescriptor (TX5 k).2.2.1 = some (tyX5 k) := by decide +kernel
abbrev cX5_init : ByteArray := prog_7_method_1_code
def yX5_init : MethodName := ⟨RX5, "<init>", "()V"⟩
abbrev cX5_add : ByteArray := prog_7_method_2_code
def yX5_add : MethodName := ⟨RX5, "add", "(I)V"⟩
abbrev cX5_byteAt : ByteArray := prog_7_method_3_code
def yX5_byteAt : MethodName := ⟨RX5, "byteAt", "(I)I"⟩
def RX6 : String := "OneWayTillNoon$Town"
def TX6 : u_T := fun k => match k with
  | 0 => ("OneWayTillNoon$Town", "corners", "I", false)
  | 1 => ("OneWayTillNoon$Town", "streets", "I", false)
  | 2 => ("OneWayTillNoon$Town", "errands", "I", false)
  | 3 => ("OneWayTillNoon$Town", "rowLength", "I", false)
  | 4 => ("OneWayTillNoon$Town", "broadOnes", "I", false)
  | 5 => ("OneWayTillNoon$Town", "shutOnes", "I", false)
  | 6 => ("OneWayTillNoon$Town", "pointing", "I", false)
  | 7 => ("OneWayTillNoon$Town", "tails", "[I", true)
  | 8 => ("OneWayTillNoon$Town", "heads", "[I", true)
  | 9 => ("OneWayTillNoon$Town", "minutes", "[I", true)
  | 10 => ("OneWayTillNoon$Town", "musts", "[I", true)
  | 11 => ("OneWayTillNoon$Town", "froms", "[I", true)
  | 12 => ("OneWayTillNoon$Town", "tos", "[I", true)
  | 13 => ("OneWayTillNoon$Town", "ats", "[I", true)
  | 14 => ("OneWayTillNoon$Town", "worths", "[I", true)
  | 15 => ("OneWayTillNoon$Town", "row", "[I", true)
  | _ => ("OneWayTillNoon$Town", "settings", "[I", true)
def tyX6 : Nat → FieldType := fun k => match k with
  | 0 => .int
  | 1 => .int
  | 2 => .int
  | 3 => .int
  | 4 => .int
  | 5 => .int
  | 6 => .int
  | 7 => .array .int
  | 8 => .array .int
  | 9 => .array .int
  | 10 => .array .int
  | 11 => .array .int
  | 12 => .array .int
  | 13 => .array .int
  | 14 => .array .int
  | 15 => .array .int
  | _ => .array .int
abbrev wsX60 : List Cond := u_ws RX6 TX6 17
theorem nmX6 : ∀ a, a < 17 → ∀ b, b < 17 → a ≠ b → (TX6 a).2.1 ≠ (TX6 b).2.1 := by decide +kernel
theorem tyX6_ok : ∀ k, k < 17 → parseFieldDescriptor (TX6 k).2.2.1 = some (tyX6 k) := by decide +kernel
abbrev cX6_init : ByteArray := prog_8_method_1_code
def yX6_init : MethodName := ⟨RX6, "<init>", "()V"⟩
abbrev cX6_takeFrom : ByteArray := prog_8_method_2_code
def yX6_takeFrom : MethodName := ⟨RX6, "takeFrom", "(LOneWayTillNoon$Town;)V"⟩
abbrev cX6_hasCorner : ByteArray := prog_8_method_3_code
def yX6_hasCorner : MethodName := ⟨RX6, "hasCorner", "(I)Z"⟩
abbrev cX6_hasStreet : ByteArray := prog_8_method_4_code
def yX6_hasStreet : MethodName := ⟨RX6, "hasStreet", "(I)Z"⟩
abbrev cX6_hasErrand : ByteArray := prog_8_method_5_code
def yX6_hasErrand : MethodName := ⟨RX6, "hasErrand", "(I)Z"⟩
abbrev cX6_tellCorners : ByteArray := prog_8_method_6_code
def yX6_tellCorners : MethodName := ⟨RX6, "tellCorners", "(I)Z"⟩
abbrev cX6_cornersToldOf : ByteArray := prog_8_method_7_code
def yX6_cornersToldOf : MethodName := ⟨RX6, "cornersToldOf", "()I"⟩
abbrev cX6_areTwoCorners : ByteArray := prog_8_method_8_code
def yX6_areTwoCorners : MethodName := ⟨RX6, "areTwoCorners", "(II)Z"⟩
abbrev cX6_tellStreet : ByteArray := prog_8_method_9_code
def yX6_tellStreet : MethodName := ⟨RX6, "tellStreet", "(IIIZ)Z"⟩
abbrev cX6_tellErrand : ByteArray := prog_8_method_10_code
def yX6_tellErrand : MethodName := ⟨RX6, "tellErrand", "(IIII)Z"⟩
abbrev cX6_tellMust : ByteArray := prog_8_method_11_code
def yX6_tellMust : MethodName := ⟨RX6, "tellMust", "(II)Z"⟩
abbrev cX6_mustsTold : ByteArray := prog_8_method_12_code
def yX6_mustsTold : MethodName := ⟨RX6, "mustsTold", "()I"⟩
abbrev cX6_mustLets : ByteArray := prog_8_method_13_code
def yX6_mustLets : MethodName := ⟨RX6, "mustLets", "(II)Z"⟩
abbrev cX6_firstMustUnkept : ByteArray := prog_8_method_14_code
def yX6_firstMustUnkept : MethodName := ⟨RX6, "firstMustUnkept", "(I)I"⟩
def RX7 : String := "OneWayTillNoon$Traffic"
def TX7 : u_T := fun k => match k with
  | 0 => ("OneWayTillNoon$Traffic", "town", "LOneWayTillNoon$Town;", true)
  | 1 => ("OneWayTillNoon$Traffic", "rule", "I", false)
  | 2 => ("OneWayTillNoon$Traffic", "noon", "I", false)
  | 3 => ("OneWayTillNoon$Traffic", "every", "I", false)
  | 4 => ("OneWayTillNoon$Traffic", "bits", "I", false)
  | 5 => ("OneWayTillNoon$Traffic", "shutOnes", "I", false)
  | 6 => ("OneWayTillNoon$Traffic", "openOnes", "I", false)
  | 7 => ("OneWayTillNoon$Traffic", "minute", "I", false)
  | 8 => ("OneWayTillNoon$Traffic", "nextTurn", "I", false)
  | _ => ("OneWayTillNoon$Traffic", "bitsThen", "I", false)
def tyX7 : Nat → FieldType := fun k => match k with
  | 0 => .object "OneWayTillNoon$Town"
  | 1 => .int
  | 2 => .int
  | 3 => .int
  | 4 => .int
  | 5 => .int
  | 6 => .int
  | 7 => .int
  | 8 => .int
  | _ => .int
abbrev wsX70 : List Cond := u_ws RX7 TX7 10
theorem nmX7 : ∀ a, a < 10 → ∀ b, b < 10 → a ≠ b → (TX7 a).2.1 ≠ (TX7 b).2.1 := by decide +kernel
theorem tyX7_ok : ∀ k, k < 10 → parseFieldDescriptor (TX7 k).2.2.1 = some (tyX7 k) := by decide +kernel
abbrev cX7_init : ByteArray := prog_9_method_1_code
def yX7_init : MethodName := ⟨RX7, "<init>", "(LOneWayTillNoon$Town;)V"⟩
abbrev cX7_takeAsItIs : ByteArray := prog_9_method_2_code
def yX7_takeAsItIs : MethodName := ⟨RX7, "takeAsItIs", "()V"⟩
abbrev cX7_pointAs : ByteArray := prog_9_method_3_code
def yX7_pointAs : MethodName := ⟨RX7, "pointAs", "(I)V"⟩
abbrev cX7_openBothWays : ByteArray := prog_9_method_4_code
def yX7_openBothWays : MethodName := ⟨RX7, "openBothWays", "(I)V"⟩
abbrev cX7_shutAlso : ByteArray := prog_9_method_5_code
def yX7_shutAlso : MethodName := ⟨RX7, "shutAlso", "(I)V"⟩
abbrev cX7_turnAt : ByteArray := prog_9_method_6_code
def yX7_turnAt : MethodName := ⟨RX7, "turnAt", "(I)V"⟩
abbrev cX7_standAt : ByteArray := prog_9_method_7_code
def yX7_standAt : MethodName := ⟨RX7, "standAt", "(I)V"⟩
abbrev cX7_wayOf : ByteArray := prog_9_method_8_code
def yX7_wayOf : MethodName := ⟨RX7, "wayOf", "(I)I"⟩
abbrev cX7_entryOf : ByteArray := prog_9_method_9_code
def yX7_entryOf : MethodName := ⟨RX7, "entryOf", "(II)I"⟩
def RX8 : String := "OneWayTillNoon$Travel"
def TX8 : u_T := fun k => match k with
  | 0 => ("OneWayTillNoon$Travel", "town", "LOneWayTillNoon$Town;", true)
  | 1 => ("OneWayTillNoon$Travel", "traffic", "LOneWayTillNoon$Traffic;", true)
  | 2 => ("OneWayTillNoon$Travel", "soonestAt", "[I", true)
  | _ => ("OneWayTillNoon$Travel", "settled", "I", false)
def tyX8 : Nat → FieldType := fun k => match k with
  | 0 => .object "OneWayTillNoon$Town"
  | 1 => .object "OneWayTillNoon$Traffic"
  | 2 => .array .int
  | _ => .int
abbrev wsX80 : List Cond := u_ws RX8 TX8 4
theorem nmX8 : ∀ a, a < 4 → ∀ b, b < 4 → a ≠ b → (TX8 a).2.1 ≠ (TX8 b).2.1 := by decide +kernel
theorem tyX8_ok : ∀ k, k < 4 → parseFieldDescriptor (TX8 k).2.2.1 = some (tyX8 k) := by decide +kernel
abbrev cX8_init : ByteArray := prog_10_method_1_code
def yX8_init : MethodName := ⟨RX8, "<init>", "(LOneWayTillNoon$Town;LOneWayTillNoon$Traffic;)V"⟩
abbrev cX8_setOut : ByteArray := prog_10_method_2_code
def yX8_setOut : MethodName := ⟨RX8, "setOut", "(III)V"⟩
abbrev cX8_minuteAt : ByteArray := prog_10_method_3_code
def yX8_minuteAt : MethodName := ⟨RX8, "minuteAt", "(I)I"⟩
abbrev cX8_soonestUnsettled : ByteArray := prog_10_method_4_code
def yX8_soonestUnsettled : MethodName := ⟨RX8, "soonestUnsettled", "()I"⟩
abbrev cX8_goOnFrom : ByteArray := prog_10_method_5_code
def yX8_goOnFrom : MethodName := ⟨RX8, "goOnFrom", "(I)V"⟩
abbrev cX8_goAlong : ByteArray := prog_10_method_6_code
def yX8_goAlong : MethodName := ⟨RX8, "goAlong", "(III)V"⟩
def RX9 : String := "OneWayTillNoon$Trials"
def TX9 : u_T := fun k => match k with
  | 0 => ("OneWayTillNoon$Trials", "town", "LOneWayTillNoon$Town;", true)
  | 1 => ("OneWayTillNoon$Trials", "traffic", "LOneWayTillNoon$Traffic;", true)
  | 2 => ("OneWayTillNoon$Trials", "travel", "LOneWayTillNoon$Travel;", true)
  | 3 => ("OneWayTillNoon$Trials", "frozen", "LOneWayTillNoon$Frozen;", true)
  | _ => ("OneWayTillNoon$Trials", "ledger", "LOneWayTillNoon$Ledger;", true)
def tyX9 : Nat → FieldType := fun k => match k with
  | 0 => .object "OneWayTillNoon$Town"
  | 1 => .object "OneWayTillNoon$Traffic"
  | 2 => .object "OneWayTillNoon$Travel"
  | 3 => .object "OneWayTillNoon$Frozen"
  | _ => .object "OneWayTillNoon$Ledger"
abbrev wsX90 : List Cond := u_ws RX9 TX9 5
theorem nmX9 : ∀ a, a < 5 → ∀ b, b < 5 → a ≠ b → (TX9 a).2.1 ≠ (TX9 b).2.1 := by decide +kernel
theorem tyX9_ok : ∀ k, k < 5 → parseFieldDescriptor (TX9 k).2.2.1 = some (tyX9 k) := by decide +kernel
abbrev cX9_init : ByteArray := prog_11_method_1_code
def yX9_init : MethodName := ⟨RX9, "<init>", "(LOneWayTillNoon$Town;LOneWayTillNoon$Traffic;LOneWayTillNoon$Travel;LOneWayTillNoon$Frozen;LOneWayTillNoon$Ledger;)V"⟩
abbrev cX9_cheapestPointing : ByteArray := prog_11_method_2_code
def yX9_cheapestPointing : MethodName := ⟨RX9, "cheapestPointing", "()I"⟩
abbrev cX9_nearestPointing : ByteArray := prog_11_method_3_code
def yX9_nearestPointing : MethodName := ⟨RX9, "nearestPointing", "()I"⟩
abbrev cX9_turnedPointing : ByteArray := prog_11_method_4_code
def yX9_turnedPointing : MethodName := ⟨RX9, "turnedPointing", "()I"⟩
abbrev cX9_fewestForCost : ByteArray := prog_11_method_5_code
def yX9_fewestForCost : MethodName := ⟨RX9, "fewestForCost", "(I)I"⟩
abbrev cX9_fewestForReach : ByteArray := prog_11_method_6_code
def yX9_fewestForReach : MethodName := ⟨RX9, "fewestForReach", "(III)I"⟩
abbrev cX9_allReachedBy : ByteArray := prog_11_method_7_code
def yX9_allReachedBy : MethodName := ⟨RX9, "allReachedBy", "(I)Z"⟩
abbrev cX9_nextByFewest : ByteArray := prog_11_method_8_code
def yX9_nextByFewest : MethodName := ⟨RX9, "nextByFewest", "(I)I"⟩
abbrev cX9_cheapestNoon : ByteArray := prog_11_method_9_code
def yX9_cheapestNoon : MethodName := ⟨RX9, "cheapestNoon", "()I"⟩
def RX10 : String := "OneWayTillNoon"
def TX10 : u_T := fun k => match k with
  | 0 => ("OneWayTillNoon", "now", "LOneWayTillNoon$Town;", true)
  | 1 => ("OneWayTillNoon", "kept", "LOneWayTillNoon$Town;", true)
  | 2 => ("OneWayTillNoon", "tape", "LOneWayTillNoon$Tape;", true)
  | 3 => ("OneWayTillNoon", "reader", "LOneWayTillNoon$Reader;", true)
  | 4 => ("OneWayTillNoon", "traffic", "LOneWayTillNoon$Traffic;", true)
  | 5 => ("OneWayTillNoon", "travel", "LOneWayTillNoon$Travel;", true)
  | 6 => ("OneWayTillNoon", "frozen", "LOneWayTillNoon$Frozen;", true)
  | 7 => ("OneWayTillNoon", "plan", "LOneWayTillNoon$Plan;", true)
  | 8 => ("OneWayTillNoon", "ledger", "LOneWayTillNoon$Ledger;", true)
  | 9 => ("OneWayTillNoon", "trials", "LOneWayTillNoon$Trials;", true)
  | 10 => ("OneWayTillNoon", "roads", "[LOneWayTillNoon$Road;", true)
  | 11 => ("OneWayTillNoon", "refusals", "[I", true)
  | _ => ("OneWayTillNoon", "imageTaken", "Z", false)
def tyX10 : Nat → FieldType := fun k => match k with
  | 0 => .object "OneWayTillNoon$Town"
  | 1 => .object "OneWayTillNoon$Town"
  | 2 => .object "OneWayTillNoon$Tape"
  | 3 => .object "OneWayTillNoon$Reader"
  | 4 => .object "OneWayTillNoon$Traffic"
  | 5 => .object "OneWayTillNoon$Travel"
  | 6 => .object "OneWayTillNoon$Frozen"
  | 7 => .object "OneWayTillNoon$Plan"
  | 8 => .object "OneWayTillNoon$Ledger"
  | 9 => .object "OneWayTillNoon$Trials"
  | 10 => .array (.object "OneWayTillNoon$Road")
  | 11 => .array .int
  | _ => .boolean
abbrev wsX100 : List Cond := u_ws RX10 TX10 13
theorem nmX10 : ∀ a, a < 13 → ∀ b, b < 13 → a ≠ b → (TX10 a).2.1 ≠ (TX10 b).2.1 := by decide +kernel
theorem tyX10_ok : ∀ k, k < 13 → parseFieldDescriptor (TX10 k).2.2.1 = some (tyX10 k) := by decide +kernel
abbrev cX10_init : ByteArray := prog_1_method_1_code
def yX10_init : MethodName := ⟨RX10, "<init>", "()V"⟩
abbrev cX10_feed : ByteArray := prog_1_method_2_code
def yX10_feed : MethodName := ⟨RX10, "feed", "(IJ)I"⟩
abbrev cX10_town : ByteArray := prog_1_method_3_code
def yX10_town : MethodName := ⟨RX10, "town", "()I"⟩
abbrev cX10_street : ByteArray := prog_1_method_4_code
def yX10_street : MethodName := ⟨RX10, "street", "(II)I"⟩
abbrev cX10_errand : ByteArray := prog_1_method_5_code
def yX10_errand : MethodName := ⟨RX10, "errand", "(II)I"⟩
abbrev cX10_set : ByteArray := prog_1_method_6_code
def yX10_set : MethodName := ⟨RX10, "set", "(II)I"⟩
abbrev cX10_point : ByteArray := prog_1_method_7_code
def yX10_point : MethodName := ⟨RX10, "point", "(I)I"⟩
abbrev cX10_shut : ByteArray := prog_1_method_8_code
def yX10_shut : MethodName := ⟨RX10, "shut", "(IZ)I"⟩
abbrev cX10_way : ByteArray := prog_1_method_9_code
def yX10_way : MethodName := ⟨RX10, "way", "(II)I"⟩
abbrev cX10_soonest : ByteArray := prog_1_method_10_code
def yX10_soonest : MethodName := ⟨RX10, "soonest", "(III)I"⟩
abbrev cX10_waited : ByteArray := prog_1_method_11_code
def yX10_waited : MethodName := ⟨RX10, "waited", "(III)I"⟩
abbrev cX10_road : ByteArray := prog_1_method_12_code
def yX10_road : MethodName := ⟨RX10, "road", "(IIII)I"⟩
abbrev cX10_all : ByteArray := prog_1_method_13_code
def yX10_all : MethodName := ⟨RX10, "all", "(I)I"⟩
abbrev cX10_longest : ByteArray := prog_1_method_14_code
def yX10_longest : MethodName := ⟨RX10, "longest", "(I)I"⟩
abbrev cX10_apart : ByteArray := prog_1_method_15_code
def yX10_apart : MethodName := ⟨RX10, "apart", "(I)I"⟩
abbrev cX10_can : ByteArray := prog_1_method_16_code
def yX10_can : MethodName := ⟨RX10, "can", "()I"⟩
abbrev cX10_bridges : ByteArray := prog_1_method_17_code
def yX10_bridges : MethodName := ⟨RX10, "bridges", "()I"⟩
abbrev cX10_walk : ByteArray := prog_1_method_18_code
def yX10_walk : MethodName := ⟨RX10, "walk", "()I"⟩
abbrev cX10_cost : ByteArray := prog_1_method_19_code
def yX10_cost : MethodName := ⟨RX10, "cost", "()I"⟩
abbrev cX10_best : ByteArray := prog_1_method_20_code
def yX10_best : MethodName := ⟨RX10, "best", "()I"⟩
abbrev cX10_far : ByteArray := prog_1_method_21_code
def yX10_far : MethodName := ⟨RX10, "far", "()I"⟩
abbrev cX10_turning : ByteArray := prog_1_method_22_code
def yX10_turning : MethodName := ⟨RX10, "turning", "()I"⟩
abbrev cX10_bothWays : ByteArray := prog_1_method_23_code
def yX10_bothWays : MethodName := ⟨RX10, "bothWays", "(I)I"⟩
abbrev cX10_corner : ByteArray := prog_1_method_24_code
def yX10_corner : MethodName := ⟨RX10, "corner", "(I)I"⟩
abbrev cX10_procession : ByteArray := prog_1_method_25_code
def yX10_procession : MethodName := ⟨RX10, "procession", "()I"⟩
abbrev cX10_bestNoon : ByteArray := prog_1_method_26_code
def yX10_bestNoon : MethodName := ⟨RX10, "bestNoon", "()I"⟩
abbrev cX10_lives : ByteArray := prog_1_method_27_code
def yX10_lives : MethodName := ⟨RX10, "lives", "()I"⟩
abbrev cX10_meets : ByteArray := prog_1_method_28_code
def yX10_meets : MethodName := ⟨RX10, "meets", "(II)I"⟩
abbrev cX10_pairs : ByteArray := prog_1_method_29_code
def yX10_pairs : MethodName := ⟨RX10, "pairs", "()I"⟩
abbrev cX10_lanes : ByteArray := prog_1_method_30_code
def yX10_lanes : MethodName := ⟨RX10, "lanes", "(III)I"⟩
abbrev cX10_shuts : ByteArray := prog_1_method_31_code
def yX10_shuts : MethodName := ⟨RX10, "shuts", "(I)I"⟩
abbrev cX10_days : ByteArray := prog_1_method_32_code
def yX10_days : MethodName := ⟨RX10, "days", "(II)I"⟩
abbrev cX10_judge : ByteArray := prog_1_method_33_code
def yX10_judge : MethodName := ⟨RX10, "judge", "()I"⟩
abbrev cX10_image : ByteArray := prog_1_method_34_code
def yX10_image : MethodName := ⟨RX10, "image", "()I"⟩
abbrev cX10_on : ByteArray := prog_1_method_35_code
def yX10_on : MethodName := ⟨RX10, "on", "()I"⟩
abbrev cX10_count : ByteArray := prog_1_method_36_code
def yX10_count : MethodName := ⟨RX10, "count", "(I)I"⟩
abbrev cX10_refuse : ByteArray := prog_1_method_37_code
def yX10_refuse : MethodName := ⟨RX10, "refuse", "(I)I"⟩
abbrev cX10_refusalOfMinute : ByteArray := prog_1_method_38_code
def yX10_refusalOfMinute : MethodName := ⟨RX10, "refusalOfMinute", "(I)I"⟩
abbrev cX10_refusalOfWay : ByteArray := prog_1_method_39_code
def yX10_refusalOfWay : MethodName := ⟨RX10, "refusalOfWay", "(III)I"⟩
abbrev cX10_refusalOfTrying : ByteArray := prog_1_method_40_code
def yX10_refusalOfTrying : MethodName := ⟨RX10, "refusalOfTrying", "()I"⟩
abbrev cX10_freezeAsItIs : ByteArray := prog_1_method_41_code
def yX10_freezeAsItIs : MethodName := ⟨RX10, "freezeAsItIs", "(I)V"⟩
abbrev cX10_traceErrand : ByteArray := prog_1_method_42_code
def yX10_traceErrand : MethodName := ⟨RX10, "traceErrand", "(I)V"⟩
abbrev cX10_bitOf : ByteArray := prog_1_method_43_code
def yX10_bitOf : MethodName := ⟨RX10, "bitOf", "(II)I"⟩
def RX11 : String := "OneWayTillNoonModel"
def TX11 : u_T := fun k => match k with
  | 0 => ("OneWayTillNoonModel", "refusals", "[I", true)
  | 1 => ("OneWayTillNoonModel", "s", "[I", true)
  | 2 => ("OneWayTillNoonModel", "image", "[I", true)
  | 3 => ("OneWayTillNoonModel", "read", "[I", true)
  | 4 => ("OneWayTillNoonModel", "isImage", "Z", false)
  | 5 => ("OneWayTillNoonModel", "tape", "[I", true)
  | 6 => ("OneWayTillNoonModel", "told", "[I", true)
  | 7 => ("OneWayTillNoonModel", "taped", "I", false)
  | 8 => ("OneWayTillNoonModel", "at", "I", false)
  | 9 => ("OneWayTillNoonModel", "times", "[I", true)
  | 10 => ("OneWayTillNoonModel", "settled", "[Z", true)
  | 11 => ("OneWayTillNoonModel", "corner", "[I", true)
  | 12 => ("OneWayTillNoonModel", "by", "[I", true)
  | 13 => ("OneWayTillNoonModel", "entered", "[I", true)
  | 14 => ("OneWayTillNoonModel", "steps", "I", false)
  | 15 => ("OneWayTillNoonModel", "waits", "I", false)
  | 16 => ("OneWayTillNoonModel", "far", "[I", true)
  | 17 => ("OneWayTillNoonModel", "walked", "I", false)
  | 18 => ("OneWayTillNoonModel", "walkBits", "I", false)
  | 19 => ("OneWayTillNoonModel", "seen", "I", false)
  | 20 => ("OneWayTillNoonModel", "kept", "[I", true)
  | 21 => ("OneWayTillNoonModel", "comesAt", "[I", true)
  | 22 => ("OneWayTillNoonModel", "goesAt", "[I", true)
  | 23 => ("OneWayTillNoonModel", "firstComes", "[I", true)
  | _ => ("OneWayTillNoonModel", "firstGoes", "[I", true)
def tyX11 : Nat → FieldType := fun k => match k with
  | 0 => .array .int
  | 1 => .array .int
  | 2 => .array .int
  | 3 => .array .int
  | 4 => .boolean
  | 5 => .array .int
  | 6 => .array .int
  | 7 => .int
  | 8 => .int
  | 9 => .array .int
  | 10 => .array .boolean
  | 11 => .array .int
  | 12 => .array .int
  | 13 => .array .int
  | 14 => .int
  | 15 => .int
  | 16 => .array .int
  | 17 => .int
  | 18 => .int
  | 19 => .int
  | 20 => .array .int
  | 21 => .array .int
  | 22 => .array .int
  | 23 => .array .int
  | _ => .array .int
abbrev wsX110 : List Cond := u_ws RX11 TX11 25
theorem nmX11 : ∀ a, a < 25 → ∀ b, b < 25 → a ≠ b → (TX11 a).2.1 ≠ (TX11 b).2.1 := by decide +kernel
theorem tyX11_ok : ∀ k, k < 25 → parseFieldDescriptor (TX11 k).2.2.1 = some (tyX11 k) := by decide +kernel
abbrev cX11_init : ByteArray := prog_13_method_1_code
def yX11_init : MethodName := ⟨RX11, "<init>", "()V"⟩
abbrev cX11_refuse : ByteArray := prog_13_method_2_code
def yX11_refuse : MethodName := ⟨RX11, "refuse", "(I)I"⟩
abbrev cX11_isIn : ByteArray := prog_13_method_3_code
def yX11_isIn : MethodName := ⟨RX11, "isIn", "(II)Z"⟩
abbrev cX11_within : ByteArray := prog_13_method_4_code
def yX11_within : MethodName := ⟨RX11, "within", "(III)I"⟩
abbrev cX11_isCorner : ByteArray := prog_13_method_5_code
def yX11_isCorner : MethodName := ⟨RX11, "isCorner", "(I)Z"⟩
abbrev cX11_isStreet : ByteArray := prog_13_method_6_code
def yX11_isStreet : MethodName := ⟨RX11, "isStreet", "(I)Z"⟩
abbrev cX11_isErrand : ByteArray := prog_13_method_7_code
def yX11_isErrand : MethodName := ⟨RX11, "isErrand", "(I)Z"⟩
abbrev cX11_get : ByteArray := prog_13_method_8_code
def yX11_get : MethodName := ⟨RX11, "get", "(II)I"⟩
abbrev cX11_of : ByteArray := prog_13_method_9_code
def yX11_of : MethodName := ⟨RX11, "of", "(II)I"⟩
abbrev cX11_feed : ByteArray := prog_13_method_10_code
def yX11_feed : MethodName := ⟨RX11, "feed", "(IJ)I"⟩
abbrev cX11_sign : ByteArray := prog_13_method_11_code
def yX11_sign : MethodName := ⟨RX11, "sign", "()I"⟩
abbrev cX11_takes : ByteArray := prog_13_method_12_code
def yX11_takes : MethodName := ⟨RX11, "takes", "(I)Z"⟩
abbrev cX11_readsNumber : ByteArray := prog_13_method_13_code
def yX11_readsNumber : MethodName := ⟨RX11, "readsNumber", "(II)Z"⟩
abbrev cX11_readsStatement : ByteArray := prog_13_method_14_code
def yX11_readsStatement : MethodName := ⟨RX11, "readsStatement", "()Z"⟩
abbrev cX11_toldOf : ByteArray := prog_13_method_15_code
def yX11_toldOf : MethodName := ⟨RX11, "toldOf", "()I"⟩
abbrev cX11_comes : ByteArray := prog_13_method_16_code
def yX11_comes : MethodName := ⟨RX11, "comes", "(I)Z"⟩
abbrev cX11_reads : ByteArray := prog_13_method_17_code
def yX11_reads : MethodName := ⟨RX11, "reads", "()I"⟩
abbrev cX11_town : ByteArray := prog_13_method_18_code
def yX11_town : MethodName := ⟨RX11, "town", "()I"⟩
abbrev cX11_street : ByteArray := prog_13_method_19_code
def yX11_street : MethodName := ⟨RX11, "street", "(II)I"⟩
abbrev cX11_errand : ByteArray := prog_13_method_20_code
def yX11_errand : MethodName := ⟨RX11, "errand", "(II)I"⟩
abbrev cX11_becomes : ByteArray := prog_13_method_21_code
def yX11_becomes : MethodName := ⟨RX11, "becomes", "(II)I"⟩
abbrev cX11_most : ByteArray := prog_13_method_22_code
def yX11_most : MethodName := ⟨RX11, "most", "(I)I"⟩
abbrev cX11_set : ByteArray := prog_13_method_23_code
def yX11_set : MethodName := ⟨RX11, "set", "(II)I"⟩
abbrev cX11_point : ByteArray := prog_13_method_24_code
def yX11_point : MethodName := ⟨RX11, "point", "(I)I"⟩
abbrev cX11_shut : ByteArray := prog_13_method_25_code
def yX11_shut : MethodName := ⟨RX11, "shut", "(IZ)I"⟩
abbrev cX11_wayOf : ByteArray := prog_13_method_26_code
def yX11_wayOf : MethodName := ⟨RX11, "wayOf", "(II)I"⟩
abbrev cX11_way : ByteArray := prog_13_method_27_code
def yX11_way : MethodName := ⟨RX11, "way", "(II)I"⟩
abbrev cX11_goesFrom : ByteArray := prog_13_method_28_code
def yX11_goesFrom : MethodName := ⟨RX11, "goesFrom", "(III)Z"⟩
abbrev cX11_enters : ByteArray := prog_13_method_29_code
def yX11_enters : MethodName := ⟨RX11, "enters", "(III)I"⟩
abbrev cX11_finds : ByteArray := prog_13_method_30_code
def yX11_finds : MethodName := ⟨RX11, "finds", "(II)V"⟩
abbrev cX11_wrongWay : ByteArray := prog_13_method_31_code
def yX11_wrongWay : MethodName := ⟨RX11, "wrongWay", "(III)I"⟩
abbrev cX11_soonest : ByteArray := prog_13_method_32_code
def yX11_soonest : MethodName := ⟨RX11, "soonest", "(III)I"⟩
abbrev cX11_findsRoad : ByteArray := prog_13_method_33_code
def yX11_findsRoad : MethodName := ⟨RX11, "findsRoad", "(III)Z"⟩
abbrev cX11_waited : ByteArray := prog_13_method_34_code
def yX11_waited : MethodName := ⟨RX11, "waited", "(III)I"⟩
abbrev cX11_road : ByteArray := prog_13_method_35_code
def yX11_road : MethodName := ⟨RX11, "road", "(IIII)I"⟩
abbrev cX11_findsFar : ByteArray := prog_13_method_36_code
def yX11_findsFar : MethodName := ⟨RX11, "findsFar", "(I)V"⟩
abbrev cX11_apartAt : ByteArray := prog_13_method_37_code
def yX11_apartAt : MethodName := ⟨RX11, "apartAt", "(I)I"⟩
abbrev cX11_longestAt : ByteArray := prog_13_method_38_code
def yX11_longestAt : MethodName := ⟨RX11, "longestAt", "(I)I"⟩
abbrev cX11_all : ByteArray := prog_13_method_39_code
def yX11_all : MethodName := ⟨RX11, "all", "(I)I"⟩
abbrev cX11_longest : ByteArray := prog_13_method_40_code
def yX11_longest : MethodName := ⟨RX11, "longest", "(I)I"⟩
abbrev cX11_apart : ByteArray := prog_13_method_41_code
def yX11_apart : MethodName := ⟨RX11, "apart", "(I)I"⟩
abbrev cX11_hang : ByteArray := prog_13_method_42_code
def yX11_hang : MethodName := ⟨RX11, "hang", "(II)I"⟩
abbrev cX11_isBridge : ByteArray := prog_13_method_43_code
def yX11_isBridge : MethodName := ⟨RX11, "isBridge", "(I)Z"⟩
abbrev cX11_bridgeBits : ByteArray := prog_13_method_44_code
def yX11_bridgeBits : MethodName := ⟨RX11, "bridgeBits", "()I"⟩
abbrev cX11_can : ByteArray := prog_13_method_45_code
def yX11_can : MethodName := ⟨RX11, "can", "()I"⟩
abbrev cX11_bridges : ByteArray := prog_13_method_46_code
def yX11_bridges : MethodName := ⟨RX11, "bridges", "()I"⟩
abbrev cX11_walks : ByteArray := prog_13_method_47_code
def yX11_walks : MethodName := ⟨RX11, "walks", "(I)V"⟩
abbrev cX11_walk : ByteArray := prog_13_method_48_code
def yX11_walk : MethodName := ⟨RX11, "walk", "()I"⟩
abbrev cX11_costOf : ByteArray := prog_13_method_49_code
def yX11_costOf : MethodName := ⟨RX11, "costOf", "()I"⟩
abbrev cX11_cost : ByteArray := prog_13_method_50_code
def yX11_cost : MethodName := ⟨RX11, "cost", "()I"⟩
abbrev cX11_keepsMusts : ByteArray := prog_13_method_51_code
def yX11_keepsMusts : MethodName := ⟨RX11, "keepsMusts", "(I)Z"⟩
abbrev cX11_wrongFew : ByteArray := prog_13_method_52_code
def yX11_wrongFew : MethodName := ⟨RX11, "wrongFew", "()I"⟩
abbrev cX11_bestOf : ByteArray := prog_13_method_53_code
def yX11_bestOf : MethodName := ⟨RX11, "bestOf", "(Z)I"⟩
abbrev cX11_best : ByteArray := prog_13_method_54_code
def yX11_best : MethodName := ⟨RX11, "best", "()I"⟩
abbrev cX11_far : ByteArray := prog_13_method_55_code
def yX11_far : MethodName := ⟨RX11, "far", "()I"⟩
abbrev cX11_turning : ByteArray := prog_13_method_56_code
def yX11_turning : MethodName := ⟨RX11, "turning", "()I"⟩
abbrev cX11_bits : ByteArray := prog_13_method_57_code
def yX11_bits : MethodName := ⟨RX11, "bits", "(I)I"⟩
abbrev cX11_bothWays : ByteArray := prog_13_method_58_code
def yX11_bothWays : MethodName := ⟨RX11, "bothWays", "(I)I"⟩
abbrev cX11_corner : ByteArray := prog_13_method_59_code
def yX11_corner : MethodName := ⟨RX11, "corner", "(I)I"⟩
abbrev cX11_along : ByteArray := prog_13_method_60_code
def yX11_along : MethodName := ⟨RX11, "along", "(II)I"⟩
abbrev cX11_procession : ByteArray := prog_13_method_61_code
def yX11_procession : MethodName := ⟨RX11, "procession", "()I"⟩
abbrev cX11_bestNoon : ByteArray := prog_13_method_62_code
def yX11_bestNoon : MethodName := ⟨RX11, "bestNoon", "()I"⟩
abbrev cX11_lives : ByteArray := prog_13_method_63_code
def yX11_lives : MethodName := ⟨RX11, "lives", "()I"⟩
abbrev cX11_stays : ByteArray := prog_13_method_64_code
def yX11_stays : MethodName := ⟨RX11, "stays", "(I)V"⟩
abbrev cX11_areMet : ByteArray := prog_13_method_65_code
def yX11_areMet : MethodName := ⟨RX11, "areMet", "(II)Z"⟩
abbrev cX11_meets : ByteArray := prog_13_method_66_code
def yX11_meets : MethodName := ⟨RX11, "meets", "(II)I"⟩
abbrev cX11_pairs : ByteArray := prog_13_method_67_code
def yX11_pairs : MethodName := ⟨RX11, "pairs", "()I"⟩
abbrev cX11_isReached : ByteArray := prog_13_method_68_code
def yX11_isReached : MethodName := ⟨RX11, "isReached", "(III)Z"⟩
abbrev cX11_lanes : ByteArray := prog_13_method_69_code
def yX11_lanes : MethodName := ⟨RX11, "lanes", "(III)I"⟩
abbrev cX11_shuts : ByteArray := prog_13_method_70_code
def yX11_shuts : MethodName := ⟨RX11, "shuts", "(I)I"⟩
abbrev cX11_days : ByteArray := prog_13_method_71_code
def yX11_days : MethodName := ⟨RX11, "days", "(II)I"⟩
abbrev cX11_judge : ByteArray := prog_13_method_72_code
def yX11_judge : MethodName := ⟨RX11, "judge", "()I"⟩
abbrev cX11_image : ByteArray := prog_13_method_73_code
def yX11_image : MethodName := ⟨RX11, "image", "()I"⟩
abbrev cX11_on : ByteArray := prog_13_method_74_code
def yX11_on : MethodName := ⟨RX11, "on", "()I"⟩
abbrev cX11_count : ByteArray := prog_13_method_75_code
def yX11_count : MethodName := ⟨RX11, "count", "(I)I"⟩
def RJ6 : String := "java/lang/Integer"
abbrev cJ6_bitCount_0f7a4 : ByteArray := prog_14_method_49_code
def yJ6_bitCount_0f7a4 : MethodName := ⟨RJ6, "bitCount", "(I)I"⟩
def RJ9 : String := "java/lang/Math"
abbrev cJ9_max_7cf53 : ByteArray := prog_15_method_65_code
def yJ9_max_7cf53 : MethodName := ⟨RJ9, "max", "(II)I"⟩
abbrev cJ9_min_7cf53 : ByteArray := prog_15_method_69_code
def yJ9_min_7cf53 : MethodName := ⟨RJ9, "min", "(II)I"⟩
def RJ10 : String := "java/lang/System"
def RJ7 : String := "java/util/Arrays"
abbrev cJ7_fill_53178 : ByteArray := prog_17_method_103_code
def yJ7_fill_53178 : MethodName := ⟨RJ7, "fill", "([II)V"⟩
def RL : String := "OneWayTillNoonLaw"
abbrev cL_law : ByteArray := code
def yL_law : MethodName := ⟨RL, "law", "([I)Z"⟩
end
section
/-! the machine's numbers as Ints -/
abbrev Hp : Type := Nat → Nat → Nat → Int
abbrev AV : Type := Int ⊕ ((Nat × Nat) ⊕ (Int64 ⊕ Unit))
abbrev zI (z : Int) : AV := .inl z
abbrev zR (g i : Nat) : AV := .inr (.inl (g, i))
abbrev zJ (x : Int64) : AV := .inr (.inr (.inl x))
abbrev zU : AV := .inr (.inr (.inr ()))
def wrap (z : Int) : Int := (z + 2147483648) % 4294967296 - 2147483648
def inR (z : Int) : Prop := -2147483648 ≤ z ∧ z ≤ 2147483647
def zup (σ : Hp) (g i j : Nat) (v : Int) : Hp := fun g' i' j' => if g' = g ∧ i' = i ∧ j' = j then v else σ g' i' j'
abbrev n32 (z : Int) : Int32 := Int32.ofInt z
theorem wrap_in (z : Int) : inR (wrap z) := by unfold inR wrap; omega
theorem wrap_eq {z : Int} (h : inR z) : wrap z = z := by unfold inR at h; unfold wrap; omega
theorem wrap_bmod (z : Int) : wrap z = z.bmod (2 ^ 32) := by
  unfold wrap
  rw [Int.bmod_def]
  split <;> omega
theorem n32_toInt (z : Int) : (n32 z).toInt = wrap z := by rw [wrap_bmod]; exact Int32.toInt_ofInt
theorem n32_canon {z : Int} (h : inR z) : (n32 z).toInt = z := by rw [n32_toInt, wrap_eq h]
theorem n32_of (x : Int32) : n32 x.toInt = x := Int32.ofInt_toInt x
theorem toInt_in (x : Int32) : inR x.toInt := by
  have h : (n32 x.toInt).toInt = x.toInt := by rw [n32_of]
  rw [n32_toInt] at h
  rw [← h]
  exact wrap_in _
theorem n32_wrap (z : Int) : n32 (wrap z) = n32 z := by rw [← n32_toInt, n32_of]
theorem n32_add (a b : Int) : n32 a + n32 b = n32 (wrap (a + b)) := by rw [n32_wrap]; exact (Int32.ofInt_add a b).symm
theorem n32_sub (a b : Int) : n32 a - n32 b = n32 (wrap (a - b)) := by rw [n32_wrap]; exact (Int32.ofInt_sub a b).symm
theorem n32_mul (a b : Int) : n32 a * n32 b = n32 (wrap (a * b)) := by rw [n32_wrap]; exact (Int32.ofInt_mul a b).symm
theorem n32_neg (a : Int) : - n32 a = n32 (wrap (- a)) := by rw [n32_wrap]; exact (Int32.ofInt_neg a).symm
theorem n32_lt {a b : Int} (ha : inR a) (hb : inR b) : n32 a < n32 b ↔ a < b := by rw [Int32.lt_iff_toInt_lt, n32_canon ha, n32_canon hb]
theorem n32_le {a b : Int} (ha : inR a) (hb : inR b) : n32 a ≤ n32 b ↔ a ≤ b := by rw [Int32.le_iff_toInt_le, n32_canon ha, n32_canon hb]
theorem n32_inj {a b : Int} (ha : inR a) (hb : inR b) : n32 a = n32 b ↔ a = b := by
  constructor
  · intro h
    rw [← n32_canon ha, ← n32_canon hb, h]
  · intro h; rw [h]
theorem n32_nat {z : Int} (h0 : 0 ≤ z) (h : inR z) : (n32 z).toNatClampNeg = z.toNat := by
  show (n32 z).toInt.toNat = z.toNat
  rw [n32_canon h]
theorem n32_in {z : Int} {N : Nat} (h : inR z) (hi : 0 ≤ z ∧ z < (N : Int)) : vp_in (n32 z) N := by
  intro q
  rcases q with q | q
  · have : n32 z < n32 0 := q
    rw [n32_lt h ⟨by omega, by omega⟩] at this
    omega
  · rw [n32_nat hi.1 h] at q
    omega
theorem inR_0 : inR 0 := ⟨by omega, by omega⟩
def zand (a b : Int) : Int := (n32 a &&& n32 b).toInt
def zor (a b : Int) : Int := (n32 a ||| n32 b).toInt
def zxor (a b : Int) : Int := (n32 a ^^^ n32 b).toInt
def zshl (a b : Int) : Int := (n32 a <<< (n32 b &&& 31)).toInt
def zshr (a b : Int) : Int := (n32 a >>> (n32 b &&& 31)).toInt
def zushr (a b : Int) : Int := (((n32 a).toUInt32 >>> ((n32 b).toUInt32 &&& Int32.toUInt32 31)).toInt32).toInt
def zdiv (a b : Int) : Int := (n32 a / n32 b).toInt
def zrem (a b : Int) : Int := (n32 a - n32 a / n32 b * n32 b).toInt
def zi2l (a : Int) : Int64 := (n32 a).toInt64
def zl2i (x : Int64) : Int := x.toInt32.toInt
def zlshl (x : Int64) (b : Int) : Int64 := x <<< ((n32 b).toInt64 &&& 63)
def zlshr (x : Int64) (b : Int) : Int64 := x >>> ((n32 b).toInt64 &&& 63)
def zlushr (x : Int64) (b : Int) : Int64 := (x.toUInt64 >>> ((n32 b).toInt64.toUInt64 &&& Int64.toUInt64 63)).toInt64
/-! values, locals -/
def cvv (ad : Nat → Nat → Nat) : AV → Value
  | .inl z => .int (n32 z)
  | .inr (.inl q) => .ref (ad q.1 q.2)
  | .inr (.inr (.inl x)) => .long x
  | .inr (.inr (.inr _)) => .null
def lvl (ad : Nat → Nat → Nat) : Nat → List AV → List (Nat × Value)
  | _, [] => []
  | k, .inr (.inr (.inr _)) :: r => lvl ad (k + 1) r
  | k, v :: r => (k, cvv ad v) :: lvl ad (k + 1) r
theorem lvl_mem {ad : Nat → Nat → Nat} {i : Nat} {w : Value} : ∀ (L : List AV) (k : Nat), (i, w) ∈ lvl ad k L ↔ ∃ v, k ≤ i ∧ L[i - k]? = some v ∧ v ≠ zU ∧ w = cvv ad v
  | [], k => by simp [lvl]
  | v :: r, k => by
    have key : (i, w) ∈ lvl ad (k + 1) r ↔ ∃ v, k + 1 ≤ i ∧ r[i - (k + 1)]? = some v ∧ v ≠ zU ∧ w = cvv ad v := lvl_mem r (k + 1)
    have shift : k + 1 ≤ i → (v :: r)[i - k]? = r[i - (k + 1)]? := fun h => by
      rw [show i - k = (i - (k + 1)) + 1 by omega, List.getElem?_cons_succ]
    have main : (v ≠ zU ∧ i = k ∧ w = cvv ad v) ∨ (i, w) ∈ lvl ad (k + 1) r ↔ ∃ u, k ≤ i ∧ (v :: r)[i - k]? = some u ∧ u ≠ zU ∧ w = cvv ad u := by
      rw [key]
      constructor
      · rintro (⟨h1, h2, h3⟩ | ⟨u, h1, h2, h3⟩)
        · exact ⟨v, by omega, by rw [h2, Nat.sub_self]; rfl, h1, h3⟩
        · exact ⟨u, by omega, by rw [shift h1]; exact h2, h3⟩
      · rintro ⟨u, h1, h2, h3, h4⟩
        by_cases e : i = k
        · subst e
          rw [Nat.sub_self] at h2
          cases h2
          exact Or.inl ⟨h3, rfl, h4⟩
        · exact Or.inr ⟨u, by omega, by rw [← shift (by omega)]; exact h2, h3, h4⟩
    rw [← main]
    rcases v with z | q | x | u
    · simp [lvl]
    · simp [lvl]
    · simp [lvl]
    · simp [lvl]
def lrel (ad : Nat → Nat → Nat) (ls : Array Slot) (n : Nat) (L : List AV) : Prop := L.length = n ∧ lv_has ls n (lvl ad 0 L)
theorem lrel_at {ad : Nat → Nat → Nat} {ls : Array Slot} {n : Nat} {L : List AV} (h : lrel ad ls n L) {i : Nat} {v : AV} (hi : L[i]? = some v) (hv : v ≠ zU) : ls[i]? = some (.val (cvv ad v)) :=
  h.2.2.2 (i, cvv ad v) ((lvl_mem L 0).mpr ⟨v, Nat.zero_le _, by simpa using hi, hv, rfl⟩)
/-- no long at the place before -/
def noJ (L : List AV) : Nat → Bool
  | 0 => true
  | k + 1 => match L[k]? with
    | some (.inr (.inr (.inl _))) => false
    | _ => true
theorem lrel_set {ad : Nat → Nat → Nat} {ls' : Array Slot} {n : Nat} {L : List AV} {i : Nat} {z : Int} (hn : noJ L i = true) (hi : i < L.length) (hL : L.length = n)
    (h : lv_has ls' n ((i, Value.int (n32 z)) :: (lvl ad 0 L).filter (fun q => !(q.1 == i) && !(q.1 + 1 == i && q.2.category == 2)))) : lrel ad ls' n (L.set i (zI z)) := by
  refine ⟨by simp [hL], h.1, h.2.1, fun q hq => ?_⟩
  obtain ⟨j, w⟩ := q
  obtain ⟨v, -, h2, h3, h4⟩ := (lvl_mem _ 0).mp hq
  rw [Nat.sub_zero] at h2
  by_cases e : j = i
  · subst e
    rw [List.getElem?_set_self hi] at h2
    cases h2
    subst h4
    exact h.2.2 _ List.mem_cons_self
  · rw [List.getElem?_set_ne (Ne.symm e)] at h2
    refine h.2.2 _ (List.mem_cons_of_mem _ (List.mem_filter.mpr ⟨(lvl_mem L 0).mpr ⟨v, Nat.zero_le _, by simpa using h2, h3, h4⟩, ?_⟩))
    have hj : (j == i) = false := by simpa using e
    by_cases e2 : j + 1 = i
    · subst e2
      have hc : w.category = 1 := by
        rw [h4]
        simp only [noJ, h2] at hn
        rcases v with z | q | x | u
        · rfl
        · rfl
        · simp at hn
        · exact absurd rfl h3
      simp [hj, hc]
    · simp [hj, e2]
theorem lrel_forget {ad : Nat → Nat → Nat} {ls : Array Slot} {n : Nat} {L L' : List AV} (h : lrel ad ls n L) (hl : L'.length = L.length) (hf : ∀ (i : Nat) (v : AV), L'[i]? = some v → v = zU ∨ L[i]? = some v) : lrel ad ls n L' := by
  refine ⟨hl.trans h.1, h.2.1, h.2.2.1, fun q hq => ?_⟩
  obtain ⟨j, w⟩ := q
  obtain ⟨v, -, h2, h3, h4⟩ := (lvl_mem _ 0).mp hq
  rw [Nat.sub_zero] at h2
  rcases hf j v h2 with e | e
  · exact absurd e h3
  · subst h4
    exact lrel_at h e h3
end
section
/-! which cells there are: a group's kind (0 ints, 1 booleans, 2 references, 3 + class: objects, 40 the script, 41 static ints), how many, length, fields (0 int, 1 boolean, 2 a cell, 3 the cell of the same place) -/
def shL : List (Nat × Nat × Nat × List (Nat × Nat × Nat)) := [
  (13, 1, 13, [(2, 1, 0), (2, 1, 1), (2, 12, 0), (2, 14, 0), (2, 16, 0), (2, 17, 0), (2, 19, 0), (2, 22, 0), (2, 25, 0), (2, 26, 0), (2, 27, 0), (2, 33, 0), (1, 0, 0)]),
  (9, 3, 17, [(0, 0, 0), (0, 0, 0), (0, 0, 0), (0, 0, 0), (0, 0, 0), (0, 0, 0), (0, 0, 0), (3, 2, 0), (3, 3, 0), (3, 4, 0), (3, 5, 0), (3, 6, 0), (3, 7, 0), (3, 8, 0), (3, 9, 0), (3, 10, 0), (3, 11, 0)]),
  (0, 3, 14, []),
  (0, 3, 14, []),
  (0, 3, 14, []),
  (0, 3, 14, []),
  (0, 3, 8, []),
  (0, 3, 8, []),
  (0, 3, 8, []),
  (0, 3, 8, []),
  (0, 3, 10, []),
  (0, 3, 4, []),
  (8, 1, 2, [(2, 13, 0), (0, 0, 0)]),
  (0, 1, 64, []),
  (6, 1, 7, [(2, 12, 0), (2, 1, 2), (0, 0, 0), (0, 0, 0), (0, 0, 0), (2, 15, 0), (1, 0, 0)]),
  (0, 1, 4, []),
  (10, 1, 10, [(2, 1, 0), (0, 0, 0), (0, 0, 0), (0, 0, 0), (0, 0, 0), (0, 0, 0), (0, 0, 0), (0, 0, 0), (0, 0, 0), (0, 0, 0)]),
  (11, 1, 4, [(2, 1, 0), (2, 16, 0), (2, 18, 0), (0, 0, 0)]),
  (0, 1, 10, []),
  (3, 1, 3, [(2, 1, 0), (2, 16, 0), (2, 20, 0)]),
  (2, 1, 10, [(2, 21, 0)]),
  (0, 10, 10, []),
  (5, 1, 3, [(2, 1, 0), (2, 23, 0), (2, 24, 0)]),
  (0, 1, 10, []),
  (0, 1, 10, []),
  (4, 1, 3, [(2, 1, 0), (2, 17, 0), (0, 0, 0)]),
  (12, 1, 5, [(2, 1, 0), (2, 16, 0), (2, 17, 0), (2, 19, 0), (2, 25, 0)]),
  (2, 1, 8, [(2, 28, 0)]),
  (7, 8, 8, [(2, 1, 0), (2, 16, 0), (2, 17, 0), (3, 29, 0), (3, 30, 0), (3, 31, 0), (3, 32, 0), (0, 0, 0)]),
  (0, 8, 10, []),
  (0, 8, 10, []),
  (0, 8, 10, []),
  (0, 8, 10, []),
  (0, 1, 7, []),
  (14, 1, 25, [(2, 35, 0), (2, 36, 0), (2, 37, 0), (2, 38, 0), (1, 0, 0), (2, 39, 0), (2, 40, 0), (0, 0, 0), (0, 0, 0), (2, 41, 0), (2, 42, 0), (2, 43, 0), (2, 44, 0), (2, 45, 0), (0, 0, 0), (0, 0, 0), (2, 46, 0), (0, 0, 0), (0, 0, 0), (0, 0, 0), (2, 47, 0), (2, 48, 0), (2, 49, 0), (2, 50, 0), (2, 51, 0)]),
  (0, 1, 7, []),
  (0, 1, 123, []),
  (0, 1, 123, []),
  (0, 1, 123, []),
  (0, 1, 64, []),
  (0, 1, 4, []),
  (0, 1, 10, []),
  (1, 1, 10, []),
  (0, 1, 11, []),
  (0, 1, 10, []),
  (0, 1, 10, []),
  (0, 1, 100, []),
  (0, 1, 8, []),
  (0, 1, 10, []),
  (0, 1, 10, []),
  (0, 1, 10, []),
  (0, 1, 10, []),
  (50, 0, 0, []),
  (50, 0, 0, []),
  (50, 0, 0, []),
  (50, 0, 0, []),
  (50, 0, 0, []),
  (50, 0, 0, []),
  (50, 0, 0, []),
  (50, 0, 0, []),
  (40, 1, 0, []),
  (41, 1, 4, []),
  (41, 1, 4, [])]
def shp (g : Nat) : Nat × Nat × Nat × List (Nat × Nat × Nat) := shL.getD g (50, 0, 0, [])
def ownL : List String := [RX0, RX1, RX2, RX3, RX4, RX5, RX6, RX7, RX8, RX9, RX10, RX11, RL, RJ6, RJ9, RJ10, RJ7]
def ownN (k : Nat) : String := ownL.getD k ""
def clsL : List vw_C := [(RX0, TX0, 3), (RX1, TX1, 3), (RX2, TX2, 3), (RX3, TX3, 7), (RX4, TX4, 8), (RX5, TX5, 2), (RX6, TX6, 17), (RX7, TX7, 10), (RX8, TX8, 4), (RX9, TX9, 5), (RX10, TX10, 13), (RX11, TX11, 25)]
def gTbl : List Cond := lw_tbl.filter goodWord
theorem gTbl_in {w : Cond} {i : Nat} (h : lw_tbl[i]? = some w) (hg : goodWord w = true) : w ∈ gTbl := List.mem_filter.mpr ⟨List.mem_of_getElem? h, hg⟩
def clsT (ci : Nat) : vw_C := clsL.getD ci (RX0, TX0, 0)
def fTab : List (Nat × Nat × Nat × Nat × Nat) := [(6, 9, 6, 0, 94), (2, 26, 6, 0, 95), (8, 34, 6, 0, 96), (0, 67, 6, 0, 97), (1, 56, 6, 0, 98), (9, 97, 6, 0, 99), (10, 295, 6, 0, 100), (6, 46, 6, 1, 101), (9, 32, 6, 1, 102), (0, 37, 6, 1, 103), (4, 54, 6, 1, 104), (2, 32, 6, 1, 105), (8, 56, 6, 1, 106), (10, 164, 6, 1, 107), (6, 49, 6, 2, 108), (1, 24, 6, 2, 109), (10, 269, 6, 2, 110), (6, 52, 6, 3, 111), (0, 81, 6, 3, 112), (10, 244, 6, 3, 113), (6, 55, 6, 4, 114), (7, 48, 6, 4, 115), (10, 127, 6, 4, 116), (6, 58, 6, 5, 117), (7, 31, 6, 5, 118), (10, 137, 6, 5, 119), (6, 61, 6, 6, 120), (7, 39, 6, 6, 121), (9, 65, 6, 6, 122), (10, 167, 6, 6, 123), (6, 15, 6, 7, 124), (0, 47, 6, 7, 125), (2, 35, 6, 7, 126), (4, 61, 6, 7, 127), (10, 118, 6, 7, 128), (8, 59, 6, 7, 129), (6, 19, 6, 8, 130), (0, 51, 6, 8, 131), (4, 58, 6, 8, 132), (2, 38, 6, 8, 133), (10, 121, 6, 8, 134), (8, 62, 6, 8, 135), (6, 22, 6, 9, 136), (0, 54, 6, 9, 137), (4, 78, 6, 9, 138), (10, 124, 6, 9, 139), (8, 72, 6, 9, 140), (6, 25, 6, 10, 141), (10, 134, 6, 10, 142), (6, 28, 6, 11, 143), (1, 34, 6, 11, 144), (10, 143, 6, 11, 145), (6, 31, 6, 12, 146), (1, 37, 6, 12, 147), (10, 146, 6, 12, 148), (6, 34, 6, 13, 149), (1, 40, 6, 13, 150), (10, 149, 6, 13, 151), (6, 37, 6, 14, 152), (1, 30, 6, 14, 153), (10, 152, 6, 14, 154), (6, 40, 6, 15, 155), (0, 84, 6, 15, 156), (10, 247, 6, 15, 157), (6, 43, 6, 16, 158), (7, 15, 6, 16, 159), (10, 161, 6, 16, 160), (5, 9, 5, 0, 203), (5, 15, 5, 1, 204), (10, 102, 5, 1, 205), (3, 48, 5, 1, 206), (3, 22, 3, 0, 220), (3, 12, 3, 1, 221), (3, 34, 3, 2, 222), (3, 57, 3, 3, 223), (3, 45, 3, 4, 224), (3, 18, 3, 5, 225), (3, 75, 3, 6, 226), (7, 9, 7, 0, 248), (7, 21, 7, 1, 249), (7, 25, 7, 2, 250), (7, 28, 7, 3, 251), (7, 45, 7, 4, 252), (7, 34, 7, 5, 253), (7, 51, 7, 6, 254), (7, 54, 7, 7, 255), (7, 57, 7, 8, 256), (7, 60, 7, 9, 257), (8, 15, 8, 0, 285), (8, 19, 8, 1, 286), (8, 9, 8, 2, 287), (8, 30, 8, 3, 288), (0, 16, 0, 0, 306), (0, 20, 0, 1, 307), (0, 11, 0, 2, 308), (2, 18, 2, 0, 322), (2, 9, 2, 1, 323), (2, 15, 2, 2, 324), (1, 9, 1, 0, 338), (1, 15, 1, 1, 339), (1, 59, 1, 2, 340), (9, 9, 9, 0, 354), (9, 15, 9, 1, 355), (9, 19, 9, 2, 356), (9, 23, 9, 3, 357), (9, 27, 9, 4, 358), (4, 24, 4, 0, 377), (4, 28, 4, 1, 378), (4, 32, 4, 2, 379), (4, 9, 4, 3, 380), (4, 15, 4, 4, 381), (4, 18, 4, 5, 382), (4, 21, 4, 6, 383), (4, 42, 4, 7, 384), (10, 200, 4, 7, 385), (10, 10, 10, 0, 403), (10, 16, 10, 1, 404), (10, 22, 10, 2, 405), (10, 31, 10, 3, 406), (10, 40, 10, 4, 407), (10, 49, 10, 5, 408), (10, 56, 10, 6, 409), (10, 63, 10, 7, 410), (10, 72, 10, 8, 411), (10, 81, 10, 9, 412), (10, 87, 10, 10, 413), (10, 91, 10, 11, 414), (10, 291, 10, 12, 415), (11, 7, 11, 0, 958), (11, 13, 11, 1, 959), (11, 16, 11, 2, 960), (11, 19, 11, 3, 961), (11, 218, 11, 4, 962), (11, 22, 11, 5, 963), (11, 25, 11, 6, 964), (11, 70, 11, 7, 965), (11, 76, 11, 8, 966), (11, 28, 11, 9, 967), (11, 31, 11, 10, 968), (11, 35, 11, 11, 969), (11, 38, 11, 12, 970), (11, 41, 11, 13, 971), (11, 146, 11, 14, 972), (11, 149, 11, 15, 973), (11, 44, 11, 16, 974), (11, 178, 11, 17, 975), (11, 181, 11, 18, 976), (11, 175, 11, 19, 977), (11, 47, 11, 20, 978), (11, 50, 11, 21, 979), (11, 53, 11, 22, 980), (11, 56, 11, 23, 981), (11, 59, 11, 24, 982)]
def fW (e : Nat × Nat × Nat × Nat × Nat) : Cond := .fieldLink (ownN e.1) e.2.1 ((clsT e.2.2.1).2.1 e.2.2.2.1).1 ((clsT e.2.2.1).2.1 e.2.2.2.1).2.1 ((clsT e.2.2.1).2.1 e.2.2.2.1).2.2.1
theorem fTab_ok : fTab.all (fun e => decide (lw_tbl[e.2.2.2.2]? = some (fW e)) && goodWord (fW e) && decide (e.2.2.2.1 < (clsT e.2.2.1).2.2) && decide (e.2.2.1 < 12)) = true := by decide +kernel
def sTab : List (Nat × Nat × Nat × Nat) := [(10, 155, 61, 556), (10, 158, 62, 558)]
def sNm (g : Nat) : String := if g = 61 then "LEAST_SETTING" else "GREATEST_SETTING"
def sW (e : Nat × Nat × Nat × Nat) : Cond := .fieldLink (ownN e.1) e.2.1 RX10 (sNm e.2.2.1) "[I"
theorem sTab_ok : sTab.all (fun e => decide (lw_tbl[e.2.2.2]? = some (sW e)) && goodWord (sW e) && (e.2.2.1 == 61 || e.2.2.1 == 62)) = true := by decide +kernel
def cTab : List (Nat × Nat × Int × Nat) := [(8, 23, 1000000, 610), (0, 24, 1000000, 683), (1, 19, 1000000, 763), (9, 31, 1000000, 786), (13, 265, 1431655765, 836), (13, 266, 858993459, 837), (13, 267, 252645135, 838), (10, 275, 1000000000, 905), (1, 65, 1664525, 922), (1, 66, 1013904223, 923), (1, 67, 2147483647, 924), (11, 155, 1000000000, 1181), (11, 215, 1664525, 1313), (11, 216, 1013904223, 1314), (11, 217, 2147483647, 1315)]
def cW (e : Nat × Nat × Int × Nat) : Cond := .constant (ownN e.1) e.2.1 (n32 e.2.2.1)
theorem cTab_ok : cTab.all (fun e => decide (lw_tbl[e.2.2.2]? = some (cW e)) && goodWord (cW e) && (decide (-2147483648 ≤ e.2.2.1) && decide (e.2.2.1 ≤ 2147483647))) = true := by decide +kernel
def jTab : List (Nat × Nat × Int × Nat) := [(11, 74, 255, 1043), (12, 13, 4294967295, 1332)]
def jW (e : Nat × Nat × Int × Nat) : Cond := .constantLong (ownN e.1) e.2.1 (Int64.ofInt e.2.2.1)
theorem jTab_ok : jTab.all (fun e => decide (lw_tbl[e.2.2.2]? = some (jW e)) && goodWord (jW e)) = true := by decide +kernel
theorem inX0 : ∀ w ∈ u_ws RX0 TX0 3, w ∈ gTbl := by
  have h : (List.range 3).all (fun k => decide (lw_tbl[([309, 311, 313] : List Nat).getD k 0]? = some (u_lay RX0 TX0 k)) && goodWord (u_lay RX0 TX0 k)) = true := by decide +kernel
  intro w hw
  obtain ⟨k, hk, rfl⟩ := List.mem_map.mp hw
  have h1 := List.all_eq_true.mp h k hk
  simp only [Bool.and_eq_true, decide_eq_true_eq] at h1
  exact gTbl_in h1.1 h1.2
theorem inX1 : ∀ w ∈ u_ws RX1 TX1 3, w ∈ gTbl := by
  have h : (List.range 3).all (fun k => decide (lw_tbl[([341, 343, 345] : List Nat).getD k 0]? = some (u_lay RX1 TX1 k)) && goodWord (u_lay RX1 TX1 k)) = true := by decide +kernel
  intro w hw
  obtain ⟨k, hk, rfl⟩ := List.mem_map.mp hw
  have h1 := List.all_eq_true.mp h k hk
  simp only [Bool.and_eq_true, decide_eq_true_eq] at h1
  exact gTbl_in h1.1 h1.2
theorem inX2 : ∀ w ∈ u_ws RX2 TX2 3, w ∈ gTbl := by
  have h : (List.range 3).all (fun k => decide (lw_tbl[([325, 327, 329] : List Nat).getD k 0]? = some (u_lay RX2 TX2 k)) && goodWord (u_lay RX2 TX2 k)) = true := by decide +kernel
  intro w hw
  obtain ⟨k, hk, rfl⟩ := List.mem_map.mp hw
  have h1 := List.all_eq_true.mp h k hk
  simp only [Bool.and_eq_true, decide_eq_true_eq] at h1
  exact gTbl_in h1.1 h1.2
theorem inX3 : ∀ w ∈ u_ws RX3 TX3 7, w ∈ gTbl := by
  have h : (List.range 7).all (fun k => decide (lw_tbl[([227, 229, 231, 233, 235, 237, 239] : List Nat).getD k 0]? = some (u_lay RX3 TX3 k)) && goodWord (u_lay RX3 TX3 k)) = true := by decide +kernel
  intro w hw
  obtain ⟨k, hk, rfl⟩ := List.mem_map.mp hw
  have h1 := List.all_eq_true.mp h k hk
  simp only [Bool.and_eq_true, decide_eq_true_eq] at h1
  exact gTbl_in h1.1 h1.2
theorem inX4 : ∀ w ∈ u_ws RX4 TX4 8, w ∈ gTbl := by
  have h : (List.range 8).all (fun k => decide (lw_tbl[([386, 388, 390, 392, 394, 396, 398, 400] : List Nat).getD k 0]? = some (u_lay RX4 TX4 k)) && goodWord (u_lay RX4 TX4 k)) = true := by decide +kernel
  intro w hw
  obtain ⟨k, hk, rfl⟩ := List.mem_map.mp hw
  have h1 := List.all_eq_true.mp h k hk
  simp only [Bool.and_eq_true, decide_eq_true_eq] at h1
  exact gTbl_in h1.1 h1.2
theorem inX5 : ∀ w ∈ u_ws RX5 TX5 2, w ∈ gTbl := by
  have h : (List.range 2).all (fun k => decide (lw_tbl[([207, 209] : List Nat).getD k 0]? = some (u_lay RX5 TX5 k)) && goodWord (u_lay RX5 TX5 k)) = true := by decide +kernel
  intro w hw
  obtain ⟨k, hk, rfl⟩ := List.mem_map.mp hw
  have h1 := List.all_eq_true.mp h k hk
  simp only [Bool.and_eq_true, decide_eq_true_eq] at h1
  exact gTbl_in h1.1 h1.2
theorem inX6 : ∀ w ∈ u_ws RX6 TX6 17, w ∈ gTbl := by
  have h : (List.range 17).all (fun k => decide (lw_tbl[([161, 163, 165, 167, 169, 171, 173, 175, 177, 179, 181, 183, 185, 187, 189, 191, 193] : List Nat).getD k 0]? = some (u_lay RX6 TX6 k)) && goodWord (u_lay RX6 TX6 k)) = true := by decide +kernel
  intro w hw
  obtain ⟨k, hk, rfl⟩ := List.mem_map.mp hw
  have h1 := List.all_eq_true.mp h k hk
  simp only [Bool.and_eq_true, decide_eq_true_eq] at h1
  exact gTbl_in h1.1 h1.2
theorem inX7 : ∀ w ∈ u_ws RX7 TX7 10, w ∈ gTbl := by
  have h : (List.range 10).all (fun k => decide (lw_tbl[([258, 260, 262, 264, 266, 268, 270, 272, 274, 276] : List Nat).getD k 0]? = some (u_lay RX7 TX7 k)) && goodWord (u_lay RX7 TX7 k)) = true := by decide +kernel
  intro w hw
  obtain ⟨k, hk, rfl⟩ := List.mem_map.mp hw
  have h1 := List.all_eq_true.mp h k hk
  simp only [Bool.and_eq_true, decide_eq_true_eq] at h1
  exact gTbl_in h1.1 h1.2
theorem inX8 : ∀ w ∈ u_ws RX8 TX8 4, w ∈ gTbl := by
  have h : (List.range 4).all (fun k => decide (lw_tbl[([289, 291, 293, 295] : List Nat).getD k 0]? = some (u_lay RX8 TX8 k)) && goodWord (u_lay RX8 TX8 k)) = true := by decide +kernel
  intro w hw
  obtain ⟨k, hk, rfl⟩ := List.mem_map.mp hw
  have h1 := List.all_eq_true.mp h k hk
  simp only [Bool.and_eq_true, decide_eq_true_eq] at h1
  exact gTbl_in h1.1 h1.2
theorem inX9 : ∀ w ∈ u_ws RX9 TX9 5, w ∈ gTbl := by
  have h : (List.range 5).all (fun k => decide (lw_tbl[([359, 361, 363, 365, 367] : List Nat).getD k 0]? = some (u_lay RX9 TX9 k)) && goodWord (u_lay RX9 TX9 k)) = true := by decide +kernel
  intro w hw
  obtain ⟨k, hk, rfl⟩ := List.mem_map.mp hw
  have h1 := List.all_eq_true.mp h k hk
  simp only [Bool.and_eq_true, decide_eq_true_eq] at h1
  exact gTbl_in h1.1 h1.2
theorem inX10 : ∀ w ∈ u_ws RX10 TX10 13, w ∈ gTbl := by
  have h : (List.range 13).all (fun k => decide (lw_tbl[([416, 418, 420, 422, 424, 426, 428, 430, 432, 434, 436, 438, 440] : List Nat).getD k 0]? = some (u_lay RX10 TX10 k)) && goodWord (u_lay RX10 TX10 k)) = true := by decide +kernel
  intro w hw
  obtain ⟨k, hk, rfl⟩ := List.mem_map.mp hw
  have h1 := List.all_eq_true.mp h k hk
  simp only [Bool.and_eq_true, decide_eq_true_eq] at h1
  exact gTbl_in h1.1 h1.2
theorem inX11 : ∀ w ∈ u_ws RX11 TX11 25, w ∈ gTbl := by
  have h : (List.range 25).all (fun k => decide (lw_tbl[([983, 985, 987, 989, 991, 993, 995, 997, 999, 1001, 1003, 1005, 1007, 1009, 1011, 1013, 1015, 1017, 1019, 1021, 1023, 1025, 1027, 1029, 1031] : List Nat).getD k 0]? = some (u_lay RX11 TX11 k)) && goodWord (u_lay RX11 TX11 k)) = true := by decide +kernel
  intro w hw
  obtain ⟨k, hk, rfl⟩ := List.mem_map.mp hw
  have h1 := List.all_eq_true.mp h k hk
  simp only [Bool.and_eq_true, decide_eq_true_eq] at h1
  exact gTbl_in h1.1 h1.2
def tyT (ci : Nat) : Nat → FieldType := match ci with
  | 0 => tyX0
  | 1 => tyX1
  | 2 => tyX2
  | 3 => tyX3
  | 4 => tyX4
  | 5 => tyX5
  | 6 => tyX6
  | 7 => tyX7
  | 8 => tyX8
  | 9 => tyX9
  | 10 => tyX10
  | _ => tyX11
theorem cls_in : ∀ ci, ci < 12 → (∀ w ∈ u_ws (clsT ci).1 (clsT ci).2.1 (clsT ci).2.2, w ∈ gTbl) ∧ (∀ k, k < (clsT ci).2.2 → parseFieldDescriptor ((clsT ci).2.1 k).2.2.1 = some (tyT ci k)) ∧ (∀ a, a < (clsT ci).2.2 → ∀ b, b < (clsT ci).2.2 → a ≠ b → ((clsT ci).2.1 a).2.1 ≠ ((clsT ci).2.1 b).2.1) ∧ clsL[ci]? = some ((clsT ci).1, (clsT ci).2.1, (clsT ci).2.2)
  | 0, _ => ⟨inX0, tyX0_ok, nmX0, rfl⟩
  | 1, _ => ⟨inX1, tyX1_ok, nmX1, rfl⟩
  | 2, _ => ⟨inX2, tyX2_ok, nmX2, rfl⟩
  | 3, _ => ⟨inX3, tyX3_ok, nmX3, rfl⟩
  | 4, _ => ⟨inX4, tyX4_ok, nmX4, rfl⟩
  | 5, _ => ⟨inX5, tyX5_ok, nmX5, rfl⟩
  | 6, _ => ⟨inX6, tyX6_ok, nmX6, rfl⟩
  | 7, _ => ⟨inX7, tyX7_ok, nmX7, rfl⟩
  | 8, _ => ⟨inX8, tyX8_ok, nmX8, rfl⟩
  | 9, _ => ⟨inX9, tyX9_ok, nmX9, rfl⟩
  | 10, _ => ⟨inX10, tyX10_ok, nmX10, rfl⟩
  | 11, _ => ⟨inX11, tyX11_ok, nmX11, rfl⟩
  | n + 12, h => absurd h (by omega)
end
section
/-! the world of all cells, in one picture -/
abbrev Gw : Type := (Nat → Nat → Nat) × va_G × (Nat → ClassId) × Nat
abbrev Mt : Type := MethodName × ByteArray × Nat × Option FieldType × Nat
def cntG (g : Nat) : Nat := (shp g).2.1
def tgtG (g : Nat) : Nat := ((shp g).2.2.2.getD 0 (0, 0, 0)).2.1
def IDX : List (Nat × Nat) := (List.range 52).flatMap (fun g => (List.range (cntG g)).map (fun i => (g, i)))
theorem IDX_mem {g i : Nat} : (g, i) ∈ IDX ↔ g < 52 ∧ i < cntG g := by
  simp [IDX, List.mem_flatMap]
theorem IDX_nodup : va_nd (IDX.map (fun q => q.1 * 100 + q.2)) = true := by decide +kernel
theorem IDX_inj {i j : Nat} {q : Nat × Nat} (h1 : IDX[i]? = some q) (h2 : IDX[j]? = some q) : i = j :=
  va_nd_inj _ IDX_nodup i j (q.1 * 100 + q.2) (by rw [List.getElem?_map, h1]; rfl) (by rw [List.getElem?_map, h2]; rfl)
def fval (ad : Nat → Nat → Nat) (σ : Hp) (g i k : Nat) (f : Nat × Nat × Nat) : Value := match f.1 with
  | 0 => .int (n32 (σ g i k))
  | 1 => .int (n32 (σ g i k))
  | 2 => .ref (ad f.2.1 f.2.2)
  | _ => .ref (ad f.2.1 i)
def fvals (ad : Nat → Nat → Nat) (σ : Hp) (g i : Nat) : List Value := (shp g).2.2.2.mapIdx (fun k f => fval ad σ g i k f)
def cellOf (G : Gw) (σ : Hp) (g i : Nat) : va_E := match (shp g).1 with
  | 0 => .inl (G.2.2.1 g, (shp g).2.2.1, .inl (fun j => n32 (σ g i j)))
  | 1 => .inl (G.2.2.1 g, (shp g).2.2.1, .inl (fun j => n32 (σ g i j)))
  | 2 => .inl (G.2.2.1 g, (shp g).2.2.1, .inr (.inr (.inr (.inr (fun j => if j < (shp g).2.2.1 then some (G.1 (tgtG g) j) else none)))))
  | c + 3 => .inr (c, fvals G.1 σ g i)
def wsOf (G : Gw) (σ : Hp) : va_W := IDX.map (fun q => (G.1 q.1 q.2, cellOf G σ q.1 q.2))
def atyG (g : Nat) : FieldType := match (shp g).1 with
  | 0 => .int
  | 1 => .boolean
  | _ => match (shp (tgtG g)).1 with
    | 0 => .array .int
    | c => .object (clsT (c - 3)).1
def aGs : List Nat := (List.range 52).filter (fun g => decide ((shp g).1 < 3))
def tysOf (G : Gw) : List (ClassId × FieldType) := aGs.map (fun g => (G.2.2.1 g, atyG g))
def AD (G : Gw) : Nat → Prop := fun q => ∃ g i, (g, i) ∈ IDX ∧ q = G.1 g i
theorem kind_lt {g : Nat} (h : (shp g).1 < 40) : g < 52 := by
  by_cases h1 : g < 63
  · have hd : ∀ g, g < 63 → (shp g).1 < 40 → g < 52 := by decide +kernel
    exact hd g h1 h
  · exfalso
    have : shp g = (50, 0, 0, []) := by
      unfold shp
      rw [List.getD_eq_getElem?_getD, List.getElem?_eq_none (by show 63 ≤ g; omega)]
      rfl
    rw [this] at h
    omega
theorem ws_at (G : Gw) (σ : Hp) {g i : Nat} (hg : g < 52) (hi : i < cntG g) : ∃ k : Nat, (wsOf G σ)[k]? = some (G.1 g i, cellOf G σ g i) ∧ IDX[k]? = some (g, i) := by
  obtain ⟨k, hk⟩ := List.getElem?_of_mem (IDX_mem.mpr ⟨hg, hi⟩)
  exact ⟨k, by unfold wsOf; rw [List.getElem?_map, hk]; rfl, hk⟩
theorem ws_set {G : Gw} {σ σ' : Hp} {g i k : Nat} (hk : IDX[k]? = some (g, i)) (h : ∀ g' i', (g', i') ≠ (g, i) → cellOf G σ' g' i' = cellOf G σ g' i') : (wsOf G σ).set k (G.1 g i, cellOf G σ' g i) = wsOf G σ' := by
  apply List.ext_getElem?
  intro j
  by_cases hj : j = k
  · subst hj
    have hl : j < (wsOf G σ).length := by unfold wsOf; rw [List.length_map]; exact (List.getElem?_eq_some_iff.mp hk).1
    rw [List.getElem?_set_self hl]
    unfold wsOf
    rw [List.getElem?_map, hk]
    rfl
  · rw [List.getElem?_set_ne (Ne.symm hj)]
    unfold wsOf
    rw [List.getElem?_map, List.getElem?_map]
    cases hq : IDX[j]? with
    | none => rfl
    | some q =>
      obtain ⟨g', i'⟩ := q
      simp only [Option.map_some]
      rw [h g' i' (fun e => hj (IDX_inj hq (by rw [e]; exact hk)))]
theorem ty_at (G : Gw) {g : Nat} (hg : g < 52) (hk : (shp g).1 < 3) : ∃ k : Nat, (tysOf G)[k]? = some (G.2.2.1 g, atyG g) := by
  have hm : g ∈ aGs := List.mem_filter.mpr ⟨List.mem_range.mpr hg, by simpa using hk⟩
  obtain ⟨k, hk⟩ := List.getElem?_of_mem hm
  exact ⟨k, by unfold tysOf; rw [List.getElem?_map, hk]; rfl⟩
theorem zup_ne {σ : Hp} {g i j : Nat} {v : Int} {g' i' : Nat} (h : (g', i') ≠ (g, i)) : (zup σ g i j v) g' i' = σ g' i' := by
  funext j'
  unfold zup
  rw [if_neg]
  rintro ⟨rfl, rfl, -⟩
  exact h rfl
theorem cell_ne {G : Gw} {σ σ' : Hp} {g i : Nat} (h : σ' g i = σ g i) : cellOf G σ' g i = cellOf G σ g i := by
  unfold cellOf fvals
  rw [h]
  have : (fun k f => fval G.1 σ' g i k f) = (fun k f => fval G.1 σ g i k f) := by
    funext k f
    unfold fval
    rw [h]
  rw [this]
theorem cell_up {G : Gw} {σ : Hp} {g i j : Nat} {v : Int} {g' i' : Nat} (h : (g', i') ≠ (g, i)) : cellOf G (zup σ g i j v) g' i' = cellOf G σ g' i' := cell_ne (zup_ne h)
/-- read only: the script, and two static arrays -/
def RO (G : Gw) (A : Nat → Prop) (σ : Hp) (U : State) : Prop :=
  (va_X (G.1 60 0) G.2.2.2 (fun j => n32 (σ 60 0 j)) U U.heap ∧ G.1 60 0 < U.heap.size ∧ ¬ A (G.1 60 0)) ∧ (σ 60 1 0 = (G.2.2.2 : Int) ∧ G.2.2.2 ≤ 320) ∧
  ∀ g, g = 61 ∨ g = 62 → va_Z RX10 (sNm g) "[I" (.ref (G.1 g 0)) A U U.heap ∧ va_T .int (G.1 g 0) 4 (fun j => .int (n32 (σ g 0 j))) A U U.heap
theorem RO.moved {G : Gw} {A : Nat → Prop} {σ : Hp} {u U : State} (hvm : u.vm.Alike U.vm) (hh : U.heap = u.heap) (h : RO G A σ u) : RO G A σ U := by
  obtain ⟨⟨h1, h2, h3⟩, h4, h5⟩ := h
  unfold RO
  rw [hh]
  exact ⟨⟨h1.moved hvm, h2, h3⟩, h4, fun g hg => ⟨(h5 g hg).1.moved hvm, (h5 g hg).2.moved hvm⟩⟩
theorem RO.same {G : Gw} {A : Nat → Prop} {σ σ' : Hp} {u : State} (h0 : σ' 60 = σ 60) (h1 : σ' 61 = σ 61) (h2 : σ' 62 = σ 62) (h : RO G A σ u) : RO G A σ' u := by
  obtain ⟨⟨h3, h4, h5⟩, h6, h7⟩ := h
  refine ⟨⟨?_, h4, h5⟩, ?_, ?_⟩
  · rw [h0]; exact h3
  · rw [h0]; exact h6
  · intro g hg
    have e : σ' g = σ g := by rcases hg with rfl | rfl <;> assumption
    rw [e]
    exact h7 g hg
/-- into a call: the heap has moved on, but not what is read only -/
theorem RO.kept {G : Gw} {A B : Nat → Prop} {σ : Hp} {s U : State} {H : Heap} {locs : List Loc} (hS : va_S A s.heap H locs) (hU : U.heap = H) (hvm : s.vm.Alike U.vm) (hAB : ∀ q, B q → A q) (h : RO G A σ s) : RO G B σ U := by
  obtain ⟨⟨h1, h2, h3⟩, h4, h5⟩ := h
  subst hU
  refine ⟨⟨(h1.moved hvm).kept (hS.2.1 _ h2 h3), Nat.lt_of_lt_of_le h2 hS.1, fun q => h3 (hAB _ q)⟩, h4, fun g hg => ⟨?_, ?_⟩⟩
  · exact (((h5 g hg).1.moved hvm).kept (fun a h1 h2 => hS.2.1 a h1 h2)).narrow hAB
  · exact (((h5 g hg).2.moved hvm).kept (fun a h1 h2 => hS.2.1 a h1 h2)).narrow hAB
/-- out of a call: the callee's world speaks of its own start -/
theorem RO.out {G : Gw} {A : Nat → Prop} {σ σ' : Hp} {s : State} (h : RO G A σ s) (h0 : ∀ j : Nat, j < G.2.2.2 → n32 (σ' 60 0 j) = n32 (σ 60 0 j)) (h00 : σ' 60 1 0 = σ 60 1 0) (h1 : ∀ g, g = 61 ∨ g = 62 → ∀ j : Nat, j < 4 → n32 (σ' g 0 j) = n32 (σ g 0 j)) : RO G A σ' s := by
  obtain ⟨⟨⟨scr, a1, a2, a3, a4, a5⟩, h4, h5⟩, h6, h7⟩ := h
  refine ⟨⟨⟨scr, a1, a2, a3, a4, fun j hj => (a5 j hj).trans (congrArg (fun z => some (Value.int z)) (h0 j hj).symm)⟩, h4, h5⟩, ⟨by rw [h00]; exact h6.1, h6.2⟩, fun g hg => ⟨(h7 g hg).1, ?_⟩⟩
  obtain ⟨cell, b1, b2, b3, b4, b5, b6, b7⟩ := (h7 g hg).2
  exact ⟨cell, b1, b2, b3, b4, b5, fun j hj => (b6 j hj).trans (congrArg (fun z => some (Value.int z)) (h1 g hg j hj).symm), b7⟩
def okH (σ : Hp) : Prop := ∀ g i j, inR (σ g i j)
theorem okH_up {σ : Hp} {g i j : Nat} {v : Int} (h : okH σ) (hv : inR v) : okH (zup σ g i j v) := by
  intro g' i' j'
  unfold zup
  split
  · exact hv
  · exact h g' i' j'
def okV : AV → Prop
  | .inl z => inR z
  | .inr (.inl q) => q.2 < cntG q.1
  | _ => True
def okVs (L : List AV) : Prop := ∀ v ∈ L, okV v
theorem okVs_cons {v : AV} {L : List AV} (h : okV v) (hL : okVs L) : okVs (v :: L) := fun w hw => by
  rcases List.mem_cons.mp hw with rfl | hw
  · exact h
  · exact hL w hw
theorem okVs_hd {v : AV} {L : List AV} (h : okVs (v :: L)) : okV v := h v List.mem_cons_self
theorem okVs_tl {v : AV} {L : List AV} (h : okVs (v :: L)) : okVs L := fun w hw => h w (List.mem_cons_of_mem _ hw)
theorem okVs_set {L : List AV} {k : Nat} {v : AV} (h : okVs L) (hv : okV v) : okVs (L.set k v) := fun w hw => by
  rcases List.mem_or_eq_of_mem_set hw with q | q
  · exact h w q
  · rw [q]; exact hv
theorem okVs_at {L : List AV} {k : Nat} {v : AV} (h : okVs L) (hk : L[k]? = some v) : okV v := h v (List.mem_of_getElem? hk)
def Wld (G : Gw) (A : Nat → Prop) (σ : Hp) (s : State) (H : Heap) (locs : List Loc) : Prop :=
  va_P G.2.1 clsL (wsOf G σ) H ∧ va_D A (wsOf G σ) ∧ va_S A s.heap H locs ∧ RO G A σ s ∧ okH σ
def NW (s : State) : Prop := ∀ a i x h, Cond.methodLinkNest a i x h ∈ lw_tbl → va_Nw (.methodLinkNest a i x h) s
def Ctx (d : Nat) (M : Mt) (G : Gw) (p : Program) (R : Room) (s : State) (m : MethodId) (args : Array Value) (c : Code) (cells slots : Nat) : Prop :=
  p.tables.exec = Jvm.exec ∧ c.code = M.2.1 ∧ c.maxLocals = M.2.2.1 ∧ s.vm.findClass M.1.cls = some m.cls ∧ (∀ w ∈ gTbl, w.before args s = true) ∧ (d ≤ R.frames ∧ 64 * d ≤ R.locals ∧ cells ≤ R.cells ∧ slots ≤ R.slots ∧ NW s) ∧ va_K G.2.1 clsL (tysOf G) s
def rvS (rv : Option Int) : List Value := match rv with
  | none => []
  | some z => [.int (n32 z)]
def okRv (M : Mt) (rv : Option Int) : Prop := match rv with
  | none => M.2.2.2.1 = none
  | some z => inR z ∧ (M.2.2.2.1 = some .int ∨ (M.2.2.2.1 = some .boolean ∧ (z = 0 ∨ z = 1)))
def retOK (M : Mt) (pc : Nat) (rv : Option Int) : Prop := okRv M rv ∧ match rv with
  | none => decode M.2.1 pc = .ok (.return_, 1)
  | some _ => decode M.2.1 pc = .ok (.ireturn, 1)
/-- FROM HERE THE METHOD ENDS, with Q of its answer and of the cells then -/
def Runs (d : Nat) (M : Mt) (pc : Nat) (L S : List AV) (σ : Hp) (Q : Option Int → Hp → Prop) : Prop :=
  okVs L → okVs S → ∀ (G : Gw) (p : Program) (l : Launch) (e : Env) (R : Room) (s : State) (m : MethodId) (args : Array Value) (below : List Frame) (meth : Method) (c : Code) (cells slots : Nat) (A : Nat → Prop) (QQ : State → Prop), Ctx d M G p R s m args c cells slots →
    ∀ (H : Heap) (locs : List Loc) (ls : Array Slot), Wld G A σ s H locs → lrel G.1 ls M.2.2.1 L →
    (∀ (rv : Option Int) (σ' : Hp) (H' : Heap) (locs' : List Loc) (ls' : Array Slot) (pc' : Nat), Q rv σ' → retOK M pc' rv → Wld G A σ' s H' locs' → W p l e R s m args below meth c H' locs' cells slots QQ (F0 m pc' ls' (rvS rv))) →
    W p l e R s m args below meth c H locs cells slots QQ (F0 m pc ls (S.map (cvv G.1)))
theorem Runs.mono {d : Nat} {M : Mt} {pc : Nat} {L S : List AV} {σ : Hp} {Q Q' : Option Int → Hp → Prop} (h : Runs d M pc L S σ Q) (hq : ∀ rv σ', Q rv σ' → Q' rv σ') : Runs d M pc L S σ Q' := by
  intro h1 h2 G p l e R s m args below meth c cells slots A QQ C H locs ls hW hl hk
  exact h h1 h2 G p l e R s m args below meth c cells slots A QQ C H locs ls hW hl (fun rv σ' H' locs' ls' pc' q => hk rv σ' H' locs' ls' pc' (hq rv σ' q))
theorem Runs.deep {d d' : Nat} {M : Mt} {pc : Nat} {L S : List AV} {σ : Hp} {Q : Option Int → Hp → Prop} (h : Runs d M pc L S σ Q) (hd : d ≤ d') : Runs d' M pc L S σ Q := by
  intro h1 h2 G p l e R s m args below meth c cells slots A QQ C H locs ls hW hl hk
  obtain ⟨c1, c2, c3, c4, c5, ⟨r1, r2, r3⟩, c7⟩ := C
  exact h h1 h2 G p l e R s m args below meth c cells slots A QQ ⟨c1, c2, c3, c4, c5, ⟨Nat.le_trans hd r1, by omega, r3⟩, c7⟩ H locs ls hW hl hk
theorem Runs.forget {d : Nat} {M : Mt} {pc : Nat} {L L' S : List AV} {σ : Hp} {Q : Option Int → Hp → Prop} (hl : L'.length = L.length) (hf : ∀ (i : Nat) (v : AV), L'[i]? = some v → v = zU ∨ L[i]? = some v) (h : Runs d M pc L' S σ Q) : Runs d M pc L S σ Q := by
  intro h1 h2 G p l e R s m args below meth c cells slots A QQ C H locs ls hW hl' hk
  refine h (fun v hv => ?_) h2 G p l e R s m args below meth c cells slots A QQ C H locs ls hW (lrel_forget hl' hl hf) hk
  obtain ⟨i, hi⟩ := List.getElem?_of_mem hv
  rcases hf i v hi with e | e
  · rw [e]; trivial
  · exact h1 v (List.mem_of_getElem? e)
/-- what is known of all cells and numbers -/
theorem Runs.okh {d : Nat} {M : Mt} {pc : Nat} {L S : List AV} {σ : Hp} {Q : Option Int → Hp → Prop} (h : okH σ → okVs L → okVs S → Runs d M pc L S σ Q) : Runs d M pc L S σ Q := by
  intro h1 h2 G p l e R s m args below meth c cells slots A QQ C H locs ls hW hl hk
  exact h hW.2.2.2.2 h1 h2 h1 h2 G p l e R s m args below meth c cells slots A QQ C H locs ls hW hl hk
end
section
theorem Runs.step {d : Nat} {M : Mt} {pc pc' : Nat} {L L' S S' : List AV} {σ σ' : Hp} {Q : Option Int → Hp → Prop} (ok : okVs L → okVs S → okH σ → okVs L' ∧ okVs S')
    (row : ∀ (G : Gw) (p : Program) (l : Launch) (e : Env) (R : Room) (s : State) (m : MethodId) (args : Array Value) (below : List Frame) (meth : Method) (c : Code) (cells slots : Nat) (A : Nat → Prop) (QQ : State → Prop), Ctx d M G p R s m args c cells slots → okVs L → okVs S →
      ∀ (H : Heap) (locs : List Loc) (ls : Array Slot), Wld G A σ s H locs → lrel G.1 ls M.2.2.1 L →
      (∀ (H' : Heap) (locs' : List Loc) (ls' : Array Slot), Wld G A σ' s H' locs' → lrel G.1 ls' M.2.2.1 L' → W p l e R s m args below meth c H' locs' cells slots QQ (F0 m pc' ls' (S'.map (cvv G.1)))) →
      W p l e R s m args below meth c H locs cells slots QQ (F0 m pc ls (S.map (cvv G.1))))
    (h : Runs d M pc' L' S' σ' Q) : Runs d M pc L S σ Q := by
  intro h1 h2 G p l e R s m args below meth c cells slots A QQ C H locs ls hW hl hk
  obtain ⟨o1, o2⟩ := ok h1 h2 hW.2.2.2.2
  exact row G p l e R s m args below meth c cells slots A QQ C h1 h2 H locs ls hW hl (fun H' locs' ls' hW' hl' => h o1 o2 G p l e R s m args below meth c cells slots A QQ C H' locs' ls' hW' hl' hk)
theorem bip {n : Int} (hn : -128 ≤ n ∧ n ≤ 127) : (Int8.ofInt n).toInt32 = n32 n := by
  rw [← Int32.toInt_inj, n32_canon ⟨by omega, by omega⟩, Int8.toInt_toInt32, Int8.toInt_ofInt, Int.bmod_def, show ((Int8.size : Nat) : Int) = 256 from rfl]
  split <;> omega
theorem sip {n : Int} (hn : -32768 ≤ n ∧ n ≤ 32767) : (Int16.ofInt n).toInt32 = n32 n := by
  rw [← Int32.toInt_inj, n32_canon ⟨by omega, by omega⟩, Int16.toInt_toInt32, Int16.toInt_ofInt, Int.bmod_def, show ((Int16.size : Nat) : Int) = 65536 from rfl]
  split <;> omega
theorem s_iconst {d : Nat} {M : Mt} {pc : Nat} {L S : List AV} {σ : Hp} {Q : Option Int → Hp → Prop} {n : Int} (hn : inR n) (hd : decode M.2.1 pc = .ok (.iconst n, 1)) (h : Runs d M (pc + 1) (L) (zI n :: S) (σ) Q) : Runs d M pc (L) (S) σ Q := by
  refine Runs.step (L' := L) (S' := zI n :: S) (σ' := σ) (fun oL oS oH => ⟨oL, okVs_cons hn oS⟩) (fun G p l e R s m args below meth c cells slots A QQ C oL oS H locs ls hW hl kk => ?_) h
  obtain ⟨hx, hb, hml, hown, hts, hR, hK⟩ := C
  exact lv_iconst hx hb hd rfl (kk H locs ls hW hl)
theorem s_bipush {d : Nat} {M : Mt} {pc : Nat} {L S : List AV} {σ : Hp} {Q : Option Int → Hp → Prop} {n : Int} (hn : -128 ≤ n ∧ n ≤ 127) (hd : decode M.2.1 pc = .ok (.bipush n, 2)) (h : Runs d M (pc + 2) (L) (zI n :: S) (σ) Q) : Runs d M pc (L) (S) σ Q := by
  refine Runs.step (L' := L) (S' := zI n :: S) (σ' := σ) (fun oL oS oH => ⟨oL, okVs_cons (show inR n from ⟨by omega, by omega⟩) oS⟩) (fun G p l e R s m args below meth c cells slots A QQ C oL oS H locs ls hW hl kk => ?_) h
  obtain ⟨hx, hb, hml, hown, hts, hR, hK⟩ := C
  exact lv_bipush hx hb hd (bip hn) (kk H locs ls hW hl)
theorem s_sipush {d : Nat} {M : Mt} {pc : Nat} {L S : List AV} {σ : Hp} {Q : Option Int → Hp → Prop} {n : Int} (hn : -32768 ≤ n ∧ n ≤ 32767) (hd : decode M.2.1 pc = .ok (.sipush n, 3)) (h : Runs d M (pc + 3) (L) (zI n :: S) (σ) Q) : Runs d M pc (L) (S) σ Q := by
  refine Runs.step (L' := L) (S' := zI n :: S) (σ' := σ) (fun oL oS oH => ⟨oL, okVs_cons (show inR n from ⟨by omega, by omega⟩) oS⟩) (fun G p l e R s m args below meth c cells slots A QQ C oL oS H locs ls hW hl kk => ?_) h
  obtain ⟨hx, hb, hml, hown, hts, hR, hK⟩ := C
  exact lv_sipush hx hb hd (sip hn) (kk H locs ls hW hl)
theorem s_ldc {d : Nat} {M : Mt} {pc : Nat} {L S : List AV} {σ : Hp} {Q : Option Int → Hp → Prop} {idx : Nat} {v : Int} (hn : inR v) (hw : Cond.constant M.1.cls idx (n32 v) ∈ gTbl) (hd : decode M.2.1 pc = .ok (.ldc idx, 2)) (h : Runs d M (pc + 2) (L) (zI v :: S) (σ) Q) : Runs d M pc (L) (S) σ Q := by
  refine Runs.step (L' := L) (S' := zI v :: S) (σ' := σ) (fun oL oS oH => ⟨oL, okVs_cons hn oS⟩) (fun G p l e R s m args below meth c cells slots A QQ C oL oS H locs ls hW hl kk => ?_) h
  obtain ⟨hx, hb, hml, hown, hts, hR, hK⟩ := C
  exact lv_ldc hx hb hown (hts _ hw) hd (kk H locs ls hW hl)
theorem s_ldcw {d : Nat} {M : Mt} {pc : Nat} {L S : List AV} {σ : Hp} {Q : Option Int → Hp → Prop} {idx : Nat} {v : Int} (hn : inR v) (hw : Cond.constant M.1.cls idx (n32 v) ∈ gTbl) (hd : decode M.2.1 pc = .ok (.ldc_w idx, 3)) (h : Runs d M (pc + 3) (L) (zI v :: S) (σ) Q) : Runs d M pc (L) (S) σ Q := by
  refine Runs.step (L' := L) (S' := zI v :: S) (σ' := σ) (fun oL oS oH => ⟨oL, okVs_cons hn oS⟩) (fun G p l e R s m args below meth c cells slots A QQ C oL oS H locs ls hW hl kk => ?_) h
  obtain ⟨hx, hb, hml, hown, hts, hR, hK⟩ := C
  exact lv_ldcw hx hb hown (hts _ hw) hd (kk H locs ls hW hl)
theorem s_ldc2 {d : Nat} {M : Mt} {pc : Nat} {L S : List AV} {σ : Hp} {Q : Option Int → Hp → Prop} {idx : Nat} {v : Int64} (hw : Cond.constantLong M.1.cls idx v ∈ gTbl) (hd : decode M.2.1 pc = .ok (.ldc2_w idx, 3)) (h : Runs d M (pc + 3) (L) (zJ v :: S) (σ) Q) : Runs d M pc (L) (S) σ Q := by
  refine Runs.step (L' := L) (S' := zJ v :: S) (σ' := σ) (fun oL oS oH => ⟨oL, okVs_cons trivial oS⟩) (fun G p l e R s m args below meth c cells slots A QQ C oL oS H locs ls hW hl kk => ?_) h
  obtain ⟨hx, hb, hml, hown, hts, hR, hK⟩ := C
  exact lv_ldc2 hx hb hown (hts _ hw) hd (kk H locs ls hW hl)
theorem s_iload {d : Nat} {M : Mt} {pc : Nat} {L S : List AV} {σ : Hp} {Q : Option Int → Hp → Prop} {k : Nat} {z : Int} (hz : L[k]? = some (zI z)) (hd : decode M.2.1 pc = .ok (.iload k, 2)) (h : Runs d M (pc + 2) (L) (zI z :: S) (σ) Q) : Runs d M pc (L) (S) σ Q := by
  refine Runs.step (L' := L) (S' := zI z :: S) (σ' := σ) (fun oL oS oH => ⟨oL, okVs_cons (okVs_at oL hz) oS⟩) (fun G p l e R s m args below meth c cells slots A QQ C oL oS H locs ls hW hl kk => ?_) h
  obtain ⟨hx, hb, hml, hown, hts, hR, hK⟩ := C
  exact lv_iload hx hb hd (lrel_at hl hz (fun q => by cases q)) (kk H locs ls hW hl)
theorem s_iloadn {d : Nat} {M : Mt} {pc : Nat} {L S : List AV} {σ : Hp} {Q : Option Int → Hp → Prop} {k : Fin 4} {z : Int} (hz : L[k.val]? = some (zI z)) (hd : decode M.2.1 pc = .ok (.iload_n k, 1)) (h : Runs d M (pc + 1) (L) (zI z :: S) (σ) Q) : Runs d M pc (L) (S) σ Q := by
  refine Runs.step (L' := L) (S' := zI z :: S) (σ' := σ) (fun oL oS oH => ⟨oL, okVs_cons (okVs_at oL hz) oS⟩) (fun G p l e R s m args below meth c cells slots A QQ C oL oS H locs ls hW hl kk => ?_) h
  obtain ⟨hx, hb, hml, hown, hts, hR, hK⟩ := C
  exact lv_iload_n hx hb hd rfl (lrel_at hl hz (fun q => by cases q)) (kk H locs ls hW hl)
theorem s_aload {d : Nat} {M : Mt} {pc : Nat} {L S : List AV} {σ : Hp} {Q : Option Int → Hp → Prop} {k g x : Nat} (hz : L[k]? = some (zR g x)) (hd : decode M.2.1 pc = .ok (.aload k, 2)) (h : Runs d M (pc + 2) (L) (zR g x :: S) (σ) Q) : Runs d M pc (L) (S) σ Q := by
  refine Runs.step (L' := L) (S' := zR g x :: S) (σ' := σ) (fun oL oS oH => ⟨oL, okVs_cons (okVs_at oL hz) oS⟩) (fun G p l e R s m args below meth c cells slots A QQ C oL oS H locs ls hW hl kk => ?_) h
  obtain ⟨hx, hb, hml, hown, hts, hR, hK⟩ := C
  exact lv_aload hx hb hd (lrel_at hl hz (fun q => by cases q)) (kk H locs ls hW hl)
theorem s_aloadn {d : Nat} {M : Mt} {pc : Nat} {L S : List AV} {σ : Hp} {Q : Option Int → Hp → Prop} {k : Fin 4} {g x : Nat} (hz : L[k.val]? = some (zR g x)) (hd : decode M.2.1 pc = .ok (.aload_n k, 1)) (h : Runs d M (pc + 1) (L) (zR g x :: S) (σ) Q) : Runs d M pc (L) (S) σ Q := by
  refine Runs.step (L' := L) (S' := zR g x :: S) (σ' := σ) (fun oL oS oH => ⟨oL, okVs_cons (okVs_at oL hz) oS⟩) (fun G p l e R s m args below meth c cells slots A QQ C oL oS H locs ls hW hl kk => ?_) h
  obtain ⟨hx, hb, hml, hown, hts, hR, hK⟩ := C
  exact lv_aload_n hx hb hd rfl (lrel_at hl hz (fun q => by cases q)) (kk H locs ls hW hl)
theorem s_lloadn {d : Nat} {M : Mt} {pc : Nat} {L S : List AV} {σ : Hp} {Q : Option Int → Hp → Prop} {k : Fin 4} {x : Int64} (hz : L[k.val]? = some (zJ x)) (hd : decode M.2.1 pc = .ok (.lload_n k, 1)) (h : Runs d M (pc + 1) (L) (zJ x :: S) (σ) Q) : Runs d M pc (L) (S) σ Q := by
  refine Runs.step (L' := L) (S' := zJ x :: S) (σ' := σ) (fun oL oS oH => ⟨oL, okVs_cons trivial oS⟩) (fun G p l e R s m args below meth c cells slots A QQ C oL oS H locs ls hW hl kk => ?_) h
  obtain ⟨hx, hb, hml, hown, hts, hR, hK⟩ := C
  exact lv_lload_n hx hb hd rfl (lrel_at hl hz (fun q => by cases q)) (kk H locs ls hW hl)
theorem s_istore {d : Nat} {M : Mt} {pc : Nat} {L S : List AV} {σ : Hp} {Q : Option Int → Hp → Prop} {k : Nat} {z : Int} (hj : noJ L k = true) (hk : k < L.length) (hd : decode M.2.1 pc = .ok (.istore k, 2)) (h : Runs d M (pc + 2) (L.set k (zI z)) (S) (σ) Q) : Runs d M pc (L) (zI z :: S) σ Q := by
  refine Runs.step (L' := L.set k (zI z)) (S' := S) (σ' := σ) (fun oL oS oH => ⟨okVs_set oL (okVs_hd oS), okVs_tl oS⟩) (fun G p l e R s m args below meth c cells slots A QQ C oL oS H locs ls hW hl kk => ?_) h
  obtain ⟨hx, hb, hml, hown, hts, hR, hK⟩ := C
  exact lv_istore hx hb hd hl.2 (hl.1 ▸ hk) rfl (fun ls2 h2 => kk H locs ls2 hW (lrel_set hj hk hl.1 h2))
theorem s_istoren {d : Nat} {M : Mt} {pc : Nat} {L S : List AV} {σ : Hp} {Q : Option Int → Hp → Prop} {k : Fin 4} {z : Int} (hj : noJ L k.val = true) (hk : k.val < L.length) (hd : decode M.2.1 pc = .ok (.istore_n k, 1)) (h : Runs d M (pc + 1) (L.set k.val (zI z)) (S) (σ) Q) : Runs d M pc (L) (zI z :: S) σ Q := by
  refine Runs.step (L' := L.set k.val (zI z)) (S' := S) (σ' := σ) (fun oL oS oH => ⟨okVs_set oL (okVs_hd oS), okVs_tl oS⟩) (fun G p l e R s m args below meth c cells slots A QQ C oL oS H locs ls hW hl kk => ?_) h
  obtain ⟨hx, hb, hml, hown, hts, hR, hK⟩ := C
  exact lv_istore_n hx hb hd rfl hl.2 (hl.1 ▸ hk) rfl (fun ls2 h2 => kk H locs ls2 hW (lrel_set hj hk hl.1 h2))
theorem lvl_ix {ad : Nat → Nat → Nat} {L : List AV} {k : Nat} {z : Int} (hz : L[k]? = some (zI z)) : ∃ j : Nat, (lvl ad 0 L)[j]? = some (k, .int (n32 z)) :=
  List.getElem?_of_mem ((lvl_mem L 0).mpr ⟨_, Nat.zero_le _, by simpa using hz, fun q => (by cases q), rfl⟩)
theorem s_iinc {d : Nat} {M : Mt} {pc : Nat} {L S : List AV} {σ : Hp} {Q : Option Int → Hp → Prop} {k : Nat} {n z : Int} (hz : L[k]? = some (zI z)) (hj : noJ L k = true) (hk : k < L.length) (hd : decode M.2.1 pc = .ok (.iinc k n, 3)) (h : Runs d M (pc + 3) (L.set k (zI (wrap (z + n)))) (S) (σ) Q) : Runs d M pc (L) (S) σ Q := by
  refine Runs.step (L' := L.set k (zI (wrap (z + n)))) (S' := S) (σ' := σ) (fun oL oS oH => ⟨okVs_set oL (wrap_in _), oS⟩) (fun G p l e R s m args below meth c cells slots A QQ C oL oS H locs ls hW hl kk => ?_) h
  obtain ⟨hx, hb, hml, hown, hts, hR, hK⟩ := C
  obtain ⟨j, hj2⟩ := lvl_ix (ad := G.1) hz
  exact lv_iinc hx hb hd hl.2 hj2 (n32_add z n) (hl.1 ▸ hk) rfl (fun ls2 h2 => kk H locs ls2 hW (lrel_set hj hk hl.1 h2))
theorem s_iadd {d : Nat} {M : Mt} {pc : Nat} {L S : List AV} {σ : Hp} {Q : Option Int → Hp → Prop} {a b : Int} (hd : decode M.2.1 pc = .ok (.iadd, 1)) (h : Runs d M (pc + 1) (L) (zI (wrap (a + b)) :: S) (σ) Q) : Runs d M pc (L) (zI b :: zI a :: S) σ Q := by
  refine Runs.step (L' := L) (S' := zI (wrap (a + b)) :: S) (σ' := σ) (fun oL oS oH => ⟨oL, okVs_cons (wrap_in _) (okVs_tl (okVs_tl oS))⟩) (fun G p l e R s m args below meth c cells slots A QQ C oL oS H locs ls hW hl kk => ?_) h
  obtain ⟨hx, hb, hml, hown, hts, hR, hK⟩ := C
  refine lv_iadd hx hb hd ?_
  rw [n32_add]
  exact kk H locs ls hW hl
theorem s_isub {d : Nat} {M : Mt} {pc : Nat} {L S : List AV} {σ : Hp} {Q : Option Int → Hp → Prop} {a b : Int} (hd : decode M.2.1 pc = .ok (.isub, 1)) (h : Runs d M (pc + 1) (L) (zI (wrap (a - b)) :: S) (σ) Q) : Runs d M pc (L) (zI b :: zI a :: S) σ Q := by
  refine Runs.step (L' := L) (S' := zI (wrap (a - b)) :: S) (σ' := σ) (fun oL oS oH => ⟨oL, okVs_cons (wrap_in _) (okVs_tl (okVs_tl oS))⟩) (fun G p l e R s m args below meth c cells slots A QQ C oL oS H locs ls hW hl kk => ?_) h
  obtain ⟨hx, hb, hml, hown, hts, hR, hK⟩ := C
  refine lv_isub hx hb hd ?_
  rw [n32_sub]
  exact kk H locs ls hW hl
theorem s_imul {d : Nat} {M : Mt} {pc : Nat} {L S : List AV} {σ : Hp} {Q : Option Int → Hp → Prop} {a b : Int} (hd : decode M.2.1 pc = .ok (.imul, 1)) (h : Runs d M (pc + 1) (L) (zI (wrap (a * b)) :: S) (σ) Q) : Runs d M pc (L) (zI b :: zI a :: S) σ Q := by
  refine Runs.step (L' := L) (S' := zI (wrap (a * b)) :: S) (σ' := σ) (fun oL oS oH => ⟨oL, okVs_cons (wrap_in _) (okVs_tl (okVs_tl oS))⟩) (fun G p l e R s m args below meth c cells slots A QQ C oL oS H locs ls hW hl kk => ?_) h
  obtain ⟨hx, hb, hml, hown, hts, hR, hK⟩ := C
  refine lv_imul hx hb hd ?_
  rw [n32_mul]
  exact kk H locs ls hW hl
theorem s_iand {d : Nat} {M : Mt} {pc : Nat} {L S : List AV} {σ : Hp} {Q : Option Int → Hp → Prop} {a b : Int} (hd : decode M.2.1 pc = .ok (.iand, 1)) (h : Runs d M (pc + 1) (L) (zI (zand a b) :: S) (σ) Q) : Runs d M pc (L) (zI b :: zI a :: S) σ Q := by
  refine Runs.step (L' := L) (S' := zI (zand a b) :: S) (σ' := σ) (fun oL oS oH => ⟨oL, okVs_cons (toInt_in _) (okVs_tl (okVs_tl oS))⟩) (fun G p l e R s m args below meth c cells slots A QQ C oL oS H locs ls hW hl kk => ?_) h
  obtain ⟨hx, hb, hml, hown, hts, hR, hK⟩ := C
  refine lv_iand hx hb hd ?_
  rw [← n32_of (n32 a &&& n32 b)]
  exact kk H locs ls hW hl
theorem s_ior {d : Nat} {M : Mt} {pc : Nat} {L S : List AV} {σ : Hp} {Q : Option Int → Hp → Prop} {a b : Int} (hd : decode M.2.1 pc = .ok (.ior, 1)) (h : Runs d M (pc + 1) (L) (zI (zor a b) :: S) (σ) Q) : Runs d M pc (L) (zI b :: zI a :: S) σ Q := by
  refine Runs.step (L' := L) (S' := zI (zor a b) :: S) (σ' := σ) (fun oL oS oH => ⟨oL, okVs_cons (toInt_in _) (okVs_tl (okVs_tl oS))⟩) (fun G p l e R s m args below meth c cells slots A QQ C oL oS H locs ls hW hl kk => ?_) h
  obtain ⟨hx, hb, hml, hown, hts, hR, hK⟩ := C
  refine lv_ior hx hb hd ?_
  rw [← n32_of (n32 a ||| n32 b)]
  exact kk H locs ls hW hl
theorem s_ixor {d : Nat} {M : Mt} {pc : Nat} {L S : List AV} {σ : Hp} {Q : Option Int → Hp → Prop} {a b : Int} (hd : decode M.2.1 pc = .ok (.ixor, 1)) (h : Runs d M (pc + 1) (L) (zI (zxor a b) :: S) (σ) Q) : Runs d M pc (L) (zI b :: zI a :: S) σ Q := by
  refine Runs.step (L' := L) (S' := zI (zxor a b) :: S) (σ' := σ) (fun oL oS oH => ⟨oL, okVs_cons (toInt_in _) (okVs_tl (okVs_tl oS))⟩) (fun G p l e R s m args below meth c cells slots A QQ C oL oS H locs ls hW hl kk => ?_) h
  obtain ⟨hx, hb, hml, hown, hts, hR, hK⟩ := C
  refine lv_ixor hx hb hd ?_
  rw [← n32_of (n32 a ^^^ n32 b)]
  exact kk H locs ls hW hl
theorem s_ishl {d : Nat} {M : Mt} {pc : Nat} {L S : List AV} {σ : Hp} {Q : Option Int → Hp → Prop} {a b : Int} (hd : decode M.2.1 pc = .ok (.ishl, 1)) (h : Runs d M (pc + 1) (L) (zI (zshl a b) :: S) (σ) Q) : Runs d M pc (L) (zI b :: zI a :: S) σ Q := by
  refine Runs.step (L' := L) (S' := zI (zshl a b) :: S) (σ' := σ) (fun oL oS oH => ⟨oL, okVs_cons (toInt_in _) (okVs_tl (okVs_tl oS))⟩) (fun G p l e R s m args below meth c cells slots A QQ C oL oS H locs ls hW hl kk => ?_) h
  obtain ⟨hx, hb, hml, hown, hts, hR, hK⟩ := C
  refine lv_ishl hx hb hd ?_
  rw [← n32_of (n32 a <<< (n32 b &&& 31))]
  exact kk H locs ls hW hl
theorem s_ishr {d : Nat} {M : Mt} {pc : Nat} {L S : List AV} {σ : Hp} {Q : Option Int → Hp → Prop} {a b : Int} (hd : decode M.2.1 pc = .ok (.ishr, 1)) (h : Runs d M (pc + 1) (L) (zI (zshr a b) :: S) (σ) Q) : Runs d M pc (L) (zI b :: zI a :: S) σ Q := by
  refine Runs.step (L' := L) (S' := zI (zshr a b) :: S) (σ' := σ) (fun oL oS oH => ⟨oL, okVs_cons (toInt_in _) (okVs_tl (okVs_tl oS))⟩) (fun G p l e R s m args below meth c cells slots A QQ C oL oS H locs ls hW hl kk => ?_) h
  obtain ⟨hx, hb, hml, hown, hts, hR, hK⟩ := C
  refine lv_ishr hx hb hd ?_
  rw [← n32_of (n32 a >>> (n32 b &&& 31))]
  exact kk H locs ls hW hl
theorem s_iushr {d : Nat} {M : Mt} {pc : Nat} {L S : List AV} {σ : Hp} {Q : Option Int → Hp → Prop} {a b : Int} (hd : decode M.2.1 pc = .ok (.iushr, 1)) (h : Runs d M (pc + 1) (L) (zI (zushr a b) :: S) (σ) Q) : Runs d M pc (L) (zI b :: zI a :: S) σ Q := by
  refine Runs.step (L' := L) (S' := zI (zushr a b) :: S) (σ' := σ) (fun oL oS oH => ⟨oL, okVs_cons (toInt_in _) (okVs_tl (okVs_tl oS))⟩) (fun G p l e R s m args below meth c cells slots A QQ C oL oS H locs ls hW hl kk => ?_) h
  obtain ⟨hx, hb, hml, hown, hts, hR, hK⟩ := C
  exact lv_iushr hx hb hd (n32_of _).symm (kk H locs ls hW hl)
theorem s_ineg {d : Nat} {M : Mt} {pc : Nat} {L S : List AV} {σ : Hp} {Q : Option Int → Hp → Prop} {a : Int} (hd : decode M.2.1 pc = .ok (.ineg, 1)) (h : Runs d M (pc + 1) (L) (zI (wrap (-a)) :: S) (σ) Q) : Runs d M pc (L) (zI a :: S) σ Q := by
  refine Runs.step (L' := L) (S' := zI (wrap (-a)) :: S) (σ' := σ) (fun oL oS oH => ⟨oL, okVs_cons (wrap_in _) (okVs_tl oS)⟩) (fun G p l e R s m args below meth c cells slots A QQ C oL oS H locs ls hW hl kk => ?_) h
  obtain ⟨hx, hb, hml, hown, hts, hR, hK⟩ := C
  refine lv_ineg hx hb hd ?_
  rw [n32_neg]
  exact kk H locs ls hW hl
theorem s_idiv {d : Nat} {M : Mt} {pc : Nat} {L S : List AV} {σ : Hp} {Q : Option Int → Hp → Prop} {a b : Int} (hn : b ≠ 0) (hd : decode M.2.1 pc = .ok (.idiv, 1)) (h : Runs d M (pc + 1) (L) (zI (zdiv a b) :: S) (σ) Q) : Runs d M pc (L) (zI b :: zI a :: S) σ Q := by
  refine Runs.step (L' := L) (S' := zI (zdiv a b) :: S) (σ' := σ) (fun oL oS oH => ⟨oL, okVs_cons (toInt_in _) (okVs_tl (okVs_tl oS))⟩) (fun G p l e R s m args below meth c cells slots A QQ C oL oS H locs ls hW hl kk => ?_) h
  obtain ⟨hx, hb, hml, hown, hts, hR, hK⟩ := C
  refine lv_idiv hx hb hd (fun q => hn ((n32_inj (okVs_hd oS) inR_0).mp q)) ?_
  rw [← n32_of (n32 a / n32 b)]
  exact kk H locs ls hW hl
theorem s_irem {d : Nat} {M : Mt} {pc : Nat} {L S : List AV} {σ : Hp} {Q : Option Int → Hp → Prop} {a b : Int} (hn : b ≠ 0) (hd : decode M.2.1 pc = .ok (.irem, 1)) (h : Runs d M (pc + 1) (L) (zI (zrem a b) :: S) (σ) Q) : Runs d M pc (L) (zI b :: zI a :: S) σ Q := by
  refine Runs.step (L' := L) (S' := zI (zrem a b) :: S) (σ' := σ) (fun oL oS oH => ⟨oL, okVs_cons (toInt_in _) (okVs_tl (okVs_tl oS))⟩) (fun G p l e R s m args below meth c cells slots A QQ C oL oS H locs ls hW hl kk => ?_) h
  obtain ⟨hx, hb, hml, hown, hts, hR, hK⟩ := C
  refine lv_irem hx hb hd (fun q => hn ((n32_inj (okVs_hd oS) inR_0).mp q)) ?_
  rw [← n32_of (n32 a - n32 a / n32 b * n32 b)]
  exact kk H locs ls hW hl
theorem s_i2l {d : Nat} {M : Mt} {pc : Nat} {L S : List AV} {σ : Hp} {Q : Option Int → Hp → Prop} {a : Int} (hd : decode M.2.1 pc = .ok (.i2l, 1)) (h : Runs d M (pc + 1) (L) (zJ (zi2l a) :: S) (σ) Q) : Runs d M pc (L) (zI a :: S) σ Q := by
  refine Runs.step (L' := L) (S' := zJ (zi2l a) :: S) (σ' := σ) (fun oL oS oH => ⟨oL, okVs_cons trivial (okVs_tl oS)⟩) (fun G p l e R s m args below meth c cells slots A QQ C oL oS H locs ls hW hl kk => ?_) h
  obtain ⟨hx, hb, hml, hown, hts, hR, hK⟩ := C
  exact lv_i2l hx hb hd rfl (kk H locs ls hW hl)
theorem s_l2i {d : Nat} {M : Mt} {pc : Nat} {L S : List AV} {σ : Hp} {Q : Option Int → Hp → Prop} {x : Int64} (hd : decode M.2.1 pc = .ok (.l2i, 1)) (h : Runs d M (pc + 1) (L) (zI (zl2i x) :: S) (σ) Q) : Runs d M pc (L) (zJ x :: S) σ Q := by
  refine Runs.step (L' := L) (S' := zI (zl2i x) :: S) (σ' := σ) (fun oL oS oH => ⟨oL, okVs_cons (toInt_in _) (okVs_tl oS)⟩) (fun G p l e R s m args below meth c cells slots A QQ C oL oS H locs ls hW hl kk => ?_) h
  obtain ⟨hx, hb, hml, hown, hts, hR, hK⟩ := C
  exact lv_l2i hx hb hd (n32_of _).symm (kk H locs ls hW hl)
theorem s_lshl {d : Nat} {M : Mt} {pc : Nat} {L S : List AV} {σ : Hp} {Q : Option Int → Hp → Prop} {x : Int64} {b : Int} (hd : decode M.2.1 pc = .ok (.lshl, 1)) (h : Runs d M (pc + 1) (L) (zJ (zlshl x b) :: S) (σ) Q) : Runs d M pc (L) (zI b :: zJ x :: S) σ Q := by
  refine Runs.step (L' := L) (S' := zJ (zlshl x b) :: S) (σ' := σ) (fun oL oS oH => ⟨oL, okVs_cons trivial (okVs_tl (okVs_tl oS))⟩) (fun G p l e R s m args below meth c cells slots A QQ C oL oS H locs ls hW hl kk => ?_) h
  obtain ⟨hx, hb, hml, hown, hts, hR, hK⟩ := C
  exact lv_lshl hx hb hd rfl (kk H locs ls hW hl)
theorem s_lshr {d : Nat} {M : Mt} {pc : Nat} {L S : List AV} {σ : Hp} {Q : Option Int → Hp → Prop} {x : Int64} {b : Int} (hd : decode M.2.1 pc = .ok (.lshr, 1)) (h : Runs d M (pc + 1) (L) (zJ (zlshr x b) :: S) (σ) Q) : Runs d M pc (L) (zI b :: zJ x :: S) σ Q := by
  refine Runs.step (L' := L) (S' := zJ (zlshr x b) :: S) (σ' := σ) (fun oL oS oH => ⟨oL, okVs_cons trivial (okVs_tl (okVs_tl oS))⟩) (fun G p l e R s m args below meth c cells slots A QQ C oL oS H locs ls hW hl kk => ?_) h
  obtain ⟨hx, hb, hml, hown, hts, hR, hK⟩ := C
  exact lv_lshr hx hb hd rfl (kk H locs ls hW hl)
theorem s_lushr {d : Nat} {M : Mt} {pc : Nat} {L S : List AV} {σ : Hp} {Q : Option Int → Hp → Prop} {x : Int64} {b : Int} (hd : decode M.2.1 pc = .ok (.lushr, 1)) (h : Runs d M (pc + 1) (L) (zJ (zlushr x b) :: S) (σ) Q) : Runs d M pc (L) (zI b :: zJ x :: S) σ Q := by
  refine Runs.step (L' := L) (S' := zJ (zlushr x b) :: S) (σ' := σ) (fun oL oS oH => ⟨oL, okVs_cons trivial (okVs_tl (okVs_tl oS))⟩) (fun G p l e R s m args below meth c cells slots A QQ C oL oS H locs ls hW hl kk => ?_) h
  obtain ⟨hx, hb, hml, hown, hts, hR, hK⟩ := C
  exact lv_lushr hx hb hd rfl (kk H locs ls hW hl)
theorem s_land {d : Nat} {M : Mt} {pc : Nat} {L S : List AV} {σ : Hp} {Q : Option Int → Hp → Prop} {x y : Int64} (hd : decode M.2.1 pc = .ok (.land, 1)) (h : Runs d M (pc + 1) (L) (zJ (x &&& y) :: S) (σ) Q) : Runs d M pc (L) (zJ y :: zJ x :: S) σ Q := by
  refine Runs.step (L' := L) (S' := zJ (x &&& y) :: S) (σ' := σ) (fun oL oS oH => ⟨oL, okVs_cons trivial (okVs_tl (okVs_tl oS))⟩) (fun G p l e R s m args below meth c cells slots A QQ C oL oS H locs ls hW hl kk => ?_) h
  obtain ⟨hx, hb, hml, hown, hts, hR, hK⟩ := C
  exact lv_land hx hb hd (kk H locs ls hW hl)
theorem s_lor {d : Nat} {M : Mt} {pc : Nat} {L S : List AV} {σ : Hp} {Q : Option Int → Hp → Prop} {x y : Int64} (hd : decode M.2.1 pc = .ok (.lor, 1)) (h : Runs d M (pc + 1) (L) (zJ (x ||| y) :: S) (σ) Q) : Runs d M pc (L) (zJ y :: zJ x :: S) σ Q := by
  refine Runs.step (L' := L) (S' := zJ (x ||| y) :: S) (σ' := σ) (fun oL oS oH => ⟨oL, okVs_cons trivial (okVs_tl (okVs_tl oS))⟩) (fun G p l e R s m args below meth c cells slots A QQ C oL oS H locs ls hW hl kk => ?_) h
  obtain ⟨hx, hb, hml, hown, hts, hR, hK⟩ := C
  exact lv_lor hx hb hd (kk H locs ls hW hl)
def cat1 : AV → Bool
  | .inr (.inr _) => false
  | _ => true
theorem cat1_of {ad : Nat → Nat → Nat} {v : AV} (h : cat1 v = true) : (cvv ad v).category = 1 := by
  rcases v with z | q | x | u
  · rfl
  · rfl
  · cases h
  · cases h
theorem s_dup {d : Nat} {M : Mt} {pc : Nat} {L S : List AV} {σ : Hp} {Q : Option Int → Hp → Prop} {v : AV} (hc : cat1 v = true) (hd : decode M.2.1 pc = .ok (.dup, 1)) (h : Runs d M (pc + 1) (L) (v :: v :: S) (σ) Q) : Runs d M pc (L) (v :: S) σ Q := by
  refine Runs.step (L' := L) (S' := v :: v :: S) (σ' := σ) (fun oL oS oH => ⟨oL, okVs_cons (okVs_hd oS) oS⟩) (fun G p l e R s m args below meth c cells slots A QQ C oL oS H locs ls hW hl kk => ?_) h
  obtain ⟨hx, hb, hml, hown, hts, hR, hK⟩ := C
  exact lv_dup hx hb hd (cat1_of hc) (kk H locs ls hW hl)
theorem s_dup2 {d : Nat} {M : Mt} {pc : Nat} {L S : List AV} {σ : Hp} {Q : Option Int → Hp → Prop} {v w : AV} (hc : cat1 v = true) (hc2 : cat1 w = true) (hd : decode M.2.1 pc = .ok (.dup2, 1)) (h : Runs d M (pc + 1) (L) (v :: w :: v :: w :: S) (σ) Q) : Runs d M pc (L) (v :: w :: S) σ Q := by
  refine Runs.step (L' := L) (S' := v :: w :: v :: w :: S) (σ' := σ) (fun oL oS oH => ⟨oL, okVs_cons (okVs_hd oS) (okVs_cons (okVs_hd (okVs_tl oS)) oS)⟩) (fun G p l e R s m args below meth c cells slots A QQ C oL oS H locs ls hW hl kk => ?_) h
  obtain ⟨hx, hb, hml, hown, hts, hR, hK⟩ := C
  exact lv_dup2_11 hx hb hd (cat1_of hc) (cat1_of hc2) (kk H locs ls hW hl)
end
section
/-! fields and arrays -/
def fA (σ : Hp) (g x k : Nat) (f : Nat × Nat × Nat) : AV := match f.1 with
  | 0 => zI (σ g x k)
  | 1 => zI (σ g x k)
  | 2 => zR f.2.1 f.2.2
  | _ => zR f.2.1 x
theorem fA_cv (ad : Nat → Nat → Nat) (σ : Hp) (g x k : Nat) (f : Nat × Nat × Nat) : cvv ad (fA σ g x k f) = fval ad σ g x k f := by
  obtain ⟨t, g', i'⟩ := f
  match t with
  | 0 => rfl
  | 1 => rfl
  | 2 => rfl
  | n + 3 => rfl
def shOK (g : Nat) : Bool := (shp g).2.2.2.all (fun f => (f.1 != 2 || decide (f.2.2 < cntG f.2.1)) && (f.1 != 3 || cntG g == cntG f.2.1) && decide (f.1 < 4))
theorem shOK_all : (List.range 52).all shOK = true := by decide +kernel
theorem fA_ok {σ : Hp} {g x k : Nat} {f : Nat × Nat × Nat} (hg : g < 52) (hx : x < cntG g) (hf : (shp g).2.2.2[k]? = some f) (hH : okH σ) : okV (fA σ g x k f) := by
  have h0 := List.all_eq_true.mp (List.all_eq_true.mp shOK_all g (List.mem_range.mpr hg)) f (List.mem_of_getElem? hf)
  obtain ⟨t, g', i'⟩ := f
  unfold fA
  match t, h0 with
  | 0, h0 => exact hH g x k
  | 1, h0 => exact hH g x k
  | 2, h0 => simp at h0; exact h0
  | 3, h0 =>
    simp at h0
    show x < cntG g'
    rw [← h0]; exact hx
  | n + 4, h0 => simp at h0; omega
theorem fvals_at {ad : Nat → Nat → Nat} {σ : Hp} {g x k : Nat} {f : Nat × Nat × Nat} (hf : (shp g).2.2.2[k]? = some f) : (fvals ad σ g x)[k]? = some (fval ad σ g x k f) := by
  unfold fvals
  rw [List.getElem?_mapIdx, hf]
  rfl
theorem cell_obj {G : Gw} {σ : Hp} {g x ci : Nat} (hk : (shp g).1 = ci + 3) : cellOf G σ g x = .inr (ci, fvals G.1 σ g x) := by
  unfold cellOf
  rw [hk]
theorem cell_int {G : Gw} {σ : Hp} {g x : Nat} (hk : (shp g).1 = 0) : cellOf G σ g x = .inl (G.2.2.1 g, (shp g).2.2.1, .inl (fun j => n32 (σ g x j))) := by
  unfold cellOf
  rw [hk]
theorem cell_bool {G : Gw} {σ : Hp} {g x : Nat} (hk : (shp g).1 = 1) : cellOf G σ g x = .inl (G.2.2.1 g, (shp g).2.2.1, .inl (fun j => n32 (σ g x j))) := by
  unfold cellOf
  rw [hk]
theorem cell_ref {G : Gw} {σ : Hp} {g x : Nat} (hk : (shp g).1 = 2) : cellOf G σ g x = .inl (G.2.2.1 g, (shp g).2.2.1, .inr (.inr (.inr (.inr (fun j => if j < (shp g).2.2.1 then some (G.1 (tgtG g) j) else none))))) := by
  unfold cellOf
  rw [hk]
theorem fvals_up {ad : Nat → Nat → Nat} {σ : Hp} {g x k : Nat} {v : Int} {f : Nat × Nat × Nat} (hf : (shp g).2.2.2[k]? = some f) (ht : f.1 < 2) : fvals ad (zup σ g x k v) g x = (fvals ad σ g x).set k (.int (n32 v)) := by
  apply List.ext_getElem?
  intro j
  have hl : k < (fvals ad σ g x).length := by unfold fvals; rw [List.length_mapIdx]; exact (List.getElem?_eq_some_iff.mp hf).1
  by_cases hj : j = k
  · subst hj
    rw [List.getElem?_set_self hl, fvals_at hf]
    obtain ⟨t, r⟩ := f
    unfold fval
    match t, ht with
    | 0, _ => simp [zup]
    | 1, _ => simp [zup]
  · rw [List.getElem?_set_ne (Ne.symm hj)]
    unfold fvals
    rw [List.getElem?_mapIdx, List.getElem?_mapIdx]
    cases (shp g).2.2.2[j]? with
    | none => rfl
    | some f' =>
      simp only [Option.map_some]
      unfold fval
      simp [zup, hj]
def tyOK (g : Nat) : Bool := match (shp g).1 with
  | 0 => true
  | 1 => true
  | 2 => true
  | c + 3 => decide (c < 12) && (List.range (shp g).2.2.2.length).all (fun k => match (shp g).2.2.2[k]? with
    | some f => (f.1 != 0 || tyT c k == .int) && (f.1 != 1 || tyT c k == .boolean)
    | none => true)
theorem tyOK_all : (List.range 52).all tyOK = true := by decide +kernel
theorem ty_of {g c k : Nat} {f : Nat × Nat × Nat} (hg : g < 52) (hk : (shp g).1 = c + 3) (hf : (shp g).2.2.2[k]? = some f) : c < 12 ∧ (f.1 = 0 → tyT c k = .int) ∧ (f.1 = 1 → tyT c k = .boolean) := by
  have h0 := List.all_eq_true.mp tyOK_all g (List.mem_range.mpr hg)
  unfold tyOK at h0
  rw [hk] at h0
  simp only [Bool.and_eq_true, decide_eq_true_eq] at h0
  have h1 := List.all_eq_true.mp h0.2 k (List.mem_range.mpr (List.getElem?_eq_some_iff.mp hf).1)
  rw [hf] at h1
  simp only [Bool.and_eq_true, Bool.or_eq_true, bne_iff_ne, ne_eq, beq_iff_eq] at h1
  exact ⟨h0.1, fun q => h1.1.resolve_left (fun z => z q), fun q => h1.2.resolve_left (fun z => z q)⟩
/-- the links that the tables have -/
def lnkF (M : Mt) (idx ci k : Nat) : Bool := fTab.any (fun e => e.1 == M.2.2.2.2 && e.2.1 == idx && e.2.2.1 == ci && e.2.2.2.1 == k) && decide (ownN M.2.2.2.2 = M.1.cls)
theorem lnkF_ok {M : Mt} {idx ci k : Nat} (h : lnkF M idx ci k = true) : Cond.fieldLink M.1.cls idx ((clsT ci).2.1 k).1 ((clsT ci).2.1 k).2.1 ((clsT ci).2.1 k).2.2.1 ∈ gTbl ∧ k < (clsT ci).2.2 ∧ ci < 12 := by
  unfold lnkF at h
  simp only [Bool.and_eq_true, decide_eq_true_eq] at h
  obtain ⟨e, he, h1⟩ := List.any_eq_true.mp h.1
  simp only [Bool.and_eq_true, beq_iff_eq] at h1
  obtain ⟨⟨⟨a1, a2⟩, a3⟩, a4⟩ := h1
  have h2 := List.all_eq_true.mp fTab_ok e he
  simp only [Bool.and_eq_true, decide_eq_true_eq] at h2
  obtain ⟨⟨⟨b1, b2⟩, b3⟩, b4⟩ := h2
  have h3 := gTbl_in b1 b2
  unfold fW at h3
  rw [a1, a2, a3, a4, h.2] at h3
  rw [a3, a4] at b3
  rw [a3] at b4
  exact ⟨h3, b3, b4⟩
theorem s_getfield {d : Nat} {M : Mt} {pc : Nat} {L S : List AV} {σ : Hp} {Q : Option Int → Hp → Prop} {idx ci k g x : Nat} {f : Nat × Nat × Nat} (hl0 : lnkF M idx ci k = true) (hk : (shp g).1 = ci + 3) (hf : (shp g).2.2.2[k]? = some f)
    (hd : decode M.2.1 pc = .ok (.getfield idx, 3)) (h : Runs d M (pc + 3) L (fA σ g x k f :: S) σ Q) : Runs d M pc L (zR g x :: S) σ Q := by
  obtain ⟨w1, w2, w3⟩ := lnkF_ok hl0
  have hg : g < 52 := kind_lt (by omega)
  refine Runs.step (L' := L) (S' := fA σ g x k f :: S) (σ' := σ) (fun oL oS oH => ⟨oL, okVs_cons (fA_ok hg (okVs_hd oS) hf oH) (okVs_tl oS)⟩) (fun G p l e R s m args below meth c cells slots A QQ C oL oS H locs ls hW hl kk => ?_) h
  obtain ⟨hx, hb, hml, hown, hts, hR, hK⟩ := C
  obtain ⟨q0, he, -⟩ := ws_at G σ hg (okVs_hd oS)
  rw [cell_obj hk] at he
  obtain ⟨i1, i2, i3, i4⟩ := cls_in ci w3
  refine va_get hx hb hts i1 hown hK hW.1 q0 he i4 k w2 (hts _ w1) (fun _ h9 => h9) (fvals_at hf) hd ?_
  have := kk H locs ls hW hl
  rw [List.map_cons, fA_cv] at this
  exact this
theorem narrow_i (z : Int) : narrow .int (.int (n32 z)) = .int (n32 z) := rfl
theorem narrow_z {z : Int} (h : z = 0 ∨ z = 1) : narrow .boolean (.int (n32 z)) = .int (n32 z) := by
  rcases h with rfl | rfl <;> decide
theorem fits_z {z : Int} (h : z = 0 ∨ z = 1) : fits .boolean (.int (n32 z)) = true := by
  rcases h with rfl | rfl <;> decide
theorem Wld_up {G : Gw} {A : Nat → Prop} {σ : Hp} {s : State} {H1 : Heap} {locs1 : List Loc} {g x k : Nat} {v : Int} {q0 : Nat} (hg : g < 52) (hv : inR v) (hR : RO G A σ s) (hH : okH σ) (hq : IDX[q0]? = some (g, x)) {c1 : va_E} (hc : cellOf G (zup σ g x k v) g x = c1)
    (h1 : va_P G.2.1 clsL ((wsOf G σ).set q0 (G.1 g x, c1)) H1) (h2 : va_D A ((wsOf G σ).set q0 (G.1 g x, c1))) (h3 : va_S A s.heap H1 locs1) : Wld G A (zup σ g x k v) s H1 locs1 := by
  subst hc
  rw [ws_set hq (fun g' i' h => cell_up h)] at h1 h2
  refine ⟨h1, h2, h3, hR.same ?_ ?_ ?_, okH_up hH hv⟩
  · funext i'; exact zup_ne (fun e => by cases e; omega)
  · funext i'; exact zup_ne (fun e => by cases e; omega)
  · funext i'; exact zup_ne (fun e => by cases e; omega)
theorem s_putfield {d : Nat} {M : Mt} {pc : Nat} {L S : List AV} {σ : Hp} {Q : Option Int → Hp → Prop} {idx ci k g x : Nat} {v : Int} {f : Nat × Nat × Nat} (hl0 : lnkF M idx ci k = true) (hfin : ((clsT ci).2.1 k).2.2.2 = false) (hk : (shp g).1 = ci + 3) (hf : (shp g).2.2.2[k]? = some f) (ht : f.1 = 0 ∨ (f.1 = 1 ∧ (v = 0 ∨ v = 1)))
    (hd : decode M.2.1 pc = .ok (.putfield idx, 3)) (h : Runs d M (pc + 3) L S (zup σ g x k v) Q) : Runs d M pc L (zI v :: zR g x :: S) σ Q := by
  obtain ⟨w1, w2, w3⟩ := lnkF_ok hl0
  have hg : g < 52 := kind_lt (by omega)
  obtain ⟨-, t1, t2⟩ := ty_of hg hk hf
  refine Runs.step (L' := L) (S' := S) (σ' := zup σ g x k v) (fun oL oS oH => ⟨oL, okVs_tl (okVs_tl oS)⟩) (fun G p l e R s m args below meth c cells slots A QQ C oL oS H locs ls hW hl kk => ?_) h
  obtain ⟨hx, hb, hml, hown, hts, hR, hK⟩ := C
  obtain ⟨q0, he, hq⟩ := ws_at G σ hg (okVs_hd (okVs_tl oS))
  rw [cell_obj hk] at he
  obtain ⟨i1, i2, i3, i4⟩ := cls_in ci w3
  have hlen : k < (fvals G.1 σ g x).length := (List.getElem?_eq_some_iff.mp (fvals_at (ad := G.1) (σ := σ) (x := x) hf)).1
  have hty : narrow (tyT ci k) (.int (n32 v)) = .int (n32 v) ∧ fits (tyT ci k) (.int (n32 v)) = true := by
    rcases ht with q | ⟨q, q2⟩
    · rw [t1 q]; exact ⟨rfl, rfl⟩
    · rw [t2 q]; exact ⟨narrow_z q2, fits_z q2⟩
  refine va_put hx hb hts i1 (tyT ci) i2 i3 hown hK hW.1 hW.2.1 hW.2.2.1 q0 he i4 k w2 (hts _ w1) (fun _ h9 => h9) hfin (i2 k w2) hty.1 hty.2 hlen hd (fun H1 locs1 p1 p2 p3 => ?_)
  exact kk H1 locs1 ls (Wld_up hg (okVs_hd oS) hW.2.2.2.1 hW.2.2.2.2 hq (by rw [cell_obj hk, fvals_up hf (by omega)]; rfl) p1 p2 p3) hl
def lnkS (M : Mt) (idx g : Nat) : Bool := sTab.any (fun e => e.1 == M.2.2.2.2 && e.2.1 == idx && e.2.2.1 == g) && decide (ownN M.2.2.2.2 = M.1.cls)
theorem lnkS_ok {M : Mt} {idx g : Nat} (h : lnkS M idx g = true) : Cond.fieldLink M.1.cls idx RX10 (sNm g) "[I" ∈ gTbl ∧ (g = 61 ∨ g = 62) := by
  unfold lnkS at h
  simp only [Bool.and_eq_true, decide_eq_true_eq] at h
  obtain ⟨e, he, h1⟩ := List.any_eq_true.mp h.1
  simp only [Bool.and_eq_true, beq_iff_eq] at h1
  obtain ⟨⟨a1, a2⟩, a3⟩ := h1
  have h2 := List.all_eq_true.mp sTab_ok e he
  simp only [Bool.and_eq_true, decide_eq_true_eq, Bool.or_eq_true, beq_iff_eq] at h2
  obtain ⟨⟨b1, b2⟩, b3⟩ := h2
  have h3 := gTbl_in b1 b2
  unfold sW at h3
  rw [a1, a2, a3, h.2] at h3
  rw [a3] at b3
  exact ⟨h3, b3⟩
theorem s_getstatic {d : Nat} {M : Mt} {pc : Nat} {L S : List AV} {σ : Hp} {Q : Option Int → Hp → Prop} {idx g : Nat} (hl0 : lnkS M idx g = true)
    (hd : decode M.2.1 pc = .ok (.getstatic idx, 3)) (h : Runs d M (pc + 3) L (zR g 0 :: S) σ Q) : Runs d M pc L S σ Q := by
  obtain ⟨w1, w2⟩ := lnkS_ok hl0
  have hc : 0 < cntG g := by rcases w2 with rfl | rfl <;> decide
  refine Runs.step (L' := L) (S' := zR g 0 :: S) (σ' := σ) (fun oL oS oH => ⟨oL, okVs_cons hc oS⟩) (fun G p l e R s m args below meth c cells slots A QQ C oL oS H locs ls hW hl kk => ?_) h
  obtain ⟨hx, hb, hml, hown, hts, hR, hK⟩ := C
  exact va_gets hx hb (hW.2.2.2.1.2.2 g w2).1 hW.2.2.1 hown (hts _ w1) (fun _ h9 => h9) hd (kk H locs ls hW hl)
theorem s_iaload {d : Nat} {M : Mt} {pc : Nat} {L S : List AV} {σ : Hp} {Q : Option Int → Hp → Prop} {g x : Nat} {i : Int} (hk : (shp g).1 = 0) (hi : 0 ≤ i ∧ i < ((shp g).2.2.1 : Int))
    (hd : decode M.2.1 pc = .ok (.iaload, 1)) (h : Runs d M (pc + 1) L (zI (σ g x i.toNat) :: S) σ Q) : Runs d M pc L (zI i :: zR g x :: S) σ Q := by
  have hg : g < 52 := kind_lt (by omega)
  refine Runs.step (L' := L) (S' := zI (σ g x i.toNat) :: S) (σ' := σ) (fun oL oS oH => ⟨oL, okVs_cons (oH _ _ _) (okVs_tl (okVs_tl oS))⟩) (fun G p l e R s m args below meth c cells slots A QQ C oL oS H locs ls hW hl kk => ?_) h
  obtain ⟨hx, hb, hml, hown, hts, hR, hK⟩ := C
  obtain ⟨q0, he, -⟩ := ws_at G σ hg (okVs_hd (okVs_tl oS))
  obtain ⟨t0, ht⟩ := ty_at G hg (by omega)
  rw [cell_int hk] at he
  rw [show atyG g = .int by unfold atyG; rw [hk]; rfl] at ht
  have hi2 := okVs_hd oS
  refine va_iald hx hb hK hW.1 q0 t0 he ht (n32_in hi2 hi) hd ?_
  have := kk H locs ls hW hl
  rw [n32_nat hi.1 hi2]
  exact this
theorem s_baload {d : Nat} {M : Mt} {pc : Nat} {L S : List AV} {σ : Hp} {Q : Option Int → Hp → Prop} {g x : Nat} {i : Int} (hk : (shp g).1 = 1) (hi : 0 ≤ i ∧ i < ((shp g).2.2.1 : Int))
    (hd : decode M.2.1 pc = .ok (.baload, 1)) (h : Runs d M (pc + 1) L (zI (σ g x i.toNat) :: S) σ Q) : Runs d M pc L (zI i :: zR g x :: S) σ Q := by
  have hg : g < 52 := kind_lt (by omega)
  refine Runs.step (L' := L) (S' := zI (σ g x i.toNat) :: S) (σ' := σ) (fun oL oS oH => ⟨oL, okVs_cons (oH _ _ _) (okVs_tl (okVs_tl oS))⟩) (fun G p l e R s m args below meth c cells slots A QQ C oL oS H locs ls hW hl kk => ?_) h
  obtain ⟨hx, hb, hml, hown, hts, hR, hK⟩ := C
  obtain ⟨q0, he, -⟩ := ws_at G σ hg (okVs_hd (okVs_tl oS))
  obtain ⟨t0, ht⟩ := ty_at G hg (by omega)
  rw [cell_bool hk] at he
  rw [show atyG g = .boolean by unfold atyG; rw [hk]; rfl] at ht
  have hi2 := okVs_hd oS
  refine va_zald hx hb hK hW.1 q0 t0 he ht (n32_in hi2 hi) hd ?_
  have := kk H locs ls hW hl
  rw [n32_nat hi.1 hi2]
  exact this
theorem s_sload {d : Nat} {M : Mt} {pc : Nat} {L S : List AV} {σ : Hp} {Q : Option Int → Hp → Prop} {i : Int} (hi : 0 ≤ i ∧ i < σ 60 1 0)
    (hd : decode M.2.1 pc = .ok (.iaload, 1)) (h : Runs d M (pc + 1) L (zI (σ 60 0 i.toNat) :: S) σ Q) : Runs d M pc L (zI i :: zR 60 0 :: S) σ Q := by
  refine Runs.step (L' := L) (S' := zI (σ 60 0 i.toNat) :: S) (σ' := σ) (fun oL oS oH => ⟨oL, okVs_cons (oH _ _ _) (okVs_tl (okVs_tl oS))⟩) (fun G p l e R s m args below meth c cells slots A QQ C oL oS H locs ls hW hl kk => ?_) h
  obtain ⟨hx, hb, hml, hown, hts, hR, hK⟩ := C
  obtain ⟨⟨x1, x2, x3⟩, ⟨x4, x5⟩, x6⟩ := hW.2.2.2.1
  have hi2 := okVs_hd oS
  refine va_sld hx hb x1 x2 x3 hW.2.2.1 (n32_in hi2 (by rw [← x4]; exact hi)) hd ?_
  have := kk H locs ls hW hl
  rw [n32_nat hi.1 hi2]
  exact this
theorem s_tload {d : Nat} {M : Mt} {pc : Nat} {L S : List AV} {σ : Hp} {Q : Option Int → Hp → Prop} {i : Int} {g : Nat} (hg : g = 61 ∨ g = 62) (hi : 0 ≤ i ∧ i < 4)
    (hd : decode M.2.1 pc = .ok (.iaload, 1)) (h : Runs d M (pc + 1) L (zI (σ g 0 i.toNat) :: S) σ Q) : Runs d M pc L (zI i :: zR g 0 :: S) σ Q := by
  refine Runs.step (L' := L) (S' := zI (σ g 0 i.toNat) :: S) (σ' := σ) (fun oL oS oH => ⟨oL, okVs_cons (oH _ _ _) (okVs_tl (okVs_tl oS))⟩) (fun G p l e R s m args below meth c cells slots A QQ C oL oS H locs ls hW hl kk => ?_) h
  obtain ⟨hx, hb, hml, hown, hts, hR, hK⟩ := C
  have hi2 := okVs_hd oS
  refine va_ti hx hb (hW.2.2.2.1.2.2 g hg).2 hW.2.2.1 (n32_in hi2 hi) rfl hd ?_
  have := kk H locs ls hW hl
  rw [n32_nat hi.1 hi2]
  exact this
theorem up_int {σ : Hp} {g x : Nat} {i v : Int} : (fun j => n32 ((zup σ g x i.toNat v) g x j)) = upd (fun j => n32 (σ g x j)) i.toNat (n32 v) := by
  funext j
  by_cases h : j = i.toNat
  · simp [zup, upd, h]
  · simp [zup, upd, h]
theorem s_iastore {d : Nat} {M : Mt} {pc : Nat} {L S : List AV} {σ : Hp} {Q : Option Int → Hp → Prop} {g x : Nat} {i v : Int} (hk : (shp g).1 = 0) (hi : 0 ≤ i ∧ i < ((shp g).2.2.1 : Int))
    (hd : decode M.2.1 pc = .ok (.iastore, 1)) (h : Runs d M (pc + 1) L S (zup σ g x i.toNat v) Q) : Runs d M pc L (zI v :: zI i :: zR g x :: S) σ Q := by
  have hg : g < 52 := kind_lt (by omega)
  refine Runs.step (L' := L) (S' := S) (σ' := zup σ g x i.toNat v) (fun oL oS oH => ⟨oL, okVs_tl (okVs_tl (okVs_tl oS))⟩) (fun G p l e R s m args below meth c cells slots A QQ C oL oS H locs ls hW hl kk => ?_) h
  obtain ⟨hx, hb, hml, hown, hts, hR, hK⟩ := C
  obtain ⟨q0, he, hq⟩ := ws_at G σ hg (okVs_hd (okVs_tl (okVs_tl oS)))
  obtain ⟨t0, ht⟩ := ty_at G hg (by omega)
  rw [cell_int hk] at he
  rw [show atyG g = .int by unfold atyG; rw [hk]; rfl] at ht
  have hi2 := okVs_hd (okVs_tl oS)
  refine va_iast hx hb hK hW.1 hW.2.1 hW.2.2.1 q0 t0 he ht (n32_in hi2 hi) hd (fun H1 locs1 p1 p2 p3 => ?_)
  rw [n32_nat hi.1 hi2] at p1 p2
  exact kk H1 locs1 ls (Wld_up hg (okVs_hd oS) hW.2.2.2.1 hW.2.2.2.2 hq (by rw [cell_int hk, up_int]) p1 p2 p3) hl
theorem nar_z {v : Int} (h : v = 0 ∨ v = 1) : vp_nar .boolean (n32 v) = n32 v := by
  rcases h with rfl | rfl <;> decide
theorem s_bastore {d : Nat} {M : Mt} {pc : Nat} {L S : List AV} {σ : Hp} {Q : Option Int → Hp → Prop} {g x : Nat} {i v : Int} (hk : (shp g).1 = 1) (hi : 0 ≤ i ∧ i < ((shp g).2.2.1 : Int)) (hv : v = 0 ∨ v = 1)
    (hd : decode M.2.1 pc = .ok (.bastore, 1)) (h : Runs d M (pc + 1) L S (zup σ g x i.toNat v) Q) : Runs d M pc L (zI v :: zI i :: zR g x :: S) σ Q := by
  have hg : g < 52 := kind_lt (by omega)
  refine Runs.step (L' := L) (S' := S) (σ' := zup σ g x i.toNat v) (fun oL oS oH => ⟨oL, okVs_tl (okVs_tl (okVs_tl oS))⟩) (fun G p l e R s m args below meth c cells slots A QQ C oL oS H locs ls hW hl kk => ?_) h
  obtain ⟨hx, hb, hml, hown, hts, hR, hK⟩ := C
  obtain ⟨q0, he, hq⟩ := ws_at G σ hg (okVs_hd (okVs_tl (okVs_tl oS)))
  obtain ⟨t0, ht⟩ := ty_at G hg (by omega)
  rw [cell_bool hk] at he
  rw [show atyG g = .boolean by unfold atyG; rw [hk]; rfl] at ht
  have hi2 := okVs_hd (okVs_tl oS)
  refine va_zast hx hb hK hW.1 hW.2.1 hW.2.2.1 q0 t0 he ht (n32_in hi2 hi) hd (fun H1 locs1 p1 p2 p3 => ?_)
  rw [n32_nat hi.1 hi2, nar_z hv] at p1 p2
  exact kk H1 locs1 ls (Wld_up hg (okVs_hd oS) hW.2.2.2.1 hW.2.2.2.2 hq (by rw [cell_bool hk, up_int]) p1 p2 p3) hl
def arOK (g : Nat) : Bool := (shp g).1 != 2 || (cntG (tgtG g) == (shp g).2.2.1)
theorem arOK_all : (List.range 52).all arOK = true := by decide +kernel
theorem s_aaload {d : Nat} {M : Mt} {pc : Nat} {L S : List AV} {σ : Hp} {Q : Option Int → Hp → Prop} {g x : Nat} {i : Int} (hk : (shp g).1 = 2) (hi : 0 ≤ i ∧ i < ((shp g).2.2.1 : Int))
    (hd : decode M.2.1 pc = .ok (.aaload, 1)) (h : Runs d M (pc + 1) L (zR (tgtG g) i.toNat :: S) σ Q) : Runs d M pc L (zI i :: zR g x :: S) σ Q := by
  have hg : g < 52 := kind_lt (by omega)
  have hc : i.toNat < cntG (tgtG g) := by
    have h0 := List.all_eq_true.mp arOK_all g (List.mem_range.mpr hg)
    simp [arOK, hk] at h0
    omega
  refine Runs.step (L' := L) (S' := zR (tgtG g) i.toNat :: S) (σ' := σ) (fun oL oS oH => ⟨oL, okVs_cons hc (okVs_tl (okVs_tl oS))⟩) (fun G p l e R s m args below meth c cells slots A QQ C oL oS H locs ls hW hl kk => ?_) h
  obtain ⟨hx, hb, hml, hown, hts, hR, hK⟩ := C
  obtain ⟨q0, he, -⟩ := ws_at G σ hg (okVs_hd (okVs_tl oS))
  obtain ⟨t0, ht⟩ := ty_at G hg (by omega)
  rw [cell_ref hk] at he
  have hi2 := okVs_hd oS
  have href : (atyG g).isReference = true := by
    unfold atyG
    rw [hk]
    cases (shp (tgtG g)).1 <;> rfl
  have hin := n32_in hi2 hi
  have hlt : (n32 i).toNatClampNeg < (shp g).2.2.1 := Nat.not_le.mp fun q => hin (Or.inr q)
  refine W.aald (v := .ref (G.1 (tgtG g) i.toNat)) (ty := atyG g) hx hb (hW.1 q0 _ he) ((hK.2 t0 _ ht).1 (shp g).2.2.1 (fun j => va_rf (if j < (shp g).2.2.1 then some (G.1 (tgtG g) j) else none))) href (fun q => by cases q) (by show ¬ (n32 i < 0 ∨ (arrV _ _ _).slots.size ≤ _); rw [arrV_size]; exact hin) ?_ rfl rfl hd (kk H locs ls hW hl)
  show (arrV _ _ _).slots[_]? = _
  rw [arrV_read _ _ hlt, n32_nat hi.1 hi2]
  show some (va_rf (if i.toNat < (shp g).2.2.1 then some (G.1 (tgtG g) i.toNat) else none)) = _
  rw [if_pos (by omega)]
  rfl
theorem n32_ofNat (n : Nat) : Int32.ofNat n = n32 (n : Int) := by
  exact (Int32.ofInt_eq_ofNat).symm
theorem s_slen {d : Nat} {M : Mt} {pc : Nat} {L S : List AV} {σ : Hp} {Q : Option Int → Hp → Prop} (hd : decode M.2.1 pc = .ok (.arraylength, 1)) (h : Runs d M (pc + 1) L (zI (σ 60 1 0) :: S) σ Q) : Runs d M pc L (zR 60 0 :: S) σ Q := by
  refine Runs.step (L' := L) (S' := zI (σ 60 1 0) :: S) (σ' := σ) (fun oL oS oH => ⟨oL, okVs_cons (oH _ _ _) (okVs_tl oS)⟩) (fun G p l e R s m args below meth c cells slots A QQ C oL oS H locs ls hW hl kk => ?_) h
  obtain ⟨hx, hb, hml, hown, hts, hR, hK⟩ := C
  obtain ⟨⟨x1, x2, x3⟩, ⟨x4, x5⟩, x6⟩ := hW.2.2.2.1
  refine va_slen hx hb x1 x2 x3 hW.2.2.1 hd ?_
  rw [n32_ofNat, ← x4]
  exact kk H locs ls hW hl
theorem s_alen {d : Nat} {M : Mt} {pc : Nat} {L S : List AV} {σ : Hp} {Q : Option Int → Hp → Prop} {g x : Nat} (hk : (shp g).1 = 0) (hd : decode M.2.1 pc = .ok (.arraylength, 1)) (h : Runs d M (pc + 1) L (zI ((shp g).2.2.1 : Int) :: S) σ Q) : Runs d M pc L (zR g x :: S) σ Q := by
  have hg : g < 52 := kind_lt (by omega)
  have hsm : ∀ g, g < 52 → (shp g).2.2.1 < 1000 := by decide +kernel
  have := hsm g hg
  refine Runs.step (L' := L) (S' := zI ((shp g).2.2.1 : Int) :: S) (σ' := σ) (fun oL oS oH => ⟨oL, okVs_cons (show inR _ from ⟨by omega, by omega⟩) (okVs_tl oS)⟩) (fun G p l e R s m args below meth c cells slots A QQ C oL oS H locs ls hW hl kk => ?_) h
  obtain ⟨hx, hb, hml, hown, hts, hR, hK⟩ := C
  obtain ⟨q0, he, -⟩ := ws_at G σ hg (okVs_hd oS)
  obtain ⟨t0, ht⟩ := ty_at G hg (by omega)
  rw [cell_int hk] at he
  exact va_alen hx hb hK hW.1 q0 t0 he ht (n32_ofNat _) hd (kk H locs ls hW hl)
end
section
/-! branches -/
theorem r_if_eq {d : Nat} {M : Mt} {pc : Nat} {L S : List AV} {σ : Hp} {Q : Option Int → Hp → Prop} {a off : Int} {tgt : Nat} (hd : decode M.2.1 pc = .ok (.ifCond .eq off, 3)) (ht : (pc : Int) + off = (tgt : Int)) (kt : a = 0 → Runs d M tgt L S σ Q) (kf : ¬ a = 0 → Runs d M (pc + 3) L S σ Q) : Runs d M pc L (zI a :: S) σ Q := by
  intro oL oS G p l e R s m args below meth c cells slots A QQ C H locs ls hW hl kk
  have hh : _ := n32_inj (okVs_hd oS) inR_0
  exact lv_if_eq C.1 C.2.1 hd ht (fun q => kt (hh.mp q) oL (okVs_tl oS) G p l e R s m args below meth c cells slots A QQ C H locs ls hW hl kk) (fun q => kf (fun z => q (hh.mpr z)) oL (okVs_tl oS) G p l e R s m args below meth c cells slots A QQ C H locs ls hW hl kk)
theorem r_if_ne {d : Nat} {M : Mt} {pc : Nat} {L S : List AV} {σ : Hp} {Q : Option Int → Hp → Prop} {a off : Int} {tgt : Nat} (hd : decode M.2.1 pc = .ok (.ifCond .ne off, 3)) (ht : (pc : Int) + off = (tgt : Int)) (kt : ¬ a = 0 → Runs d M tgt L S σ Q) (kf : a = 0 → Runs d M (pc + 3) L S σ Q) : Runs d M pc L (zI a :: S) σ Q := by
  intro oL oS G p l e R s m args below meth c cells slots A QQ C H locs ls hW hl kk
  have hh : _ := n32_inj (okVs_hd oS) inR_0
  exact lv_if_ne C.1 C.2.1 hd ht (fun q => kt (fun z => q (hh.mpr z)) oL (okVs_tl oS) G p l e R s m args below meth c cells slots A QQ C H locs ls hW hl kk) (fun q => kf (hh.mp q) oL (okVs_tl oS) G p l e R s m args below meth c cells slots A QQ C H locs ls hW hl kk)
theorem r_if_lt {d : Nat} {M : Mt} {pc : Nat} {L S : List AV} {σ : Hp} {Q : Option Int → Hp → Prop} {a off : Int} {tgt : Nat} (hd : decode M.2.1 pc = .ok (.ifCond .lt off, 3)) (ht : (pc : Int) + off = (tgt : Int)) (kt : a < 0 → Runs d M tgt L S σ Q) (kf : ¬ a < 0 → Runs d M (pc + 3) L S σ Q) : Runs d M pc L (zI a :: S) σ Q := by
  intro oL oS G p l e R s m args below meth c cells slots A QQ C H locs ls hW hl kk
  have hh : _ := n32_lt (okVs_hd oS) inR_0
  exact lv_if_lt C.1 C.2.1 hd ht (fun q => kt (hh.mp q) oL (okVs_tl oS) G p l e R s m args below meth c cells slots A QQ C H locs ls hW hl kk) (fun q => kf (fun z => q (hh.mpr z)) oL (okVs_tl oS) G p l e R s m args below meth c cells slots A QQ C H locs ls hW hl kk)
theorem r_if_ge {d : Nat} {M : Mt} {pc : Nat} {L S : List AV} {σ : Hp} {Q : Option Int → Hp → Prop} {a off : Int} {tgt : Nat} (hd : decode M.2.1 pc = .ok (.ifCond .ge off, 3)) (ht : (pc : Int) + off = (tgt : Int)) (kt : 0 ≤ a → Runs d M tgt L S σ Q) (kf : ¬ 0 ≤ a → Runs d M (pc + 3) L S σ Q) : Runs d M pc L (zI a :: S) σ Q := by
  intro oL oS G p l e R s m args below meth c cells slots A QQ C H locs ls hW hl kk
  have hh : _ := n32_le inR_0 (okVs_hd oS)
  exact lv_if_ge C.1 C.2.1 hd ht (fun q => kt (hh.mp q) oL (okVs_tl oS) G p l e R s m args below meth c cells slots A QQ C H locs ls hW hl kk) (fun q => kf (fun z => q (hh.mpr z)) oL (okVs_tl oS) G p l e R s m args below meth c cells slots A QQ C H locs ls hW hl kk)
theorem r_if_gt {d : Nat} {M : Mt} {pc : Nat} {L S : List AV} {σ : Hp} {Q : Option Int → Hp → Prop} {a off : Int} {tgt : Nat} (hd : decode M.2.1 pc = .ok (.ifCond .gt off, 3)) (ht : (pc : Int) + off = (tgt : Int)) (kt : 0 < a → Runs d M tgt L S σ Q) (kf : ¬ 0 < a → Runs d M (pc + 3) L S σ Q) : Runs d M pc L (zI a :: S) σ Q := by
  intro oL oS G p l e R s m args below meth c cells slots A QQ C H locs ls hW hl kk
  have hh : _ := n32_lt inR_0 (okVs_hd oS)
  exact lv_if_gt C.1 C.2.1 hd ht (fun q => kt (hh.mp q) oL (okVs_tl oS) G p l e R s m args below meth c cells slots A QQ C H locs ls hW hl kk) (fun q => kf (fun z => q (hh.mpr z)) oL (okVs_tl oS) G p l e R s m args below meth c cells slots A QQ C H locs ls hW hl kk)
theorem r_if_le {d : Nat} {M : Mt} {pc : Nat} {L S : List AV} {σ : Hp} {Q : Option Int → Hp → Prop} {a off : Int} {tgt : Nat} (hd : decode M.2.1 pc = .ok (.ifCond .le off, 3)) (ht : (pc : Int) + off = (tgt : Int)) (kt : a ≤ 0 → Runs d M tgt L S σ Q) (kf : ¬ a ≤ 0 → Runs d M (pc + 3) L S σ Q) : Runs d M pc L (zI a :: S) σ Q := by
  intro oL oS G p l e R s m args below meth c cells slots A QQ C H locs ls hW hl kk
  have hh : _ := n32_le (okVs_hd oS) inR_0
  exact lv_if_le C.1 C.2.1 hd ht (fun q => kt (hh.mp q) oL (okVs_tl oS) G p l e R s m args below meth c cells slots A QQ C H locs ls hW hl kk) (fun q => kf (fun z => q (hh.mpr z)) oL (okVs_tl oS) G p l e R s m args below meth c cells slots A QQ C H locs ls hW hl kk)
theorem r_icmp_eq {d : Nat} {M : Mt} {pc : Nat} {L S : List AV} {σ : Hp} {Q : Option Int → Hp → Prop} {a b off : Int} {tgt : Nat} (hd : decode M.2.1 pc = .ok (.if_icmp .eq off, 3)) (ht : (pc : Int) + off = (tgt : Int)) (kt : a = b → Runs d M tgt L S σ Q) (kf : ¬ a = b → Runs d M (pc + 3) L S σ Q) : Runs d M pc L (zI b :: zI a :: S) σ Q := by
  intro oL oS G p l e R s m args below meth c cells slots A QQ C H locs ls hW hl kk
  have hh : _ := n32_inj (okVs_hd (okVs_tl oS)) (okVs_hd oS)
  exact lv_icmp_eq C.1 C.2.1 hd ht (fun q => kt (hh.mp q) oL (okVs_tl (okVs_tl oS)) G p l e R s m args below meth c cells slots A QQ C H locs ls hW hl kk) (fun q => kf (fun z => q (hh.mpr z)) oL (okVs_tl (okVs_tl oS)) G p l e R s m args below meth c cells slots A QQ C H locs ls hW hl kk)
theorem r_icmp_ne {d : Nat} {M : Mt} {pc : Nat} {L S : List AV} {σ : Hp} {Q : Option Int → Hp → Prop} {a b off : Int} {tgt : Nat} (hd : decode M.2.1 pc = .ok (.if_icmp .ne off, 3)) (ht : (pc : Int) + off = (tgt : Int)) (kt : ¬ a = b → Runs d M tgt L S σ Q) (kf : a = b → Runs d M (pc + 3) L S σ Q) : Runs d M pc L (zI b :: zI a :: S) σ Q := by
  intro oL oS G p l e R s m args below meth c cells slots A QQ C H locs ls hW hl kk
  have hh : _ := n32_inj (okVs_hd (okVs_tl oS)) (okVs_hd oS)
  exact lv_icmp_ne C.1 C.2.1 hd ht (fun q => kt (fun z => q (hh.mpr z)) oL (okVs_tl (okVs_tl oS)) G p l e R s m args below meth c cells slots A QQ C H locs ls hW hl kk) (fun q => kf (hh.mp q) oL (okVs_tl (okVs_tl oS)) G p l e R s m args below meth c cells slots A QQ C H locs ls hW hl kk)
theorem r_icmp_lt {d : Nat} {M : Mt} {pc : Nat} {L S : List AV} {σ : Hp} {Q : Option Int → Hp → Prop} {a b off : Int} {tgt : Nat} (hd : decode M.2.1 pc = .ok (.if_icmp .lt off, 3)) (ht : (pc : Int) + off = (tgt : Int)) (kt : a < b → Runs d M tgt L S σ Q) (kf : ¬ a < b → Runs d M (pc + 3) L S σ Q) : Runs d M pc L (zI b :: zI a :: S) σ Q := by
  intro oL oS G p l e R s m args below meth c cells slots A QQ C H locs ls hW hl kk
  have hh : _ := n32_lt (okVs_hd (okVs_tl oS)) (okVs_hd oS)
  exact lv_icmp_lt C.1 C.2.1 hd ht (fun q => kt (hh.mp q) oL (okVs_tl (okVs_tl oS)) G p l e R s m args below meth c cells slots A QQ C H locs ls hW hl kk) (fun q => kf (fun z => q (hh.mpr z)) oL (okVs_tl (okVs_tl oS)) G p l e R s m args below meth c cells slots A QQ C H locs ls hW hl kk)
theorem r_icmp_ge {d : Nat} {M : Mt} {pc : Nat} {L S : List AV} {σ : Hp} {Q : Option Int → Hp → Prop} {a b off : Int} {tgt : Nat} (hd : decode M.2.1 pc = .ok (.if_icmp .ge off, 3)) (ht : (pc : Int) + off = (tgt : Int)) (kt : b ≤ a → Runs d M tgt L S σ Q) (kf : ¬ b ≤ a → Runs d M (pc + 3) L S σ Q) : Runs d M pc L (zI b :: zI a :: S) σ Q := by
  intro oL oS G p l e R s m args below meth c cells slots A QQ C H locs ls hW hl kk
  have hh : _ := n32_le (okVs_hd oS) (okVs_hd (okVs_tl oS))
  exact lv_icmp_ge C.1 C.2.1 hd ht (fun q => kt (hh.mp q) oL (okVs_tl (okVs_tl oS)) G p l e R s m args below meth c cells slots A QQ C H locs ls hW hl kk) (fun q => kf (fun z => q (hh.mpr z)) oL (okVs_tl (okVs_tl oS)) G p l e R s m args below meth c cells slots A QQ C H locs ls hW hl kk)
theorem r_icmp_gt {d : Nat} {M : Mt} {pc : Nat} {L S : List AV} {σ : Hp} {Q : Option Int → Hp → Prop} {a b off : Int} {tgt : Nat} (hd : decode M.2.1 pc = .ok (.if_icmp .gt off, 3)) (ht : (pc : Int) + off = (tgt : Int)) (kt : b < a → Runs d M tgt L S σ Q) (kf : ¬ b < a → Runs d M (pc + 3) L S σ Q) : Runs d M pc L (zI b :: zI a :: S) σ Q := by
  intro oL oS G p l e R s m args below meth c cells slots A QQ C H locs ls hW hl kk
  have hh : _ := n32_lt (okVs_hd oS) (okVs_hd (okVs_tl oS))
  exact lv_icmp_gt C.1 C.2.1 hd ht (fun q => kt (hh.mp q) oL (okVs_tl (okVs_tl oS)) G p l e R s m args below meth c cells slots A QQ C H locs ls hW hl kk) (fun q => kf (fun z => q (hh.mpr z)) oL (okVs_tl (okVs_tl oS)) G p l e R s m args below meth c cells slots A QQ C H locs ls hW hl kk)
theorem r_icmp_le {d : Nat} {M : Mt} {pc : Nat} {L S : List AV} {σ : Hp} {Q : Option Int → Hp → Prop} {a b off : Int} {tgt : Nat} (hd : decode M.2.1 pc = .ok (.if_icmp .le off, 3)) (ht : (pc : Int) + off = (tgt : Int)) (kt : a ≤ b → Runs d M tgt L S σ Q) (kf : ¬ a ≤ b → Runs d M (pc + 3) L S σ Q) : Runs d M pc L (zI b :: zI a :: S) σ Q := by
  intro oL oS G p l e R s m args below meth c cells slots A QQ C H locs ls hW hl kk
  have hh : _ := n32_le (okVs_hd (okVs_tl oS)) (okVs_hd oS)
  exact lv_icmp_le C.1 C.2.1 hd ht (fun q => kt (hh.mp q) oL (okVs_tl (okVs_tl oS)) G p l e R s m args below meth c cells slots A QQ C H locs ls hW hl kk) (fun q => kf (fun z => q (hh.mpr z)) oL (okVs_tl (okVs_tl oS)) G p l e R s m args below meth c cells slots A QQ C H locs ls hW hl kk)
theorem r_goto {d : Nat} {M : Mt} {pc : Nat} {L S : List AV} {σ : Hp} {Q : Option Int → Hp → Prop} {off : Int} {tgt : Nat} (hd : decode M.2.1 pc = .ok (.goto off, 3)) (ht : (pc : Int) + off = (tgt : Int)) (k : Runs d M tgt L S σ Q) : Runs d M pc L S σ Q := by
  intro oL oS G p l e R s m args below meth c cells slots A QQ C H locs ls hW hl kk
  exact lv_goto C.1 C.2.1 hd ht (k oL oS G p l e R s m args below meth c cells slots A QQ C H locs ls hW hl kk)
theorem r_tableOut {d : Nat} {M : Mt} {pc : Nat} {L S : List AV} {σ : Hp} {Q : Option Int → Hp → Prop} {a dflt lo hi : Int} {offs : Array Int} {len tgt : Nat} (hd : decode M.2.1 pc = .ok (.tableswitch dflt lo hi offs, len)) (h : a < lo ∨ hi < a) (ht : (pc : Int) + dflt = (tgt : Int)) (k : Runs d M tgt L S σ Q) : Runs d M pc L (zI a :: S) σ Q := by
  intro oL oS G p l e R s m args below meth c cells slots A QQ C H locs ls hW hl kk
  exact lv_tableOut C.1 C.2.1 hd (by rw [n32_canon (okVs_hd oS)]; exact h) ht (k oL (okVs_tl oS) G p l e R s m args below meth c cells slots A QQ C H locs ls hW hl kk)
theorem r_tableIn {d : Nat} {M : Mt} {pc : Nat} {L S : List AV} {σ : Hp} {Q : Option Int → Hp → Prop} {a dflt lo hi off : Int} {offs : Array Int} {len tgt : Nat} (hd : decode M.2.1 pc = .ok (.tableswitch dflt lo hi offs, len)) (h1 : lo ≤ a) (h2 : a ≤ hi) (ho : offs[(a - lo).toNat]? = some off) (ht : (pc : Int) + off = (tgt : Int)) (k : Runs d M tgt L S σ Q) : Runs d M pc L (zI a :: S) σ Q := by
  intro oL oS G p l e R s m args below meth c cells slots A QQ C H locs ls hW hl kk
  exact lv_tableIn C.1 C.2.1 hd (by rw [n32_canon (okVs_hd oS)]; omega) (by rw [n32_canon (okVs_hd oS)]; omega) (by rw [n32_canon (okVs_hd oS)]; exact ho) ht (k oL (okVs_tl oS) G p l e R s m args below meth c cells slots A QQ C H locs ls hW hl kk)
theorem r_lookup {d : Nat} {M : Mt} {pc : Nat} {L S : List AV} {σ : Hp} {Q : Option Int → Hp → Prop} {a dflt off : Int} {ps : Array (Int × Int)} {len tgt : Nat} (hd : decode M.2.1 pc = .ok (.lookupswitch dflt ps, len)) (hp : (ps.toList.zip (ps.toList.drop 1)).all (fun (a, next) => a.1 < next.1) = true) (ho : Op.lookupswitch.offset ps.toList dflt a = off) (ht : (pc : Int) + off = (tgt : Int)) (k : Runs d M tgt L S σ Q) : Runs d M pc L (zI a :: S) σ Q := by
  intro oL oS G p l e R s m args below meth c cells slots A QQ C H locs ls hW hl kk
  exact lv_lookup C.1 C.2.1 hd hp (by rw [n32_canon (okVs_hd oS)]; exact ho) ht (k oL (okVs_tl oS) G p l e R s m args below meth c cells slots A QQ C H locs ls hW hl kk)
theorem r_ret {d : Nat} {M : Mt} {pc : Nat} {L S : List AV} {σ : Hp} {Q : Option Int → Hp → Prop} {z : Int} (hd : decode M.2.1 pc = .ok (.ireturn, 1)) (hr : M.2.2.2.1 = some .int) (h : inR z → Q (some z) σ) : Runs d M pc L [zI z] σ Q := by
  intro oL oS G p l e R s m args below meth c cells slots A QQ C H locs ls hW hl kk
  exact kk (some z) σ H locs ls pc (h (okVs_hd oS)) ⟨⟨okVs_hd oS, Or.inl hr⟩, hd⟩ hW
theorem r_retz {d : Nat} {M : Mt} {pc : Nat} {L S : List AV} {σ : Hp} {Q : Option Int → Hp → Prop} {z : Int} (hd : decode M.2.1 pc = .ok (.ireturn, 1)) (hr : M.2.2.2.1 = some .boolean) (hz : z = 0 ∨ z = 1) (h : Q (some z) σ) : Runs d M pc L [zI z] σ Q := by
  intro oL oS G p l e R s m args below meth c cells slots A QQ C H locs ls hW hl kk
  exact kk (some z) σ H locs ls pc h ⟨⟨okVs_hd oS, Or.inr ⟨hr, hz⟩⟩, hd⟩ hW
theorem r_retv {d : Nat} {M : Mt} {pc : Nat} {L S : List AV} {σ : Hp} {Q : Option Int → Hp → Prop} (hd : decode M.2.1 pc = .ok (.return_, 1)) (hr : M.2.2.2.1 = none) (h : Q none σ) : Runs d M pc L [] σ Q := by
  intro oL oS G p l e R s m args below meth c cells slots A QQ C H locs ls hW hl kk
  exact kk none σ H locs ls pc h ⟨hr, hd⟩ hW
/-! a stretch of instructions without branches and calls -/
abbrev Ins : Type := Instr × Nat × Nat × Int
abbrev XR : Type := Option (List AV × List AV × Hp × List Prop)
abbrev qO (i : Instr) : Ins := (i, 0, 0, 0)
abbrev qF (i : Instr) (c k : Nat) : Ins := (i, c, k, 0)
abbrev qC (i : Instr) (v : Int) : Ins := (i, 0, 0, v)
def x_iconst (n : Int) (L S : List AV) (σ : Hp) (c k : Nat) (v : Int) : XR := some (L, zI n :: S, σ, [])
def x_bipush (n : Int) (L S : List AV) (σ : Hp) (c k : Nat) (v : Int) : XR := some (L, zI n :: S, σ, [])
def x_sipush (n : Int) (L S : List AV) (σ : Hp) (c k : Nat) (v : Int) : XR := some (L, zI n :: S, σ, [])
def x_ldc (i : Nat) (L S : List AV) (σ : Hp) (c k : Nat) (v : Int) : XR := some (L, zI v :: S, σ, [])
def x_ldc_w (i : Nat) (L S : List AV) (σ : Hp) (c k : Nat) (v : Int) : XR := some (L, zI v :: S, σ, [])
def x_ldc2_w (i : Nat) (L S : List AV) (σ : Hp) (c k : Nat) (v : Int) : XR := some (L, zJ (Int64.ofInt v) :: S, σ, [])
def x_iload (i : Nat) (L S : List AV) (σ : Hp) (c k : Nat) (v : Int) : XR := match L[i]? with
  | some (.inl z) => some (L, zI z :: S, σ, [])
  | _ => none
def x_iload_n (i : Fin 4) (L S : List AV) (σ : Hp) (c k : Nat) (v : Int) : XR := match L[i.val]? with
  | some (.inl z) => some (L, zI z :: S, σ, [])
  | _ => none
def x_aload (i : Nat) (L S : List AV) (σ : Hp) (c k : Nat) (v : Int) : XR := match L[i]? with
  | some (.inr (.inl (g, x))) => some (L, zR g x :: S, σ, [])
  | _ => none
def x_aload_n (i : Fin 4) (L S : List AV) (σ : Hp) (c k : Nat) (v : Int) : XR := match L[i.val]? with
  | some (.inr (.inl (g, x))) => some (L, zR g x :: S, σ, [])
  | _ => none
def x_lload_n (i : Fin 4) (L S : List AV) (σ : Hp) (c k : Nat) (v : Int) : XR := match L[i.val]? with
  | some (.inr (.inr (.inl x))) => some (L, zJ x :: S, σ, [])
  | _ => none
def x_istore (i : Nat) (L S : List AV) (σ : Hp) (c k : Nat) (v : Int) : XR := match S with
  | .inl z :: S => if noJ L i = true ∧ i < L.length then some (L.set i (zI z), S, σ, []) else none
  | _ => none
def x_istore_n (i : Fin 4) (L S : List AV) (σ : Hp) (c k : Nat) (v : Int) : XR := match S with
  | .inl z :: S => if noJ L i.val = true ∧ i.val < L.length then some (L.set i.val (zI z), S, σ, []) else none
  | _ => none
def x_iinc (i : Nat) (n : Int) (L S : List AV) (σ : Hp) (c k : Nat) (v : Int) : XR := match L[i]? with
  | some (.inl z) => if noJ L i = true ∧ i < L.length then some (L.set i (zI (wrap (z + n))), S, σ, []) else none
  | _ => none
def x_iadd (L S : List AV) (σ : Hp) (c k : Nat) (v : Int) : XR := match S with
  | .inl b :: .inl a :: S => some (L, zI (wrap (a + b)) :: S, σ, [])
  | _ => none
def x_isub (L S : List AV) (σ : Hp) (c k : Nat) (v : Int) : XR := match S with
  | .inl b :: .inl a :: S => some (L, zI (wrap (a - b)) :: S, σ, [])
  | _ => none
def x_imul (L S : List AV) (σ : Hp) (c k : Nat) (v : Int) : XR := match S with
  | .inl b :: .inl a :: S => some (L, zI (wrap (a * b)) :: S, σ, [])
  | _ => none
def x_iand (L S : List AV) (σ : Hp) (c k : Nat) (v : Int) : XR := match S with
  | .inl b :: .inl a :: S => some (L, zI (zand a b) :: S, σ, [])
  | _ => none
def x_ior (L S : List AV) (σ : Hp) (c k : Nat) (v : Int) : XR := match S with
  | .inl b :: .inl a :: S => some (L, zI (zor a b) :: S, σ, [])
  | _ => none
def x_ixor (L S : List AV) (σ : Hp) (c k : Nat) (v : Int) : XR := match S with
  | .inl b :: .inl a :: S => some (L, zI (zxor a b) :: S, σ, [])
  | _ => none
def x_ishl (L S : List AV) (σ : Hp) (c k : Nat) (v : Int) : XR := match S with
  | .inl b :: .inl a :: S => some (L, zI (zshl a b) :: S, σ, [])
  | _ => none
def x_ishr (L S : List AV) (σ : Hp) (c k : Nat) (v : Int) : XR := match S with
  | .inl b :: .inl a :: S => some (L, zI (zshr a b) :: S, σ, [])
  | _ => none
def x_iushr (L S : List AV) (σ : Hp) (c k : Nat) (v : Int) : XR := match S with
  | .inl b :: .inl a :: S => some (L, zI (zushr a b) :: S, σ, [])
  | _ => none
def x_ineg (L S : List AV) (σ : Hp) (c k : Nat) (v : Int) : XR := match S with
  | .inl a :: S => some (L, zI (wrap (-a)) :: S, σ, [])
  | _ => none
def x_idiv (L S : List AV) (σ : Hp) (c k : Nat) (v : Int) : XR := match S with
  | .inl b :: .inl a :: S => some (L, zI (zdiv a b) :: S, σ, [b ≠ 0])
  | _ => none
def x_irem (L S : List AV) (σ : Hp) (c k : Nat) (v : Int) : XR := match S with
  | .inl b :: .inl a :: S => some (L, zI (zrem a b) :: S, σ, [b ≠ 0])
  | _ => none
def x_i2l (L S : List AV) (σ : Hp) (c k : Nat) (v : Int) : XR := match S with
  | .inl a :: S => some (L, zJ (zi2l a) :: S, σ, [])
  | _ => none
def x_l2i (L S : List AV) (σ : Hp) (c k : Nat) (v : Int) : XR := match S with
  | .inr (.inr (.inl x)) :: S => some (L, zI (zl2i x) :: S, σ, [])
  | _ => none
def x_lshl (L S : List AV) (σ : Hp) (c k : Nat) (v : Int) : XR := match S with
  | .inl b :: .inr (.inr (.inl x)) :: S => some (L, zJ (zlshl x b) :: S, σ, [])
  | _ => none
def x_lshr (L S : List AV) (σ : Hp) (c k : Nat) (v : Int) : XR := match S with
  | .inl b :: .inr (.inr (.inl x)) :: S => some (L, zJ (zlshr x b) :: S, σ, [])
  | _ => none
def x_lushr (L S : List AV) (σ : Hp) (c k : Nat) (v : Int) : XR := match S with
  | .inl b :: .inr (.inr (.inl x)) :: S => some (L, zJ (zlushr x b) :: S, σ, [])
  | _ => none
def x_land (L S : List AV) (σ : Hp) (c k : Nat) (v : Int) : XR := match S with
  | .inr (.inr (.inl y)) :: .inr (.inr (.inl x)) :: S => some (L, zJ (x &&& y) :: S, σ, [])
  | _ => none
def x_lor (L S : List AV) (σ : Hp) (c k : Nat) (v : Int) : XR := match S with
  | .inr (.inr (.inl y)) :: .inr (.inr (.inl x)) :: S => some (L, zJ (x ||| y) :: S, σ, [])
  | _ => none
def x_dup (L S : List AV) (σ : Hp) (c k : Nat) (v : Int) : XR := match S with
  | w :: S => if cat1 w = true then some (L, w :: w :: S, σ, []) else none
  | _ => none
def x_dup2 (L S : List AV) (σ : Hp) (c k : Nat) (v : Int) : XR := match S with
  | w :: y :: S => if cat1 w = true ∧ cat1 y = true then some (L, w :: y :: w :: y :: S, σ, []) else none
  | _ => none
def x_getfield (i : Nat) (L S : List AV) (σ : Hp) (c k : Nat) (v : Int) : XR := match S with
  | .inr (.inl (g, x)) :: S => if (shp g).1 = c + 3 then (match (shp g).2.2.2[k]? with
    | some f => some (L, fA σ g x k f :: S, σ, [])
    | none => none) else none
  | _ => none
def x_putfield (i : Nat) (L S : List AV) (σ : Hp) (c k : Nat) (v : Int) : XR := match S with
  | .inl w :: .inr (.inl (g, x)) :: S => if (shp g).1 = c + 3 then (match (shp g).2.2.2[k]? with
    | some (0, _) => some (L, S, zup σ g x k w, [])
    | some (1, _) => some (L, S, zup σ g x k w, [w = 0 ∨ w = 1])
    | _ => none) else none
  | _ => none
def x_getstatic (i : Nat) (L S : List AV) (σ : Hp) (c k : Nat) (v : Int) : XR := some (L, zR c 0 :: S, σ, [])
def x_iaload (L S : List AV) (σ : Hp) (c k : Nat) (v : Int) : XR := match S with
  | .inl i :: .inr (.inl (g, x)) :: S => (match (shp g).1, x with
    | 0, x => some (L, zI (σ g x i.toNat) :: S, σ, [0 ≤ i ∧ i < ((shp g).2.2.1 : Int)])
    | 40, 0 => if g = 60 then some (L, zI (σ 60 0 i.toNat) :: S, σ, [0 ≤ i ∧ i < σ 60 1 0]) else none
    | 41, 0 => if g = 61 ∨ g = 62 then some (L, zI (σ g 0 i.toNat) :: S, σ, [0 ≤ i ∧ i < 4]) else none
    | _, _ => none)
  | _ => none
def x_iastore (L S : List AV) (σ : Hp) (c k : Nat) (v : Int) : XR := match S with
  | .inl w :: .inl i :: .inr (.inl (g, x)) :: S => if (shp g).1 = 0 then some (L, S, zup σ g x i.toNat w, [0 ≤ i ∧ i < ((shp g).2.2.1 : Int)]) else none
  | _ => none
def x_baload (L S : List AV) (σ : Hp) (c k : Nat) (v : Int) : XR := match S with
  | .inl i :: .inr (.inl (g, x)) :: S => if (shp g).1 = 1 then some (L, zI (σ g x i.toNat) :: S, σ, [0 ≤ i ∧ i < ((shp g).2.2.1 : Int)]) else none
  | _ => none
def x_bastore (L S : List AV) (σ : Hp) (c k : Nat) (v : Int) : XR := match S with
  | .inl w :: .inl i :: .inr (.inl (g, x)) :: S => if (shp g).1 = 1 then some (L, S, zup σ g x i.toNat w, [0 ≤ i ∧ i < ((shp g).2.2.1 : Int), w = 0 ∨ w = 1]) else none
  | _ => none
def x_aaload (L S : List AV) (σ : Hp) (c k : Nat) (v : Int) : XR := match S with
  | .inl i :: .inr (.inl (g, x)) :: S => if (shp g).1 = 2 then some (L, zR (tgtG g) i.toNat :: S, σ, [0 ≤ i ∧ i < ((shp g).2.2.1 : Int)]) else none
  | _ => none
def x_arraylength (L S : List AV) (σ : Hp) (c k : Nat) (v : Int) : XR := match S with
  | .inr (.inl (g, x)) :: S => (match (shp g).1, x with
    | 0, x => some (L, zI ((shp g).2.2.1 : Int) :: S, σ, [])
    | 40, 0 => if g = 60 then some (L, zI (σ 60 1 0) :: S, σ, []) else none
    | _, _ => none)
  | _ => none
def x_goto (n : Int) (L S : List AV) (σ : Hp) (c k : Nat) (v : Int) : XR := some (L, S, σ, [])
def lnkC (M : Mt) (idx : Nat) (v : Int) : Bool := cTab.any (fun e => e.1 == M.2.2.2.2 && e.2.1 == idx && e.2.2.1 == v) && decide (ownN M.2.2.2.2 = M.1.cls)
theorem lnkC_ok {M : Mt} {idx : Nat} {v : Int} (h : lnkC M idx v = true) : Cond.constant M.1.cls idx (n32 v) ∈ gTbl ∧ inR v := by
  unfold lnkC at h
  simp only [Bool.and_eq_true, decide_eq_true_eq] at h
  obtain ⟨e, he, h1⟩ := List.any_eq_true.mp h.1
  simp only [Bool.and_eq_true, beq_iff_eq] at h1
  obtain ⟨⟨a1, a2⟩, a3⟩ := h1
  have h2 := List.all_eq_true.mp cTab_ok e he
  simp only [Bool.and_eq_true, decide_eq_true_eq] at h2
  obtain ⟨⟨b1, b2⟩, b3⟩ := h2
  have h3 := gTbl_in b1 b2
  unfold cW at h3
  rw [a1, a2, a3, h.2] at h3
  rw [a3] at b3
  exact ⟨h3, b3⟩
def lnkJ (M : Mt) (idx : Nat) (v : Int) : Bool := jTab.any (fun e => e.1 == M.2.2.2.2 && e.2.1 == idx && e.2.2.1 == v) && decide (ownN M.2.2.2.2 = M.1.cls)
theorem lnkJ_ok {M : Mt} {idx : Nat} {v : Int} (h : lnkJ M idx v = true) : Cond.constantLong M.1.cls idx (Int64.ofInt v) ∈ gTbl := by
  unfold lnkJ at h
  simp only [Bool.and_eq_true, decide_eq_true_eq] at h
  obtain ⟨e, he, h1⟩ := List.any_eq_true.mp h.1
  simp only [Bool.and_eq_true, beq_iff_eq] at h1
  obtain ⟨⟨a1, a2⟩, a3⟩ := h1
  have h2 := List.all_eq_true.mp jTab_ok e he
  simp only [Bool.and_eq_true, decide_eq_true_eq] at h2
  have h3 := gTbl_in h2.1 h2.2
  unfold jW at h3
  rw [a1, a2, a3, h.2] at h3
  exact h3
def ex1 (i : Instr) (c k : Nat) (v : Int) (L S : List AV) (σ : Hp) : XR := match i with
  | .iconst n => x_iconst n L S σ c k v
  | .bipush n => x_bipush n L S σ c k v
  | .sipush n => x_sipush n L S σ c k v
  | .ldc i => x_ldc i L S σ c k v
  | .ldc_w i => x_ldc_w i L S σ c k v
  | .ldc2_w i => x_ldc2_w i L S σ c k v
  | .iload i => x_iload i L S σ c k v
  | .iload_n i => x_iload_n i L S σ c k v
  | .aload i => x_aload i L S σ c k v
  | .aload_n i => x_aload_n i L S σ c k v
  | .lload_n i => x_lload_n i L S σ c k v
  | .istore i => x_istore i L S σ c k v
  | .istore_n i => x_istore_n i L S σ c k v
  | .iinc i n => x_iinc i n L S σ c k v
  | .iadd => x_iadd L S σ c k v
  | .isub => x_isub L S σ c k v
  | .imul => x_imul L S σ c k v
  | .iand => x_iand L S σ c k v
  | .ior => x_ior L S σ c k v
  | .ixor => x_ixor L S σ c k v
  | .ishl => x_ishl L S σ c k v
  | .ishr => x_ishr L S σ c k v
  | .iushr => x_iushr L S σ c k v
  | .ineg => x_ineg L S σ c k v
  | .idiv => x_idiv L S σ c k v
  | .irem => x_irem L S σ c k v
  | .i2l => x_i2l L S σ c k v
  | .l2i => x_l2i L S σ c k v
  | .lshl => x_lshl L S σ c k v
  | .lshr => x_lshr L S σ c k v
  | .lushr => x_lushr L S σ c k v
  | .land => x_land L S σ c k v
  | .lor => x_lor L S σ c k v
  | .dup => x_dup L S σ c k v
  | .dup2 => x_dup2 L S σ c k v
  | .getfield i => x_getfield i L S σ c k v
  | .putfield i => x_putfield i L S σ c k v
  | .getstatic i => x_getstatic i L S σ c k v
  | .iaload => x_iaload L S σ c k v
  | .iastore => x_iastore L S σ c k v
  | .baload => x_baload L S σ c k v
  | .bastore => x_bastore L S σ c k v
  | .aaload => x_aaload L S σ c k v
  | .arraylength => x_arraylength L S σ c k v
  | .goto n => x_goto n L S σ c k v
  | _ => none
def nxt (M : Mt) (i : Instr) (c k : Nat) (v : Int) (pc len : Nat) : Option Nat := match i with
  | .iconst n => if len = 1 ∧ (-2147483648 ≤ n ∧ n ≤ 2147483647) then some (pc + 1) else none
  | .bipush n => if len = 2 ∧ (-128 ≤ n ∧ n ≤ 127) then some (pc + 2) else none
  | .sipush n => if len = 3 ∧ (-32768 ≤ n ∧ n ≤ 32767) then some (pc + 3) else none
  | .ldc i => if len = 2 ∧ lnkC M i v = true then some (pc + 2) else none
  | .ldc_w i => if len = 3 ∧ lnkC M i v = true then some (pc + 3) else none
  | .ldc2_w i => if len = 3 ∧ lnkJ M i v = true then some (pc + 3) else none
  | .iload i => if len = 2 then some (pc + 2) else none
  | .iload_n i => if len = 1 then some (pc + 1) else none
  | .aload i => if len = 2 then some (pc + 2) else none
  | .aload_n i => if len = 1 then some (pc + 1) else none
  | .lload_n i => if len = 1 then some (pc + 1) else none
  | .istore i => if len = 2 then some (pc + 2) else none
  | .istore_n i => if len = 1 then some (pc + 1) else none
  | .iinc i n => if len = 3 then some (pc + 3) else none
  | .iadd => if len = 1 then some (pc + 1) else none
  | .isub => if len = 1 then some (pc + 1) else none
  | .imul => if len = 1 then some (pc + 1) else none
  | .iand => if len = 1 then some (pc + 1) else none
  | .ior => if len = 1 then some (pc + 1) else none
  | .ixor => if len = 1 then some (pc + 1) else none
  | .ishl => if len = 1 then some (pc + 1) else none
  | .ishr => if len = 1 then some (pc + 1) else none
  | .iushr => if len = 1 then some (pc + 1) else none
  | .ineg => if len = 1 then some (pc + 1) else none
  | .idiv => if len = 1 then some (pc + 1) else none
  | .irem => if len = 1 then some (pc + 1) else none
  | .i2l => if len = 1 then some (pc + 1) else none
  | .l2i => if len = 1 then some (pc + 1) else none
  | .lshl => if len = 1 then some (pc + 1) else none
  | .lshr => if len = 1 then some (pc + 1) else none
  | .lushr => if len = 1 then some (pc + 1) else none
  | .land => if len = 1 then some (pc + 1) else none
  | .lor => if len = 1 then some (pc + 1) else none
  | .dup => if len = 1 then some (pc + 1) else none
  | .dup2 => if len = 1 then some (pc + 1) else none
  | .getfield i => if len = 3 ∧ lnkF M i c k = true then some (pc + 3) else none
  | .putfield i => if len = 3 ∧ (lnkF M i c k = true ∧ ((clsT c).2.1 k).2.2.2 = false) then some (pc + 3) else none
  | .getstatic i => if len = 3 ∧ lnkS M i c = true then some (pc + 3) else none
  | .iaload => if len = 1 then some (pc + 1) else none
  | .iastore => if len = 1 then some (pc + 1) else none
  | .baload => if len = 1 then some (pc + 1) else none
  | .bastore => if len = 1 then some (pc + 1) else none
  | .aaload => if len = 1 then some (pc + 1) else none
  | .arraylength => if len = 1 then some (pc + 1) else none
  | .goto n => if len = 3 ∧ 0 ≤ (pc : Int) + n then some ((pc : Int) + n).toNat else none
  | _ => none
def andL : List Prop → Prop
  | [] => True
  | p :: r => p ∧ andL r
theorem ex1_sound {d : Nat} {M : Mt} {pc : Nat} {L S : List AV} {σ : Hp} {Q : Option Int → Hp → Prop} {i : Instr} {c k : Nat} {v : Int} {len pc' : Nat} {L' S' : List AV} {σ' : Hp} {Ps : List Prop} (hd : decode M.2.1 pc = .ok (i, len)) (hn : nxt M i c k v pc len = some pc') (he : ex1 i c k v L S σ = some (L', S', σ', Ps)) (hp : andL Ps) (h : Runs d M pc' L' S' σ' Q) : Runs d M pc L S σ Q := by
  cases i with
  | iconst n =>
    replace he : x_iconst n L S σ c k v = some (L', S', σ', Ps) := he
    simp only [nxt, Option.ite_none_right_eq_some, Option.some.injEq] at hn
    obtain ⟨hc, rfl⟩ := hn
    obtain ⟨rfl, hc⟩ := hc
    unfold x_iconst at he
    cases he; exact s_iconst hc hd h
  | bipush n =>
    replace he : x_bipush n L S σ c k v = some (L', S', σ', Ps) := he
    simp only [nxt, Option.ite_none_right_eq_some, Option.some.injEq] at hn
    obtain ⟨hc, rfl⟩ := hn
    obtain ⟨rfl, hc⟩ := hc
    unfold x_bipush at he
    cases he; exact s_bipush hc hd h
  | sipush n =>
    replace he : x_sipush n L S σ c k v = some (L', S', σ', Ps) := he
    simp only [nxt, Option.ite_none_right_eq_some, Option.some.injEq] at hn
    obtain ⟨hc, rfl⟩ := hn
    obtain ⟨rfl, hc⟩ := hc
    unfold x_sipush at he
    cases he; exact s_sipush hc hd h
  | ldc i =>
    replace he : x_ldc i L S σ c k v = some (L', S', σ', Ps) := he
    simp only [nxt, Option.ite_none_right_eq_some, Option.some.injEq] at hn
    obtain ⟨hc, rfl⟩ := hn
    obtain ⟨rfl, hc⟩ := hc
    unfold x_ldc at he
    cases he; exact s_ldc (lnkC_ok hc).2 (lnkC_ok hc).1 hd h
  | ldc_w i =>
    replace he : x_ldc_w i L S σ c k v = some (L', S', σ', Ps) := he
    simp only [nxt, Option.ite_none_right_eq_some, Option.some.injEq] at hn
    obtain ⟨hc, rfl⟩ := hn
    obtain ⟨rfl, hc⟩ := hc
    unfold x_ldc_w at he
    cases he; exact s_ldcw (lnkC_ok hc).2 (lnkC_ok hc).1 hd h
  | ldc2_w i =>
    replace he : x_ldc2_w i L S σ c k v = some (L', S', σ', Ps) := he
    simp only [nxt, Option.ite_none_right_eq_some, Option.some.injEq] at hn
    obtain ⟨hc, rfl⟩ := hn
    obtain ⟨rfl, hc⟩ := hc
    unfold x_ldc2_w at he
    cases he; exact s_ldc2 (lnkJ_ok hc) hd h
  | iload i =>
    replace he : x_iload i L S σ c k v = some (L', S', σ', Ps) := he
    simp only [nxt, Option.ite_none_right_eq_some, Option.some.injEq] at hn
    obtain ⟨hc, rfl⟩ := hn
    subst hc
    unfold x_iload at he
    split at he
    · rename_i hz; cases he; exact s_iload hz hd h
    · cases he
  | iload_n i =>
    replace he : x_iload_n i L S σ c k v = some (L', S', σ', Ps) := he
    simp only [nxt, Option.ite_none_right_eq_some, Option.some.injEq] at hn
    obtain ⟨hc, rfl⟩ := hn
    subst hc
    unfold x_iload_n at he
    split at he
    · rename_i hz; cases he; exact s_iloadn hz hd h
    · cases he
  | aload i =>
    replace he : x_aload i L S σ c k v = some (L', S', σ', Ps) := he
    simp only [nxt, Option.ite_none_right_eq_some, Option.some.injEq] at hn
    obtain ⟨hc, rfl⟩ := hn
    subst hc
    unfold x_aload at he
    split at he
    · rename_i hz; cases he; exact s_aload hz hd h
    · cases he
  | aload_n i =>
    replace he : x_aload_n i L S σ c k v = some (L', S', σ', Ps) := he
    simp only [nxt, Option.ite_none_right_eq_some, Option.some.injEq] at hn
    obtain ⟨hc, rfl⟩ := hn
    subst hc
    unfold x_aload_n at he
    split at he
    · rename_i hz; cases he; exact s_aloadn hz hd h
    · cases he
  | lload_n i =>
    replace he : x_lload_n i L S σ c k v = some (L', S', σ', Ps) := he
    simp only [nxt, Option.ite_none_right_eq_some, Option.some.injEq] at hn
    obtain ⟨hc, rfl⟩ := hn
    subst hc
    unfold x_lload_n at he
    split at he
    · rename_i hz; cases he; exact s_lloadn hz hd h
    · cases he
  | istore i =>
    replace he : x_istore i L S σ c k v = some (L', S', σ', Ps) := he
    simp only [nxt, Option.ite_none_right_eq_some, Option.some.injEq] at hn
    obtain ⟨hc, rfl⟩ := hn
    subst hc
    unfold x_istore at he
    split at he
    · split at he
      · rename_i hj; cases he; exact s_istore hj.1 hj.2 hd h
      · cases he
    · cases he
  | istore_n i =>
    replace he : x_istore_n i L S σ c k v = some (L', S', σ', Ps) := he
    simp only [nxt, Option.ite_none_right_eq_some, Option.some.injEq] at hn
    obtain ⟨hc, rfl⟩ := hn
    subst hc
    unfold x_istore_n at he
    split at he
    · split at he
      · rename_i hj; cases he; exact s_istoren hj.1 hj.2 hd h
      · cases he
    · cases he
  | iinc i n =>
    replace he : x_iinc i n L S σ c k v = some (L', S', σ', Ps) := he
    simp only [nxt, Option.ite_none_right_eq_some, Option.some.injEq] at hn
    obtain ⟨hc, rfl⟩ := hn
    subst hc
    unfold x_iinc at he
    split at he
    · rename_i hz; split at he
      · rename_i hj; cases he; exact s_iinc hz hj.1 hj.2 hd h
      · cases he
    · cases he
  | iadd =>
    replace he : x_iadd L S σ c k v = some (L', S', σ', Ps) := he
    simp only [nxt, Option.ite_none_right_eq_some, Option.some.injEq] at hn
    obtain ⟨hc, rfl⟩ := hn
    subst hc
    unfold x_iadd at he
    split at he
    · cases he; exact s_iadd  hd h
    · cases he
  | isub =>
    replace he : x_isub L S σ c k v = some (L', S', σ', Ps) := he
    simp only [nxt, Option.ite_none_right_eq_some, Option.some.injEq] at hn
    obtain ⟨hc, rfl⟩ := hn
    subst hc
    unfold x_isub at he
    split at he
    · cases he; exact s_isub  hd h
    · cases he
  | imul =>
    replace he : x_imul L S σ c k v = some (L', S', σ', Ps) := he
    simp only [nxt, Option.ite_none_right_eq_some, Option.some.injEq] at hn
    obtain ⟨hc, rfl⟩ := hn
    subst hc
    unfold x_imul at he
    split at he
    · cases he; exact s_imul  hd h
    · cases he
  | iand =>
    replace he : x_iand L S σ c k v = some (L', S', σ', Ps) := he
    simp only [nxt, Option.ite_none_right_eq_some, Option.some.injEq] at hn
    obtain ⟨hc, rfl⟩ := hn
    subst hc
    unfold x_iand at he
    split at he
    · cases he; exact s_iand  hd h
    · cases he
  | ior =>
    replace he : x_ior L S σ c k v = some (L', S', σ', Ps) := he
    simp only [nxt, Option.ite_none_right_eq_some, Option.some.injEq] at hn
    obtain ⟨hc, rfl⟩ := hn
    subst hc
    unfold x_ior at he
    split at he
    · cases he; exact s_ior  hd h
    · cases he
  | ixor =>
    replace he : x_ixor L S σ c k v = some (L', S', σ', Ps) := he
    simp only [nxt, Option.ite_none_right_eq_some, Option.some.injEq] at hn
    obtain ⟨hc, rfl⟩ := hn
    subst hc
    unfold x_ixor at he
    split at he
    · cases he; exact s_ixor  hd h
    · cases he
  | ishl =>
    replace he : x_ishl L S σ c k v = some (L', S', σ', Ps) := he
    simp only [nxt, Option.ite_none_right_eq_some, Option.some.injEq] at hn
    obtain ⟨hc, rfl⟩ := hn
    subst hc
    unfold x_ishl at he
    split at he
    · cases he; exact s_ishl  hd h
    · cases he
  | ishr =>
    replace he : x_ishr L S σ c k v = some (L', S', σ', Ps) := he
    simp only [nxt, Option.ite_none_right_eq_some, Option.some.injEq] at hn
    obtain ⟨hc, rfl⟩ := hn
    subst hc
    unfold x_ishr at he
    split at he
    · cases he; exact s_ishr  hd h
    · cases he
  | iushr =>
    replace he : x_iushr L S σ c k v = some (L', S', σ', Ps) := he
    simp only [nxt, Option.ite_none_right_eq_some, Option.some.injEq] at hn
    obtain ⟨hc, rfl⟩ := hn
    subst hc
    unfold x_iushr at he
    split at he
    · cases he; exact s_iushr  hd h
    · cases he
  | ineg =>
    replace he : x_ineg L S σ c k v = some (L', S', σ', Ps) := he
    simp only [nxt, Option.ite_none_right_eq_some, Option.some.injEq] at hn
    obtain ⟨hc, rfl⟩ := hn
    subst hc
    unfold x_ineg at he
    split at he
    · cases he; exact s_ineg  hd h
    · cases he
  | idiv =>
    replace he : x_idiv L S σ c k v = some (L', S', σ', Ps) := he
    simp only [nxt, Option.ite_none_right_eq_some, Option.some.injEq] at hn
    obtain ⟨hc, rfl⟩ := hn
    subst hc
    unfold x_idiv at he
    split at he
    · cases he; exact s_idiv hp.1 hd h
    · cases he
  | irem =>
    replace he : x_irem L S σ c k v = some (L', S', σ', Ps) := he
    simp only [nxt, Option.ite_none_right_eq_some, Option.some.injEq] at hn
    obtain ⟨hc, rfl⟩ := hn
    subst hc
    unfold x_irem at he
    split at he
    · cases he; exact s_irem hp.1 hd h
    · cases he
  | i2l =>
    replace he : x_i2l L S σ c k v = some (L', S', σ', Ps) := he
    simp only [nxt, Option.ite_none_right_eq_some, Option.some.injEq] at hn
    obtain ⟨hc, rfl⟩ := hn
    subst hc
    unfold x_i2l at he
    split at he
    · cases he; exact s_i2l  hd h
    · cases he
  | l2i =>
    replace he : x_l2i L S σ c k v = some (L', S', σ', Ps) := he
    simp only [nxt, Option.ite_none_right_eq_some, Option.some.injEq] at hn
    obtain ⟨hc, rfl⟩ := hn
    subst hc
    unfold x_l2i at he
    split at he
    · cases he; exact s_l2i  hd h
    · cases he
  | lshl =>
    replace he : x_lshl L S σ c k v = some (L', S', σ', Ps) := he
    simp only [nxt, Option.ite_none_right_eq_some, Option.some.injEq] at hn
    obtain ⟨hc, rfl⟩ := hn
    subst hc
    unfold x_lshl at he
    split at he
    · cases he; exact s_lshl  hd h
    · cases he
  | lshr =>
    replace he : x_lshr L S σ c k v = some (L', S', σ', Ps) := he
    simp only [nxt, Option.ite_none_right_eq_some, Option.some.injEq] at hn
    obtain ⟨hc, rfl⟩ := hn
    subst hc
    unfold x_lshr at he
    split at he
    · cases he; exact s_lshr  hd h
    · cases he
  | lushr =>
    replace he : x_lushr L S σ c k v = some (L', S', σ', Ps) := he
    simp only [nxt, Option.ite_none_right_eq_some, Option.some.injEq] at hn
    obtain ⟨hc, rfl⟩ := hn
    subst hc
    unfold x_lushr at he
    split at he
    · cases he; exact s_lushr  hd h
    · cases he
  | land =>
    replace he : x_land L S σ c k v = some (L', S', σ', Ps) := he
    simp only [nxt, Option.ite_none_right_eq_some, Option.some.injEq] at hn
    obtain ⟨hc, rfl⟩ := hn
    subst hc
    unfold x_land at he
    split at he
    · cases he; exact s_land  hd h
    · cases he
  | lor =>
    replace he : x_lor L S σ c k v = some (L', S', σ', Ps) := he
    simp only [nxt, Option.ite_none_right_eq_some, Option.some.injEq] at hn
    obtain ⟨hc, rfl⟩ := hn
    subst hc
    unfold x_lor at he
    split at he
    · cases he; exact s_lor  hd h
    · cases he
  | dup =>
    replace he : x_dup L S σ c k v = some (L', S', σ', Ps) := he
    simp only [nxt, Option.ite_none_right_eq_some, Option.some.injEq] at hn
    obtain ⟨hc, rfl⟩ := hn
    subst hc
    unfold x_dup at he
    split at he
    · split at he
      · rename_i hj; cases he; exact s_dup hj hd h
      · cases he
    · cases he
  | dup2 =>
    replace he : x_dup2 L S σ c k v = some (L', S', σ', Ps) := he
    simp only [nxt, Option.ite_none_right_eq_some, Option.some.injEq] at hn
    obtain ⟨hc, rfl⟩ := hn
    subst hc
    unfold x_dup2 at he
    split at he
    · split at he
      · rename_i hj; cases he; exact s_dup2 hj.1 hj.2 hd h
      · cases he
    · cases he
  | getfield i =>
    replace he : x_getfield i L S σ c k v = some (L', S', σ', Ps) := he
    simp only [nxt, Option.ite_none_right_eq_some, Option.some.injEq] at hn
    obtain ⟨hc, rfl⟩ := hn
    obtain ⟨rfl, hc⟩ := hc
    unfold x_getfield at he
    split at he
    · split at he
      · rename_i hk; split at he
        · rename_i hf; cases he; exact s_getfield hc hk hf hd h
        · cases he
      · cases he
    · cases he
  | putfield i =>
    replace he : x_putfield i L S σ c k v = some (L', S', σ', Ps) := he
    simp only [nxt, Option.ite_none_right_eq_some, Option.some.injEq] at hn
    obtain ⟨hc, rfl⟩ := hn
    obtain ⟨rfl, hc⟩ := hc
    unfold x_putfield at he
    split at he
    · split at he
      · rename_i hk; split at he
        · rename_i hf; cases he; exact s_putfield hc.1 hc.2 hk hf (Or.inl rfl) hd h
        · rename_i hf; cases he; exact s_putfield hc.1 hc.2 hk hf (Or.inr ⟨rfl, hp.1⟩) hd h
        · cases he
      · cases he
    · cases he
  | getstatic i =>
    replace he : x_getstatic i L S σ c k v = some (L', S', σ', Ps) := he
    simp only [nxt, Option.ite_none_right_eq_some, Option.some.injEq] at hn
    obtain ⟨hc, rfl⟩ := hn
    obtain ⟨rfl, hc⟩ := hc
    unfold x_getstatic at he
    cases he; exact s_getstatic hc hd h
  | iaload =>
    replace he : x_iaload L S σ c k v = some (L', S', σ', Ps) := he
    simp only [nxt, Option.ite_none_right_eq_some, Option.some.injEq] at hn
    obtain ⟨hc, rfl⟩ := hn
    subst hc
    unfold x_iaload at he
    split at he
    · split at he
      · rename_i hk; cases he; exact s_iaload hk hp.1 hd h
      · split at he
        · rename_i hg; cases he; subst hg; exact s_sload hp.1 hd h
        · cases he
      · split at he
        · rename_i hg; cases he; exact s_tload hg hp.1 hd h
        · cases he
      · cases he
    · cases he
  | iastore =>
    replace he : x_iastore L S σ c k v = some (L', S', σ', Ps) := he
    simp only [nxt, Option.ite_none_right_eq_some, Option.some.injEq] at hn
    obtain ⟨hc, rfl⟩ := hn
    subst hc
    unfold x_iastore at he
    split at he
    · split at he
      · rename_i hk; cases he; exact s_iastore hk hp.1 hd h
      · cases he
    · cases he
  | baload =>
    replace he : x_baload L S σ c k v = some (L', S', σ', Ps) := he
    simp only [nxt, Option.ite_none_right_eq_some, Option.some.injEq] at hn
    obtain ⟨hc, rfl⟩ := hn
    subst hc
    unfold x_baload at he
    split at he
    · split at he
      · rename_i hk; cases he; exact s_baload hk hp.1 hd h
      · cases he
    · cases he
  | bastore =>
    replace he : x_bastore L S σ c k v = some (L', S', σ', Ps) := he
    simp only [nxt, Option.ite_none_right_eq_some, Option.some.injEq] at hn
    obtain ⟨hc, rfl⟩ := hn
    subst hc
    unfold x_bastore at he
    split at he
    · split at he
      · rename_i hk; cases he; exact s_bastore hk hp.1 hp.2.1 hd h
      · cases he
    · cases he
  | aaload =>
    replace he : x_aaload L S σ c k v = some (L', S', σ', Ps) := he
    simp only [nxt, Option.ite_none_right_eq_some, Option.some.injEq] at hn
    obtain ⟨hc, rfl⟩ := hn
    subst hc
    unfold x_aaload at he
    split at he
    · split at he
      · rename_i hk; cases he; exact s_aaload hk hp.1 hd h
      · cases he
    · cases he
  | arraylength =>
    replace he : x_arraylength L S σ c k v = some (L', S', σ', Ps) := he
    simp only [nxt, Option.ite_none_right_eq_some, Option.some.injEq] at hn
    obtain ⟨hc, rfl⟩ := hn
    subst hc
    unfold x_arraylength at he
    split at he
    · split at he
      · rename_i hk; cases he; exact s_alen hk hd h
      · split at he
        · rename_i hg; cases he; subst hg; exact s_slen hd h
        · cases he
      · cases he
    · cases he
  | goto n =>
    replace he : x_goto n L S σ c k v = some (L', S', σ', Ps) := he
    simp only [nxt, Option.ite_none_right_eq_some, Option.some.injEq] at hn
    obtain ⟨hc, rfl⟩ := hn
    obtain ⟨rfl, hc⟩ := hc
    unfold x_goto at he
    cases he; exact r_goto hd (by omega) h
  | _ => cases he
def exs : List Ins → List AV → List AV → Hp → XR
  | [], L, S, σ => some (L, S, σ, [])
  | i :: r, L, S, σ => match ex1 i.1 i.2.1 i.2.2.1 i.2.2.2 L S σ with
    | some (L', S', σ', Ps) => (match exs r L' S' σ' with
      | some (L2, S2, σ2, Ps2) => some (L2, S2, σ2, Ps ++ Ps2)
      | none => none)
    | none => none
def chk (M : Mt) : Nat → List Ins → Option Nat
  | pc, [] => some pc
  | pc, i :: r => match decode M.2.1 pc with
    | .ok (j, len) => if j = i.1 then (match nxt M i.1 i.2.1 i.2.2.1 i.2.2.2 pc len with
      | some pc' => chk M pc' r
      | none => none) else none
    | _ => none
theorem andL_app : ∀ {a b : List Prop}, andL (a ++ b) → andL a ∧ andL b
  | [], _, h => ⟨trivial, h⟩
  | p :: a, b, h => ⟨⟨h.1, (andL_app (a := a) h.2).1⟩, (andL_app (a := a) h.2).2⟩
theorem r_blk {d : Nat} {M : Mt} {Q : Option Int → Hp → Prop} : ∀ (is : List Ins) {pc pc' : Nat} {L S L' S' : List AV} {σ σ' : Hp} {Ps : List Prop}, chk M pc is = some pc' → exs is L S σ = some (L', S', σ', Ps) → andL Ps → Runs d M pc' L' S' σ' Q → Runs d M pc L S σ Q
  | [], pc, pc', L, S, L', S', σ, σ', Ps, hc, he, hp, h => by
    cases hc
    cases he
    exact h
  | i :: r, pc, pc', L, S, L', S', σ, σ', Ps, hc, he, hp, h => by
    unfold chk at hc
    unfold exs at he
    split at hc
    · rename_i j len hd
      split at hc
      · rename_i hj
        subst hj
        split at hc
        · rename_i pc1 hn
          split at he
          · rename_i L1 S1 σ1 Ps1 he1
            split at he
            · rename_i L2 S2 σ2 Ps2 he2
              cases he
              obtain ⟨p1, p2⟩ := andL_app hp
              exact ex1_sound hd hn he1 p1 (r_blk r hc he2 p2 h)
            · cases he
          · cases he
        · cases hc
      · cases hc
    · cases hc
end
section
/-! a method out of its walk; calls -/
def rmD (d : Nat) : Room := { frames := d, cells := 0, slots := 0, locals := 64 * d }
def wM (M : Mt) : List Cond := Cond.code M.1 M.2.1 M.2.2.1 M.2.2.2.1 :: gTbl
def rvO (rv : Option Int) : Option Value := rv.map (fun z => .int (n32 z))
theorem rvO_S (rv : Option Int) : (rvO rv).toList = rvS rv := by cases rv <;> rfl
def WT (G : Gw) (u : Hp) (t : State) : Prop := va_P G.2.1 clsL (wsOf G u) t.heap ∧ va_D (AD G) (wsOf G u) ∧ RO G (AD G) u t ∧ okH u
def PcW (G : Gw) (σ : Hp) (as : List AV) : Array Value → State → Prop := va_Pc (as.map (cvv G.1)) (fun U => WT G σ U ∧ va_K G.2.1 clsL (tysOf G) U ∧ NW U)
def QcW (G : Gw) (M : Mt) (Q : Option Int → Hp → Prop) : Array Value → State → Outcome → State → Prop := fun _ st oc t => (∃ (rv : Option Int) (u : Hp), oc = .returned (rvO rv) ∧ Q rv u ∧ okRv M rv ∧ WT G u t) ∧ va_F (AD G) st t
def eL : List AV → List AV
  | [] => []
  | .inr (.inr (.inl x)) :: r => zJ x :: zU :: eL r
  | v :: r => v :: eL r
def L0 (n : Nat) (as : List AV) : List AV := eL as ++ List.replicate (n - (eL as).length) zU
def noU (as : List AV) : Bool := as.all (fun v => match v with
  | .inr (.inr (.inr _)) => false
  | _ => true)
theorem lvl_rep {ad : Nat → Nat → Nat} : ∀ (n k : Nat), lvl ad k (List.replicate n zU) = []
  | 0, _ => rfl
  | n + 1, k => by
    rw [List.replicate_succ]
    show lvl ad (k + 1) (List.replicate n zU) = []
    exact lvl_rep n (k + 1)
theorem lvl_args {ad : Nat → Nat → Nat} {r : Nat} : ∀ (as : List AV) (k : Nat), noU as = true → lvl ad k (eL as ++ List.replicate r zU) = lv_args k (as.map (cvv ad))
  | [], k, _ => lvl_rep r k
  | v :: as, k, h => by
    have h2 : noU as = true := by
      simp only [noU, List.all_cons, Bool.and_eq_true] at h ⊢
      exact h.2
    rcases v with z | q | x | u
    · show (k, Value.int (n32 z)) :: lvl ad (k + 1) (eL as ++ List.replicate r zU) = _
      rw [lvl_args as (k + 1) h2]
      rfl
    · show (k, Value.ref (ad q.1 q.2)) :: lvl ad (k + 1) (eL as ++ List.replicate r zU) = _
      rw [lvl_args as (k + 1) h2]
      rfl
    · show (k, Value.long x) :: lvl ad (k + 1 + 1) (eL as ++ List.replicate r zU) = _
      rw [lvl_args as (k + 1 + 1) h2]
      rfl
    · simp [noU] at h
theorem eL_len {ad : Nat → Nat → Nat} : ∀ (as : List AV), (lg_sl (as.map (cvv ad))).length = (eL as).length
  | [] => rfl
  | v :: as => by
    have ih := eL_len (ad := ad) as
    rcases v with z | q | x | u
    · show (lg_sl (Value.int (n32 z) :: as.map (cvv ad))).length = (eL as).length + 1
      simp only [lg_sl, List.flatMap_cons, Value.category, List.length_append] at ih ⊢
      rw [ih]; simp; omega
    · show (lg_sl (Value.ref (ad q.1 q.2) :: as.map (cvv ad))).length = (eL as).length + 1
      simp only [lg_sl, List.flatMap_cons, Value.category, List.length_append] at ih ⊢
      rw [ih]; simp; omega
    · show (lg_sl (Value.long x :: as.map (cvv ad))).length = (eL as).length + 1 + 1
      simp only [lg_sl, List.flatMap_cons, Value.category, List.length_append] at ih ⊢
      rw [ih]; simp; omega
    · show (lg_sl (Value.null :: as.map (cvv ad))).length = (eL as).length + 1
      simp only [lg_sl, List.flatMap_cons, Value.category, List.length_append] at ih ⊢
      rw [ih]; simp; omega
theorem eL_ok : ∀ {as : List AV}, okVs as → okVs (eL as)
  | [], h => h
  | v :: as, h => by
    have ih := eL_ok (okVs_tl h)
    rcases v with z | q | x | u
    · exact okVs_cons (okVs_hd h) ih
    · exact okVs_cons (okVs_hd h) ih
    · exact okVs_cons trivial (okVs_cons trivial ih)
    · exact okVs_cons trivial ih
theorem L0_ok {n : Nat} {as : List AV} (h : okVs as) : okVs (L0 n as) := fun v hv => by
  rcases List.mem_append.mp hv with q | q
  · exact eL_ok h v q
  · rw [List.eq_of_mem_replicate q]; trivial
theorem toMet {l : Launch} {d : Nat} {M : Mt} {σ : Hp} {as : List AV} {Q : Option Int → Hp → Prop} (hy : plainName M.1.cls = true) (hn : noU as = true) (hlen : (eL as).length ≤ M.2.2.1) (hok : okVs as) (h : Runs d M 0 (L0 M.2.2.1 as) [] σ Q) (G : Gw) :
    Met l M.1 (wM M) (rmD d) (PcW G σ as) (QcW G M Q) 0 0 (AD G) := by
  refine Met.ofW (cc := M.2.1) (maxL := M.2.2.1) (ret := M.2.2.2.1) hy rfl ?_
  intro p e s m args below meth c s₁ B hml hv
  obtain ⟨rfl, ⟨hP, hD, hRO, hH⟩, hK, hNW⟩ := hv
  have hx := B.exec
  have hb := B.bytes
  have hr := B.returns
  have hts := atoms_spec (ws := wM M) B.pre
  have hown : s.vm.findClass M.1.cls = some m.cls := findClass_of_methodNamed B.named
  have hlocks := B.notSynchronized
  rw [lg_entry_eq]
  have hl := lv_entry (as.map (cvv G.1)) (n := M.2.2.1) (by rw [eL_len]; exact hlen)
  generalize hls : (lg_sl (as.map (cvv G.1)) ++ List.replicate (M.2.2.1 - (lg_sl (as.map (cvv G.1))).length) Slot.unset).toArray = ls at hl
  have hrel : lrel G.1 ls M.2.2.1 (L0 M.2.2.1 as) := by
    refine ⟨?_, ?_⟩
    · unfold L0; rw [List.length_append, List.length_replicate]; omega
    · unfold L0; rw [lvl_args as 0 hn]; exact hl
  refine h (L0_ok hok) (fun v hv => by cases hv) G p l e (rmD d) s m _ below meth c 0 0 (AD G) _ ⟨hx, hb, hml, hown, fun w hw => hts w (List.mem_cons_of_mem _ hw), ⟨Nat.le_refl _, Nat.le_refl _, Nat.le_refl _, Nat.le_refl _, hNW⟩, hK⟩ s.heap [] ls ⟨hP, hD, va_S.rf, hRO, hH⟩ hrel ?_
  intro rv σ' H' locs' ls' pc' hq hret hW'
  have post : ∀ t : State, t.heap = H' → s.WarmedH t.vm → QcW G M Q (as.map (cvv G.1)).toArray s (.returned (rvO rv)) t := fun t ht hW => by
    refine ⟨⟨rv, σ', rfl, hq, hret.1, ?_, hW'.2.1, hW'.2.2.2.1.kept hW'.2.2.1 ht hW.alike (fun _ h => h), hW'.2.2.2.2⟩, hW'.2.2.1.F ht⟩
    rw [ht]; exact hW'.1
  cases rv with
  | none =>
    have h1 : M.2.2.2.1 = none := hret.1
    exact W.vret hx hb (hr.trans h1) post hW'.2.2.1.2.2 hret.2
  | some z =>
    obtain ⟨⟨h1, h2⟩, h3⟩ := hret
    rcases h2 with h2 | ⟨h2, h4⟩
    · exact W.iret hx hb (hr.trans h2) post hW'.2.2.1.2.2 h3
    · exact W.zret hx hb (hr.trans h2) (narrow_z h4) post hW'.2.2.1.2.2 h3
theorem AD_in {G : Gw} {A : Nat → Prop} {σ : Hp} (h : va_D A (wsOf G σ)) : ∀ q, AD G q → A q := by
  rintro q ⟨g, i, hm, rfl⟩
  obtain ⟨k, hk, -⟩ := ws_at G σ (IDX_mem.mp hm).1 (IDX_mem.mp hm).2
  exact h.2 k _ hk
theorem D_AD {G : Gw} {A : Nat → Prop} {σ : Hp} (h : va_D A (wsOf G σ)) : va_D (AD G) (wsOf G σ) := by
  refine ⟨h.1, fun k q hk => ?_⟩
  unfold wsOf at hk
  rw [List.getElem?_map] at hk
  cases hq : IDX[k]? with
  | none => rw [hq] at hk; cases hk
  | some gi =>
    rw [hq] at hk
    cases hk
    exact ⟨gi.1, gi.2, List.mem_of_getElem? hq, rfl⟩
/-- behind a call -/
theorem callW {p : Program} {l : Launch} {e : Env} {R : Room} {s : State} {m : MethodId} {args : Array Value} {below : List Frame} {meth : Method} {c : Code} {H : Heap} {locs : List Loc} {cells slots : Nat} {QQ : State → Prop} {pc : Nat} {ls : Array Slot} {st0 rest : List Value} {a : Array Value}
    {G : Gw} {A : Nat → Prop} {σ : Hp} {Mc : Mt} {Q' : Option Int → Hp → Prop} (hr : va_Run p l e R s m args below meth c H locs cells slots 0 0 (F0 m pc ls st0) rest (QcW G Mc Q' a) (AD G)) (hW : Wld G A σ s H locs)
    (kk : ∀ (rv : Option Int) (σ' : Hp) (H' : Heap) (locs' : List Loc), Q' rv σ' → okRv Mc rv → Wld G A σ' s H' locs' → W p l e R s m args below meth c H' locs' cells slots QQ (F0 m (pc + 3) ls (rvS rv ++ rest))) : W p l e R s m args below meth c H locs cells slots QQ (F0 m pc ls st0) := by
  intro T hT X
  obtain ⟨v, st₀, t, T', L, h0, X', hL, e1, e2, ⟨⟨rv, u, hv, hq, hrv, hP1, hD1, hRO1, hH1⟩, hz, hk⟩, st⟩ := hr T hT X
  rw [h0] at hz hk
  obtain ⟨hP, hD, hS, hRO, hH⟩ := hW
  have hAD := AD_in hD
  have hv2 : v = rvO rv := by
    cases hv
    rfl
  subst hv2
  have hS' : va_S A s.heap T'.heap (locs ++ L) := ⟨Nat.le_trans hS.1 (by rw [e1]; exact hz), fun q h1 h2 => by rw [e1, hk q (Nat.lt_of_lt_of_le h1 hS.1) (fun z => h2 (hAD q z))]; exact hS.2.1 q h1 h2, fun q hq => by
      rcases List.mem_append.mp hq with h | h
      · exact hS.2.2 q h
      · exact hAD _ (hL q h)⟩
  have hRO' : RO G A u s := by
    obtain ⟨⟨⟨scr, a1, a2, a3, a4, a5⟩, b1, b2⟩, ⟨b3, b4⟩, b5⟩ := id hRO
    obtain ⟨⟨⟨scr', c1, c2, c3, c4, c5⟩, d1, d2⟩, ⟨d3, d4⟩, d5⟩ := hRO1
    refine hRO.out (fun j hj => ?_) (by rw [d3, b3]) (fun g hg j hj => ?_)
    · have hh : t.heap[G.1 60 0]? = s.heap[G.1 60 0]? := by rw [hk _ (Nat.lt_of_lt_of_le b1 hS.1) d2]; exact hS.2.1 _ b1 b2
      rw [c1, a1] at hh
      cases hh
      have := (c5 j hj).symm.trans (a5 j hj)
      exact Value.int.inj (Option.some.inj this)
    · obtain ⟨cell, f1, f2, f3, f4, f5, f6, f7⟩ := (b5 g hg).2
      obtain ⟨cell', g1, g2, g3, g4, g5, g6, g7⟩ := (d5 g hg).2
      have hlt : G.1 g 0 < s.heap.size := (Array.getElem?_eq_some_iff.mp f1).1
      have hh : t.heap[G.1 g 0]? = s.heap[G.1 g 0]? := by rw [hk _ (Nat.lt_of_lt_of_le hlt hS.1) g7]; exact hS.2.1 _ hlt f7
      rw [g1, f1] at hh
      cases hh
      have := (g6 j hj).symm.trans (f6 j hj)
      exact Value.int.inj (Option.some.inj this)
  obtain ⟨t2, a1, b1⟩ := kk rv u T'.heap (locs ++ L) hq hrv ⟨by rw [e1]; exact hP1, ⟨hD1.1, fun k q hk => hAD _ (hD1.2 k q hk)⟩, hS', hRO', hH1⟩ T' rfl X'
  refine ⟨t2, st t2 ?_, b1⟩
  rw [rvO_S]
  exact a1
def okMc (Mc : Mt) (n : Nat) : Prop := plainName Mc.1.cls = true ∧ Cond.code Mc.1 Mc.2.1 Mc.2.2.1 Mc.2.2.2.1 ∈ gTbl ∧ Cond.initialized Mc.1.cls ∈ gTbl ∧ (Mc.1.cls ≠ "java/lang/invoke/MethodHandle" ∧ Mc.1.cls ≠ "java/lang/invoke/VarHandle") ∧ (parseMethodDescriptor Mc.1.desc).map (fun d => d.parameters.length) = some n ∧ Mc.2.2.1 ≤ 45
def okVc (Mc : Mt) : Prop := Cond.instanceMethod Mc.1 ∈ gTbl ∧ Cond.selects Mc.1.cls Mc.1 Mc.1 ∈ gTbl
def rvL (rv : Option Int) : List AV := match rv with
  | none => []
  | some z => [zI z]
theorem rvL_S (ad : Nat → Nat → Nat) (rv : Option Int) : (rvL rv).map (cvv ad) = rvS rv := by cases rv <;> rfl
theorem gTbl_good {w : Cond} (h : w ∈ gTbl) : (w.onTables && w.keeps) = true ∨ ∃ ty, w = .arrayClass ty := good_of_word (List.mem_filter.mp h).2
theorem wM_good {Mc : Mt} (h : Cond.code Mc.1 Mc.2.1 Mc.2.2.1 Mc.2.2.2.1 ∈ gTbl) : GoodIn gTbl (wM Mc) := fun w hw => by
  rcases List.mem_cons.mp hw with rfl | hw
  · exact ⟨h, gTbl_good h⟩
  · exact ⟨hw, gTbl_good hw⟩
def catS : List AV → Nat
  | [] => 0
  | .inr (.inr (.inl _)) :: r => 2 + catS r
  | _ :: r => 1 + catS r
theorem catS_of {ad : Nat → Nat → Nat} : ∀ (S : List AV), ((S.map (cvv ad)).map fun v => v.category).sum = catS S
  | [] => rfl
  | v :: S => by
    have ih := catS_of (ad := ad) S
    rcases v with z | q | x | u
    · show 1 + ((S.map (cvv ad)).map fun v => v.category).sum = 1 + catS S
      rw [ih]
    · show 1 + ((S.map (cvv ad)).map fun v => v.category).sum = 1 + catS S
      rw [ih]
    · show 2 + ((S.map (cvv ad)).map fun v => v.category).sum = 2 + catS S
      rw [ih]
    · show 1 + ((S.map (cvv ad)).map fun v => v.category).sum = 1 + catS S
      rw [ih]
theorem okVs_app {a b : List AV} (h : okVs (a ++ b)) : okVs a ∧ okVs b := ⟨fun v hv => h v (List.mem_append_left _ hv), fun v hv => h v (List.mem_append_right _ hv)⟩
theorem okRv_L {Mc : Mt} {rv : Option Int} {S : List AV} (h : okRv Mc rv) (hS : okVs S) : okVs (rvL rv ++ S) := by
  cases rv with
  | none => exact hS
  | some z => exact okVs_cons h.1 hS
theorem blind {G : Gw} {σ : Hp} {as : List AV} : FrameBlind (PcW G σ as) := fun a U g mk q => by
  obtain ⟨q0, ⟨q1, q2, q3, q4⟩, q5, q6⟩ := q
  exact ⟨q0, ⟨q1, q2, RO.moved (u := U) (U := U.calling g mk a) (Vm.Alike.refl U.vm) rfl q3, q4⟩, va_K.moved (u := U) (U := U.calling g mk a) (Vm.Alike.refl U.vm) q5, fun a1 i1 x1 h1 hm => va_Nw.same (u := U) (U := U.calling g mk a) rfl rfl (q6 a1 i1 x1 h1 hm)⟩
theorem preW {G : Gw} {A : Nat → Prop} {σ : Hp} {s : State} {H : Heap} {locs : List Loc} {as : List AV} (hW : Wld G A σ s H locs) (hK : va_K G.2.1 clsL (tysOf G) s) (hN : NW s) : ∀ U : State, U.heap = H → s.WarmedH U.vm → PcW G σ as (as.map (cvv G.1)).toArray U := fun U hU hw => by
  refine ⟨rfl, ⟨by rw [hU]; exact hW.1, D_AD hW.2.1, hW.2.2.2.1.kept hW.2.2.1 hU hw.alike (AD_in hW.2.1), hW.2.2.2.2⟩, hK.moved hw.alike, fun a1 i1 x1 h1 hm => va_Nw.warmM hw (hN a1 i1 x1 h1 hm)⟩
/-- a call of an object's method -/
theorem r_callV {d d' : Nat} {M Mc : Mt} {pc : Nat} {L S S0 As Lc : List AV} {σ : Hp} {Q Q' : Option Int → Hp → Prop} {g x idx pl n ci : Nat} (hM : okMc Mc n) (hV : okVc Mc) (hlk : lw_tbl[pl]? = some (.methodLink M.1.cls idx Mc.1)) (hd : decode M.2.1 pc = .ok (.invokevirtual idx, 3)) (hdep : d' + 1 ≤ d) (hg : (shp g).1 = ci + 3) (hcls : (clsT ci).1 = Mc.1.cls) (hci : ci < 12)
    (hS0 : S0 = As.reverse ++ zR g x :: S) (hn : As.length = n) (hcat : catS S ≤ 8) (hU : noU (zR g x :: As) = true) (hLc : L0 Mc.2.2.1 (zR g x :: As) = Lc) (hle : (eL (zR g x :: As)).length ≤ Mc.2.2.1) (hc : Runs d' Mc 0 Lc [] σ Q') (k : ∀ rv σ', Q' rv σ' → okRv Mc rv → Runs d M (pc + 3) L (rvL rv ++ S) σ' Q) : Runs d M pc L S0 σ Q := by
  subst hS0
  subst hLc
  intro oL oS G p l e R s m args below meth c cells slots A QQ C H locs ls hW hl kk
  obtain ⟨oA, oB⟩ := okVs_app oS
  have oAs : okVs (zR g x :: As) := okVs_cons (okVs_hd oB) (fun v hv => oA v (List.mem_reverse.mpr hv))
  have hmet := toMet (l := l) hM.1 hU hle oAs hc G
  obtain ⟨hx, hb, hml, hown, hts, hR, hK⟩ := id C
  obtain ⟨m1, m2, m3, m4, m5, m6⟩ := hM
  have hlk2 : Cond.methodLink M.1.cls idx Mc.1 ∈ gTbl := gTbl_in hlk rfl
  obtain ⟨q0, he, -⟩ := ws_at G σ (kind_lt (g := g) (by rw [hg]; omega)) (okVs_hd oB)
  rw [cell_obj hg] at he
  obtain ⟨i1, i2, i3, i4⟩ := cls_in ci hci
  have hrun := va_runV (H := H) (locs := locs) (cells := cells) (slots := slots) (below := below) (meth := meth) (e := e) (As := As.map (cvv G.1)) (rest := S.map (cvv G.1)) (g := F0 m pc ls ((As.reverse ++ zR g x :: S).map (cvv G.1))) (b := G.1 g x) (C := Mc.1.cls) (n := n) (R := R) (mc := 0) (ms := 0) ⟨hx, hb, hml, hown, hts⟩ hmet
    ⟨callB_of n hts (wM_good m2) rfl rfl rfl (hts _ m3) (hts _ hlk2) ⟨m4.1, m4.2, m5⟩ ⟨by show d' + 1 ≤ R.frames; omega, by show 8 + (Mc.2.2.1 + 11) + 64 * d' ≤ R.locals; omega⟩, hts _ hV.1, hts _ hV.2⟩
    ⟨blind, by have hrc := va_recv hK hW.1 i4 he; rw [hcls] at hrc; exact hrc, by have hpp := preW (as := zR g x :: As) hW hK hR.2.2.2.2; exact hpp⟩ rfl (by rw [List.length_map]; exact hn) hl.2.1 (by simp [cvv]) (by rw [catS_of]; show 2 * 0 + catS S ≤ 8; omega) hd ⟨by omega, by omega⟩
  refine callW hrun hW (fun rv σ' H' locs' hq hrv hW' => ?_)
  have := k rv σ' hq hrv oL (okRv_L hrv (okVs_tl oB)) G p l e R s m args below meth c cells slots A QQ C H' locs' ls hW' hl kk
  rw [List.map_append, rvL_S] at this
  exact this
/-- a call of a static method -/
theorem r_callS {d d' : Nat} {M Mc : Mt} {pc : Nat} {L S S0 As Lc : List AV} {σ : Hp} {Q Q' : Option Int → Hp → Prop} {idx pl n : Nat} (hM : okMc Mc n) (hV : Cond.static Mc.1 ∈ gTbl) (hlk : lw_tbl[pl]? = some (.methodLink M.1.cls idx Mc.1)) (hd : decode M.2.1 pc = .ok (.invokestatic idx, 3)) (hdep : d' + 1 ≤ d)
    (hS0 : S0 = As.reverse ++ S) (hn : As.length = n) (hcat : catS S ≤ 8) (hU : noU As = true) (hLc : L0 Mc.2.2.1 As = Lc) (hle : (eL As).length ≤ Mc.2.2.1) (hc : Runs d' Mc 0 Lc [] σ Q') (k : ∀ rv σ', Q' rv σ' → okRv Mc rv → Runs d M (pc + 3) L (rvL rv ++ S) σ' Q) : Runs d M pc L S0 σ Q := by
  subst hS0
  subst hLc
  intro oL oS G p l e R s m args below meth c cells slots A QQ C H locs ls hW hl kk
  obtain ⟨oA, oB⟩ := okVs_app oS
  have oAs : okVs As := fun v hv => oA v (List.mem_reverse.mpr hv)
  have hmet := toMet (l := l) hM.1 hU hle oAs hc G
  obtain ⟨hx, hb, hml, hown, hts, hR, hK⟩ := id C
  obtain ⟨m1, m2, m3, m4, m5, m6⟩ := hM
  have hlk2 : Cond.methodLink M.1.cls idx Mc.1 ∈ gTbl := gTbl_in hlk rfl
  have hrun := va_runS (H := H) (locs := locs) (cells := cells) (slots := slots) (below := below) (meth := meth) (e := e) (As := As.map (cvv G.1)) (rest := S.map (cvv G.1)) (g := F0 m pc ls ((As.reverse ++ S).map (cvv G.1))) (n := n) (R := R) (mc := 0) (ms := 0) ⟨hx, hb, hml, hown, hts⟩ hmet
    ⟨callB_of n hts (wM_good m2) rfl rfl rfl (hts _ m3) (hts _ hlk2) ⟨m4.1, m4.2, m5⟩ ⟨by show d' + 1 ≤ R.frames; omega, by show 8 + (Mc.2.2.1 + 11) + 64 * d' ≤ R.locals; omega⟩, hts _ hV⟩
    ⟨blind, preW hW hK hR.2.2.2.2⟩ rfl (by rw [List.length_map]; exact hn) hl.2.1 (by simp) (by rw [catS_of]; show 2 * 0 + catS S ≤ 8; omega) hd ⟨by omega, by omega⟩
  refine callW hrun hW (fun rv σ' H' locs' hq hrv hW' => ?_)
  have := k rv σ' hq hrv oL (okRv_L hrv oB) G p l e R s m args below meth c cells slots A QQ C H' locs' ls hW' hl kk
  rw [List.map_append, rvL_S] at this
  exact this
/-- a call of a nest mate's static method -/
theorem r_callN {d d' : Nat} {M Mc : Mt} {pc : Nat} {L S S0 As Lc : List AV} {σ : Hp} {Q Q' : Option Int → Hp → Prop} {idx pl n : Nat} {host : String} (hM : okMc Mc n) (hV : Cond.static Mc.1 ∈ gTbl) (hlk : lw_tbl[pl]? = some (.methodLinkNest M.1.cls idx Mc.1 host)) (hd : decode M.2.1 pc = .ok (.invokestatic idx, 3)) (hdep : d' + 1 ≤ d)
    (hS0 : S0 = As.reverse ++ S) (hn : As.length = n) (hcat : catS S ≤ 8) (hU : noU As = true) (hLc : L0 Mc.2.2.1 As = Lc) (hle : (eL As).length ≤ Mc.2.2.1) (hc : Runs d' Mc 0 Lc [] σ Q') (k : ∀ rv σ', Q' rv σ' → okRv Mc rv → Runs d M (pc + 3) L (rvL rv ++ S) σ' Q) : Runs d M pc L S0 σ Q := by
  subst hS0
  subst hLc
  intro oL oS G p l e R s m args below meth c cells slots A QQ C H locs ls hW hl kk
  obtain ⟨oA, oB⟩ := okVs_app oS
  have oAs : okVs As := fun v hv => oA v (List.mem_reverse.mpr hv)
  have hmet := toMet (l := l) hM.1 hU hle oAs hc G
  obtain ⟨hx, hb, hml, hown, hts, hR, hK⟩ := id C
  obtain ⟨m1, m2, m3, m4, m5, m6⟩ := hM
  have hlk2 := va_Nw.use (A := args) rfl (hR.2.2.2.2 _ _ _ _ (List.mem_of_getElem? hlk))
  have hrun := va_runSN (host := host) (own := M.1.cls) (index := idx) (H := H) (locs := locs) (cells := cells) (slots := slots) (below := below) (meth := meth) (e := e) (As := As.map (cvv G.1)) (rest := S.map (cvv G.1)) (g := F0 m pc ls ((As.reverse ++ S).map (cvv G.1))) (n := n) (R := R) (mc := 0) (ms := 0) (Ts := gTbl) ⟨hx, hb, hml, hown, hts⟩ hmet
    ⟨⟨⟨rfl, rfl, by show d' + 1 ≤ R.frames; omega, by show 8 + (Mc.2.2.1 + 11) + 64 * d' ≤ R.locals; omega, pay_in hts (wM_good m2), List.mem_cons_self⟩, hts _ m2, hts _ m3, m4, fun sig h => by rw [h] at m5; exact (Option.some.inj m5).symm, hlk2⟩, hts _ hV, trivial⟩
    ⟨blind, preW hW hK hR.2.2.2.2⟩ rfl (by rw [List.length_map]; exact hn) hl.2.1 (by simp) (by rw [catS_of]; show 2 * 0 + catS S ≤ 8; omega) hd ⟨by omega, by omega⟩
  refine callW hrun hW (fun rv σ' H' locs' hq hrv hW' => ?_)
  have := k rv σ' hq hrv oL (okRv_L hrv oB) G p l e R s m args below meth c cells slots A QQ C H' locs' ls hW' hl kk
  rw [List.map_append, rvL_S] at this
  exact this
end
section
/-! System.arraycopy over ints -/
def zcpy (σ : Hp) (gs xs gd xd n : Nat) : Hp := fun g i j => if g = gd ∧ i = xd ∧ j < n then σ gs xs j else σ g i j
theorem w_copy : lw_tbl[496]? = some (Cond.native arraycopyName) ∧ lw_tbl[76]? = some (Cond.initialized "java/lang/System") ∧ lw_tbl[495]? = some (Cond.static arraycopyName) := ⟨by decide +kernel, by decide +kernel, by decide +kernel⟩
theorem r_copy {d : Nat} {M : Mt} {pc : Nat} {L S : List AV} {σ : Hp} {Q : Option Int → Hp → Prop} {gs xs gd xd idx pl n : Nat} (hlk : lw_tbl[pl]? = some (.methodLink M.1.cls idx arraycopyName)) (hd : decode M.2.1 pc = .ok (.invokestatic idx, 3)) (hdep : 1 ≤ d) (hs : shp gs = shp gd) (hk : (shp gd).1 = 0) (hn : n ≤ (shp gd).2.2.1) (hcat : catS S ≤ 8) (hne : (gs, xs) ≠ (gd, xd))
    (h : Runs d M (pc + 3) L S (zcpy σ gs xs gd xd n) Q) : Runs d M pc L (zI (n : Int) :: zI 0 :: zR gd xd :: zI 0 :: zR gs xs :: S) σ Q := by
  have hg : gd < 52 := kind_lt (by omega)
  have hks : (shp gs).1 = 0 := by rw [hs]; exact hk
  have hgs : gs < 52 := kind_lt (by omega)
  have hsm : ∀ g, g < 52 → (shp g).2.2.1 < 1000 := by decide +kernel
  have hsm := hsm gd hg
  refine Runs.step (L' := L) (S' := S) (σ' := zcpy σ gs xs gd xd n) (fun oL oS oH => ⟨oL, okVs_tl (okVs_tl (okVs_tl (okVs_tl (okVs_tl oS))))⟩) (fun G p l e R s m args below meth c cells slots A QQ C oL oS H locs ls hW hl kk => ?_) h
  obtain ⟨hx, hb, hml, hown, hts, hR, hK⟩ := C
  obtain ⟨q0, he0, hq0⟩ := ws_at G σ hgs (okVs_hd (okVs_tl (okVs_tl (okVs_tl (okVs_tl oS)))))
  obtain ⟨q1, he1, hq1⟩ := ws_at G σ hg (okVs_hd (okVs_tl (okVs_tl oS)))
  obtain ⟨t0, ht0⟩ := ty_at G hgs (by omega)
  obtain ⟨t1, ht1⟩ := ty_at G hg (by omega)
  rw [cell_int hks] at he0
  rw [cell_int hk] at he1
  rw [show atyG gs = .int by unfold atyG; rw [hks]; rfl] at ht0
  rw [show atyG gd = .int by unfold atyG; rw [hk]; rfl] at ht1
  have e0 : ((n32 0).toNatClampNeg : Nat) = 0 := rfl
  have en : ((n32 (n : Int)).toNatClampNeg : Nat) = n := by rw [n32_nat (by omega) ⟨by omega, by omega⟩]; omega
  have nn : ∀ z : Int, 0 ≤ z → inR z → ¬ n32 z < 0 := fun z h1 h2 q => by
    have : n32 z < n32 0 := q
    rw [n32_lt h2 inR_0] at this
    omega
  refine va_copyi hx hb (hml.trans hl.2.1.symm) hown (hts _ (gTbl_in hlk rfl)) (hts _ (gTbl_in w_copy.1 rfl)) (hts _ (gTbl_in w_copy.2.2 rfl)) (hts _ (gTbl_in w_copy.2.1 rfl)) hK hW.1 hW.2.1 hW.2.2.1 q0 q1 t0 t1 he0 he1 ht0 ht1 rfl (sp := n32 0) (dp := n32 0) (n := n32 (n : Int)) (nn 0 (by omega) inR_0) (nn 0 (by omega) inR_0) (nn n (by omega) ⟨by omega, by omega⟩) (by rw [e0, en, hs]; omega) (by rw [e0, en]; omega) (fun _ _ => rfl) (by omega) ?_ hd (fun H1 locs1 p1 p2 p3 => ?_)
  · rw [catS_of]
    have : nativeFrameWords "java/lang/System" "arraycopy" 5 = 7 := by decide
    omega
  · refine kk H1 locs1 ls ?_ hl
    have hc : cellOf G (zcpy σ gs xs gd xd n) gd xd = .inl (G.2.2.1 gd, (shp gd).2.2.1, .inl (va_cpy (fun j => n32 (σ gs xs j)) (fun j => n32 (σ gd xd j)) (n32 0).toNatClampNeg (n32 0).toNatClampNeg (n32 (n : Int)).toNatClampNeg)) := by
      rw [cell_int hk, e0, en]
      congr 4
      funext j
      by_cases hj : j < n
      · simp [zcpy, va_cpy, hj]
      · simp [zcpy, va_cpy, hj]
    have hneq : ∀ g' i', (g', i') ≠ (gd, xd) → (zcpy σ gs xs gd xd n) g' i' = σ g' i' := fun g' i' hh => by
      funext j
      unfold zcpy
      rw [if_neg]
      rintro ⟨rfl, rfl, -⟩
      exact hh rfl
    have hws := ws_set (G := G) (σ := σ) (σ' := zcpy σ gs xs gd xd n) hq1 (fun g' i' hh => cell_ne (hneq g' i' hh))
    have hset : (wsOf G σ).set q1 (G.1 gd xd, .inl (G.2.2.1 gd, (shp gd).2.2.1, .inl (va_cpy (fun j => n32 (σ gs xs j)) (fun j => n32 (σ gd xd j)) (n32 0).toNatClampNeg (n32 0).toNatClampNeg (n32 (n : Int)).toNatClampNeg))) = wsOf G (zcpy σ gs xs gd xd n) := by rw [← hc]; exact hws
    refine ⟨hset ▸ p1, hset ▸ p2, p3, hW.2.2.2.1.same ?_ ?_ ?_, fun g i j => ?_⟩
    · funext i'; exact hneq _ _ (fun e => by cases e; omega)
    · funext i'; exact hneq _ _ (fun e => by cases e; omega)
    · funext i'; exact hneq _ _ (fun e => by cases e; omega)
    · unfold zcpy
      split
      · exact hW.2.2.2.2 _ _ _
      · exact hW.2.2.2.2 _ _ _
/-! answers -/
def rI (K : Int → Hp → Prop) : Option Int → Hp → Prop := fun rv σ => match rv with
  | some z => K z σ
  | none => False
def rV (K : Hp → Prop) : Option Int → Hp → Prop := fun rv σ => match rv with
  | some _ => False
  | none => K σ
theorem Runs.monoI {d : Nat} {M : Mt} {pc : Nat} {L S : List AV} {σ : Hp} {K K' : Int → Hp → Prop} (h : Runs d M pc L S σ (rI K)) (hq : ∀ z σ', K z σ' → K' z σ') : Runs d M pc L S σ (rI K') := h.mono (fun rv σ' q => by
  cases rv with
  | none => exact q
  | some z => exact hq z σ' q)
theorem Runs.monoV {d : Nat} {M : Mt} {pc : Nat} {L S : List AV} {σ : Hp} {K K' : Hp → Prop} (h : Runs d M pc L S σ (rV K)) (hq : ∀ σ', K σ' → K' σ') : Runs d M pc L S σ (rV K') := h.mono (fun rv σ' q => by
  cases rv with
  | none => exact hq σ' q
  | some z => exact q)
theorem r_callVI {d d' : Nat} {M Mc : Mt} {pc : Nat} {L S S0 As Lc : List AV} {σ : Hp} {Q : Option Int → Hp → Prop} {g x idx pl n ci : Nat} (hM : okMc Mc n) (hV : okVc Mc) (hlk : lw_tbl[pl]? = some (.methodLink M.1.cls idx Mc.1)) (hd : decode M.2.1 pc = .ok (.invokevirtual idx, 3)) (hdep : d' + 1 ≤ d) (hg : (shp g).1 = ci + 3) (hcls : (clsT ci).1 = Mc.1.cls) (hci : ci < 12)
    (hS0 : S0 = As.reverse ++ zR g x :: S) (hn : As.length = n) (hcat : catS S ≤ 8) (hU : noU (zR g x :: As) = true) (hLc : L0 Mc.2.2.1 (zR g x :: As) = Lc) (hle : (eL (zR g x :: As)).length ≤ Mc.2.2.1) (hc : Runs d' Mc 0 Lc [] σ (rI (fun z σ' => Runs d M (pc + 3) L (zI z :: S) σ' Q))) : Runs d M pc L S0 σ Q :=
  r_callV hM hV hlk hd hdep hg hcls hci hS0 hn hcat hU hLc hle hc (fun rv σ' hq _ => by
    cases rv with
    | none => exact hq.elim
    | some z => exact hq)
theorem r_callVV {d d' : Nat} {M Mc : Mt} {pc : Nat} {L S S0 As Lc : List AV} {σ : Hp} {Q : Option Int → Hp → Prop} {g x idx pl n ci : Nat} (hM : okMc Mc n) (hV : okVc Mc) (hlk : lw_tbl[pl]? = some (.methodLink M.1.cls idx Mc.1)) (hd : decode M.2.1 pc = .ok (.invokevirtual idx, 3)) (hdep : d' + 1 ≤ d) (hg : (shp g).1 = ci + 3) (hcls : (clsT ci).1 = Mc.1.cls) (hci : ci < 12)
    (hS0 : S0 = As.reverse ++ zR g x :: S) (hn : As.length = n) (hcat : catS S ≤ 8) (hU : noU (zR g x :: As) = true) (hLc : L0 Mc.2.2.1 (zR g x :: As) = Lc) (hle : (eL (zR g x :: As)).length ≤ Mc.2.2.1) (hc : Runs d' Mc 0 Lc [] σ (rV (fun σ' => Runs d M (pc + 3) L S σ' Q))) : Runs d M pc L S0 σ Q :=
  r_callV hM hV hlk hd hdep hg hcls hci hS0 hn hcat hU hLc hle hc (fun rv σ' hq _ => by
    cases rv with
    | none => exact hq
    | some z => exact hq.elim)
theorem r_callSI {d d' : Nat} {M Mc : Mt} {pc : Nat} {L S S0 As Lc : List AV} {σ : Hp} {Q : Option Int → Hp → Prop} {idx pl n : Nat} (hM : okMc Mc n) (hV : Cond.static Mc.1 ∈ gTbl) (hlk : lw_tbl[pl]? = some (.methodLink M.1.cls idx Mc.1)) (hd : decode M.2.1 pc = .ok (.invokestatic idx, 3)) (hdep : d' + 1 ≤ d)
    (hS0 : S0 = As.reverse ++ S) (hn : As.length = n) (hcat : catS S ≤ 8) (hU : noU As = true) (hLc : L0 Mc.2.2.1 As = Lc) (hle : (eL As).length ≤ Mc.2.2.1) (hc : Runs d' Mc 0 Lc [] σ (rI (fun z σ' => Runs d M (pc + 3) L (zI z :: S) σ' Q))) : Runs d M pc L S0 σ Q :=
  r_callS hM hV hlk hd hdep hS0 hn hcat hU hLc hle hc (fun rv σ' hq _ => by
    cases rv with
    | none => exact hq.elim
    | some z => exact hq)
theorem r_callSV {d d' : Nat} {M Mc : Mt} {pc : Nat} {L S S0 As Lc : List AV} {σ : Hp} {Q : Option Int → Hp → Prop} {idx pl n : Nat} (hM : okMc Mc n) (hV : Cond.static Mc.1 ∈ gTbl) (hlk : lw_tbl[pl]? = some (.methodLink M.1.cls idx Mc.1)) (hd : decode M.2.1 pc = .ok (.invokestatic idx, 3)) (hdep : d' + 1 ≤ d)
    (hS0 : S0 = As.reverse ++ S) (hn : As.length = n) (hcat : catS S ≤ 8) (hU : noU As = true) (hLc : L0 Mc.2.2.1 As = Lc) (hle : (eL As).length ≤ Mc.2.2.1) (hc : Runs d' Mc 0 Lc [] σ (rV (fun σ' => Runs d M (pc + 3) L S σ' Q))) : Runs d M pc L S0 σ Q :=
  r_callS hM hV hlk hd hdep hS0 hn hcat hU hLc hle hc (fun rv σ' hq _ => by
    cases rv with
    | none => exact hq
    | some z => exact hq.elim)
theorem r_callNI {d d' : Nat} {M Mc : Mt} {pc : Nat} {L S S0 As Lc : List AV} {σ : Hp} {Q : Option Int → Hp → Prop} {idx pl n : Nat} {host : String} (hM : okMc Mc n) (hV : Cond.static Mc.1 ∈ gTbl) (hlk : lw_tbl[pl]? = some (.methodLinkNest M.1.cls idx Mc.1 host)) (hd : decode M.2.1 pc = .ok (.invokestatic idx, 3)) (hdep : d' + 1 ≤ d)
    (hS0 : S0 = As.reverse ++ S) (hn : As.length = n) (hcat : catS S ≤ 8) (hU : noU As = true) (hLc : L0 Mc.2.2.1 As = Lc) (hle : (eL As).length ≤ Mc.2.2.1) (hc : Runs d' Mc 0 Lc [] σ (rI (fun z σ' => Runs d M (pc + 3) L (zI z :: S) σ' Q))) : Runs d M pc L S0 σ Q :=
  r_callN hM hV hlk hd hdep hS0 hn hcat hU hLc hle hc (fun rv σ' hq _ => by
    cases rv with
    | none => exact hq.elim
    | some z => exact hq)
end
